section
/-! The words of the tables (the start of the given skeleton). -/
def lw_okq (q : MethodName × Nat) : Prop := (q.1.cls ≠ "java/lang/invoke/MethodHandle" ∧ q.1.cls ≠ "java/lang/invoke/VarHandle") ∧ Cond.instantiable q.1.cls q.2 ∈ tables_1 ∧ Cond.privateMethod q.1 ∈ tables_1 ∧ Cond.instanceMethod q.1 ∈ tables_1
theorem lw_p0 : lw_okq (⟨"StoneBoard$Areas", "spread", "(II[I)I"⟩, 5) := ⟨⟨by decide +kernel, by decide +kernel⟩, List.mem_of_getElem? (i := 60) (by decide +kernel), List.mem_of_getElem? (i := 95) (by decide +kernel), List.mem_of_getElem? (i := 96) (by decide +kernel)⟩
theorem lw_p1 : lw_okq (⟨"StoneBoard$Chart", "isFree", "(I)Z"⟩, 7) := ⟨⟨by decide +kernel, by decide +kernel⟩, List.mem_of_getElem? (i := 54) (by decide +kernel), List.mem_of_getElem? (i := 104) (by decide +kernel), List.mem_of_getElem? (i := 105) (by decide +kernel)⟩
theorem lw_p2 : lw_okq (⟨"StoneBoard$Chart", "findHolder", "(I)I"⟩, 7) := ⟨⟨by decide +kernel, by decide +kernel⟩, List.mem_of_getElem? (i := 54) (by decide +kernel), List.mem_of_getElem? (i := 112) (by decide +kernel), List.mem_of_getElem? (i := 113) (by decide +kernel)⟩
theorem lw_p3 : lw_okq (⟨"StoneBoard$Chart", "countBreaths", "(I)V"⟩, 7) := ⟨⟨by decide +kernel, by decide +kernel⟩, List.mem_of_getElem? (i := 54) (by decide +kernel), List.mem_of_getElem? (i := 128) (by decide +kernel), List.mem_of_getElem? (i := 129) (by decide +kernel)⟩
theorem lw_p4 : lw_okq (⟨"StoneBoard$History", "keep", "(LStoneBoard$Position;[JIII)V"⟩, 2) := ⟨⟨by decide +kernel, by decide +kernel⟩, List.mem_of_getElem? (i := 189) (by decide +kernel), List.mem_of_getElem? (i := 198) (by decide +kernel), List.mem_of_getElem? (i := 199) (by decide +kernel)⟩
theorem lw_p5 : lw_okq (⟨"StoneBoard", "judgeMove", "(I)I"⟩, 8) := ⟨⟨by decide +kernel, by decide +kernel⟩, List.mem_of_getElem? (i := 21) (by decide +kernel), List.mem_of_getElem? (i := 321) (by decide +kernel), List.mem_of_getElem? (i := 322) (by decide +kernel)⟩
theorem lw_p6 : lw_okq (⟨"StoneBoard", "findBoardBehind", "(I)LStoneBoard$Position;"⟩, 8) := ⟨⟨by decide +kernel, by decide +kernel⟩, List.mem_of_getElem? (i := 21) (by decide +kernel), List.mem_of_getElem? (i := 329) (by decide +kernel), List.mem_of_getElem? (i := 330) (by decide +kernel)⟩
theorem lw_p7 : lw_okq (⟨"StoneBoard$Trial", "takeClosedStrings", "(II)V"⟩, 6) := ⟨⟨by decide +kernel, by decide +kernel⟩, List.mem_of_getElem? (i := 157) (by decide +kernel), List.mem_of_getElem? (i := 347) (by decide +kernel), List.mem_of_getElem? (i := 348) (by decide +kernel)⟩
theorem lw_p8 : lw_okq (⟨"StoneBoard$Trial", "isLastBreathOf", "(I)Z"⟩, 6) := ⟨⟨by decide +kernel, by decide +kernel⟩, List.mem_of_getElem? (i := 157) (by decide +kernel), List.mem_of_getElem? (i := 352) (by decide +kernel), List.mem_of_getElem? (i := 353) (by decide +kernel)⟩
theorem lw_p9 : lw_okq (⟨"StoneBoard$Trial", "takeString", "(I)V"⟩, 6) := ⟨⟨by decide +kernel, by decide +kernel⟩, List.mem_of_getElem? (i := 157) (by decide +kernel), List.mem_of_getElem? (i := 367) (by decide +kernel), List.mem_of_getElem? (i := 368) (by decide +kernel)⟩
theorem lw_p10 : lw_okq (⟨"StoneBoard$Trial", "findsBreath", "(II)Z"⟩, 6) := ⟨⟨by decide +kernel, by decide +kernel⟩, List.mem_of_getElem? (i := 157) (by decide +kernel), List.mem_of_getElem? (i := 373) (by decide +kernel), List.mem_of_getElem? (i := 374) (by decide +kernel)⟩
theorem lw_p11 : lw_okq (⟨"StoneBoard", "checkPoint", "(I)V"⟩, 8) := ⟨⟨by decide +kernel, by decide +kernel⟩, List.mem_of_getElem? (i := 21) (by decide +kernel), List.mem_of_getElem? (i := 400) (by decide +kernel), List.mem_of_getElem? (i := 401) (by decide +kernel)⟩
theorem lw_p12 : lw_okq (⟨"java/lang/Throwable", "fillInStackTrace", "(I)Ljava/lang/Throwable;"⟩, 6) := ⟨⟨by decide +kernel, by decide +kernel⟩, List.mem_of_getElem? (i := 442) (by decide +kernel), List.mem_of_getElem? (i := 440) (by decide +kernel), List.mem_of_getElem? (i := 441) (by decide +kernel)⟩
theorem lw_p13 : lw_okq (⟨"StoneBoard", "checkNoMoveYet", "()V"⟩, 8) := ⟨⟨by decide +kernel, by decide +kernel⟩, List.mem_of_getElem? (i := 21) (by decide +kernel), List.mem_of_getElem? (i := 494) (by decide +kernel), List.mem_of_getElem? (i := 495) (by decide +kernel)⟩
theorem lw_p14 : lw_okq (⟨"StoneBoard$History", "takeOutOfBucket", "(LStoneBoard$Position;)V"⟩, 2) := ⟨⟨by decide +kernel, by decide +kernel⟩, List.mem_of_getElem? (i := 189) (by decide +kernel), List.mem_of_getElem? (i := 530) (by decide +kernel), List.mem_of_getElem? (i := 531) (by decide +kernel)⟩
theorem lw_p15 : lw_okq (⟨"StoneBoard", "checkRoomForMove", "()V"⟩, 8) := ⟨⟨by decide +kernel, by decide +kernel⟩, List.mem_of_getElem? (i := 21) (by decide +kernel), List.mem_of_getElem? (i := 551) (by decide +kernel), List.mem_of_getElem? (i := 552) (by decide +kernel)⟩
def lw_privs_1 : List (MethodName × Nat) := [(⟨"StoneBoard$Areas", "spread", "(II[I)I"⟩, 5), (⟨"StoneBoard$Chart", "isFree", "(I)Z"⟩, 7), (⟨"StoneBoard$Chart", "findHolder", "(I)I"⟩, 7), (⟨"StoneBoard$Chart", "countBreaths", "(I)V"⟩, 7), (⟨"StoneBoard$History", "keep", "(LStoneBoard$Position;[JIII)V"⟩, 2), (⟨"StoneBoard", "judgeMove", "(I)I"⟩, 8), (⟨"StoneBoard", "findBoardBehind", "(I)LStoneBoard$Position;"⟩, 8), (⟨"StoneBoard$Trial", "takeClosedStrings", "(II)V"⟩, 6), (⟨"StoneBoard$Trial", "isLastBreathOf", "(I)Z"⟩, 6), (⟨"StoneBoard$Trial", "takeString", "(I)V"⟩, 6), (⟨"StoneBoard$Trial", "findsBreath", "(II)Z"⟩, 6), (⟨"StoneBoard", "checkPoint", "(I)V"⟩, 8), (⟨"java/lang/Throwable", "fillInStackTrace", "(I)Ljava/lang/Throwable;"⟩, 6), (⟨"StoneBoard", "checkNoMoveYet", "()V"⟩, 8), (⟨"StoneBoard$History", "takeOutOfBucket", "(LStoneBoard$Position;)V"⟩, 2), (⟨"StoneBoard", "checkRoomForMove", "()V"⟩, 8)]
theorem lw_r1 : ∀ q ∈ lw_privs_1, lw_okq q := List.forall_mem_cons.mpr ⟨lw_p0, List.forall_mem_cons.mpr ⟨lw_p1, List.forall_mem_cons.mpr ⟨lw_p2, List.forall_mem_cons.mpr ⟨lw_p3, List.forall_mem_cons.mpr ⟨lw_p4, List.forall_mem_cons.mpr ⟨lw_p5, List.forall_mem_cons.mpr ⟨lw_p6, List.forall_mem_cons.mpr ⟨lw_p7, List.forall_mem_cons.mpr ⟨lw_p8, List.forall_mem_cons.mpr ⟨lw_p9, List.forall_mem_cons.mpr ⟨lw_p10, List.forall_mem_cons.mpr ⟨lw_p11, List.forall_mem_cons.mpr ⟨lw_p12, List.forall_mem_cons.mpr ⟨lw_p13, List.forall_mem_cons.mpr ⟨lw_p14, List.forall_mem_cons.mpr ⟨lw_p15, fun _ h => absurd h List.not_mem_nil⟩⟩⟩⟩⟩⟩⟩⟩⟩⟩⟩⟩⟩⟩⟩⟩
theorem lw_p16 : lw_okq (⟨"StoneBoard", "showLatestBoard", "()V"⟩, 8) := ⟨⟨by decide +kernel, by decide +kernel⟩, List.mem_of_getElem? (i := 21) (by decide +kernel), List.mem_of_getElem? (i := 559) (by decide +kernel), List.mem_of_getElem? (i := 560) (by decide +kernel)⟩
theorem lw_p17 : lw_okq (⟨"StoneBoard$Life", "noteStringsOf", "(I)V"⟩, 7) := ⟨⟨by decide +kernel, by decide +kernel⟩, List.mem_of_getElem? (i := 252) (by decide +kernel), List.mem_of_getElem? (i := 674) (by decide +kernel), List.mem_of_getElem? (i := 675) (by decide +kernel)⟩
theorem lw_p18 : lw_okq (⟨"StoneBoard$Life", "kindOf", "(I)I"⟩, 7) := ⟨⟨by decide +kernel, by decide +kernel⟩, List.mem_of_getElem? (i := 252) (by decide +kernel), List.mem_of_getElem? (i := 680) (by decide +kernel), List.mem_of_getElem? (i := 681) (by decide +kernel)⟩
theorem lw_p19 : lw_okq (⟨"StoneBoard$Life", "isNoted", "(III)Z"⟩, 7) := ⟨⟨by decide +kernel, by decide +kernel⟩, List.mem_of_getElem? (i := 252) (by decide +kernel), List.mem_of_getElem? (i := 685) (by decide +kernel), List.mem_of_getElem? (i := 686) (by decide +kernel)⟩
theorem lw_p20 : lw_okq (⟨"StoneBoard$Life", "belongs", "(II)Z"⟩, 7) := ⟨⟨by decide +kernel, by decide +kernel⟩, List.mem_of_getElem? (i := 252) (by decide +kernel), List.mem_of_getElem? (i := 689) (by decide +kernel), List.mem_of_getElem? (i := 690) (by decide +kernel)⟩
theorem lw_p21 : lw_okq (⟨"StoneBoard$Life", "isBeside", "(II)Z"⟩, 7) := ⟨⟨by decide +kernel, by decide +kernel⟩, List.mem_of_getElem? (i := 252) (by decide +kernel), List.mem_of_getElem? (i := 695) (by decide +kernel), List.mem_of_getElem? (i := 696) (by decide +kernel)⟩
theorem lw_p22 : lw_okq (⟨"StoneBoard$Life", "letStringsFall", "()Z"⟩, 7) := ⟨⟨by decide +kernel, by decide +kernel⟩, List.mem_of_getElem? (i := 252) (by decide +kernel), List.mem_of_getElem? (i := 699) (by decide +kernel), List.mem_of_getElem? (i := 700) (by decide +kernel)⟩
theorem lw_p23 : lw_okq (⟨"StoneBoard$Life", "countRegionsOfStrings", "()V"⟩, 7) := ⟨⟨by decide +kernel, by decide +kernel⟩, List.mem_of_getElem? (i := 252) (by decide +kernel), List.mem_of_getElem? (i := 703) (by decide +kernel), List.mem_of_getElem? (i := 704) (by decide +kernel)⟩
theorem lw_p24 : lw_okq (⟨"StoneBoard$Life", "letRegionsFall", "()V"⟩, 7) := ⟨⟨by decide +kernel, by decide +kernel⟩, List.mem_of_getElem? (i := 252) (by decide +kernel), List.mem_of_getElem? (i := 708) (by decide +kernel), List.mem_of_getElem? (i := 709) (by decide +kernel)⟩
theorem lw_p25 : lw_okq (⟨"StoneBoard$Life", "isBesideFallenString", "(I)Z"⟩, 7) := ⟨⟨by decide +kernel, by decide +kernel⟩, List.mem_of_getElem? (i := 252) (by decide +kernel), List.mem_of_getElem? (i := 712) (by decide +kernel), List.mem_of_getElem? (i := 713) (by decide +kernel)⟩
theorem lw_p26 : lw_okq (⟨"StoneBoardModel", "noPoint", "(I)Z"⟩, 24) := ⟨⟨by decide +kernel, by decide +kernel⟩, List.mem_of_getElem? (i := 739) (by decide +kernel), List.mem_of_getElem? (i := 832) (by decide +kernel), List.mem_of_getElem? (i := 833) (by decide +kernel)⟩
theorem lw_p27 : lw_okq (⟨"StoneBoardModel", "areBreathing", "([I)Z"⟩, 24) := ⟨⟨by decide +kernel, by decide +kernel⟩, List.mem_of_getElem? (i := 739) (by decide +kernel), List.mem_of_getElem? (i := 840) (by decide +kernel), List.mem_of_getElem? (i := 841) (by decide +kernel)⟩
theorem lw_p28 : lw_okq (⟨"StoneBoardModel", "gather", "([II)V"⟩, 24) := ⟨⟨by decide +kernel, by decide +kernel⟩, List.mem_of_getElem? (i := 739) (by decide +kernel), List.mem_of_getElem? (i := 844) (by decide +kernel), List.mem_of_getElem? (i := 845) (by decide +kernel)⟩
theorem lw_p29 : lw_okq (⟨"StoneBoardModel", "beside", "(II)I"⟩, 24) := ⟨⟨by decide +kernel, by decide +kernel⟩, List.mem_of_getElem? (i := 739) (by decide +kernel), List.mem_of_getElem? (i := 848) (by decide +kernel), List.mem_of_getElem? (i := 849) (by decide +kernel)⟩
theorem lw_p30 : lw_okq (⟨"StoneBoardModel", "breaths", "([I)I"⟩, 24) := ⟨⟨by decide +kernel, by decide +kernel⟩, List.mem_of_getElem? (i := 739) (by decide +kernel), List.mem_of_getElem? (i := 852) (by decide +kernel), List.mem_of_getElem? (i := 853) (by decide +kernel)⟩
theorem lw_p31 : lw_okq (⟨"StoneBoardModel", "isBreath", "([II)Z"⟩, 24) := ⟨⟨by decide +kernel, by decide +kernel⟩, List.mem_of_getElem? (i := 739) (by decide +kernel), List.mem_of_getElem? (i := 856) (by decide +kernel), List.mem_of_getElem? (i := 857) (by decide +kernel)⟩
def lw_privs_2 : List (MethodName × Nat) := [(⟨"StoneBoard", "showLatestBoard", "()V"⟩, 8), (⟨"StoneBoard$Life", "noteStringsOf", "(I)V"⟩, 7), (⟨"StoneBoard$Life", "kindOf", "(I)I"⟩, 7), (⟨"StoneBoard$Life", "isNoted", "(III)Z"⟩, 7), (⟨"StoneBoard$Life", "belongs", "(II)Z"⟩, 7), (⟨"StoneBoard$Life", "isBeside", "(II)Z"⟩, 7), (⟨"StoneBoard$Life", "letStringsFall", "()Z"⟩, 7), (⟨"StoneBoard$Life", "countRegionsOfStrings", "()V"⟩, 7), (⟨"StoneBoard$Life", "letRegionsFall", "()V"⟩, 7), (⟨"StoneBoard$Life", "isBesideFallenString", "(I)Z"⟩, 7), (⟨"StoneBoardModel", "noPoint", "(I)Z"⟩, 24), (⟨"StoneBoardModel", "areBreathing", "([I)Z"⟩, 24), (⟨"StoneBoardModel", "gather", "([II)V"⟩, 24), (⟨"StoneBoardModel", "beside", "(II)I"⟩, 24), (⟨"StoneBoardModel", "breaths", "([I)I"⟩, 24), (⟨"StoneBoardModel", "isBreath", "([II)Z"⟩, 24)]
theorem lw_r2 : ∀ q ∈ lw_privs_2, lw_okq q := List.forall_mem_cons.mpr ⟨lw_p16, List.forall_mem_cons.mpr ⟨lw_p17, List.forall_mem_cons.mpr ⟨lw_p18, List.forall_mem_cons.mpr ⟨lw_p19, List.forall_mem_cons.mpr ⟨lw_p20, List.forall_mem_cons.mpr ⟨lw_p21, List.forall_mem_cons.mpr ⟨lw_p22, List.forall_mem_cons.mpr ⟨lw_p23, List.forall_mem_cons.mpr ⟨lw_p24, List.forall_mem_cons.mpr ⟨lw_p25, List.forall_mem_cons.mpr ⟨lw_p26, List.forall_mem_cons.mpr ⟨lw_p27, List.forall_mem_cons.mpr ⟨lw_p28, List.forall_mem_cons.mpr ⟨lw_p29, List.forall_mem_cons.mpr ⟨lw_p30, List.forall_mem_cons.mpr ⟨lw_p31, fun _ h => absurd h List.not_mem_nil⟩⟩⟩⟩⟩⟩⟩⟩⟩⟩⟩⟩⟩⟩⟩⟩
theorem lw_p32 : lw_okq (⟨"StoneBoardModel", "keep", "(I)V"⟩, 24) := ⟨⟨by decide +kernel, by decide +kernel⟩, List.mem_of_getElem? (i := 739) (by decide +kernel), List.mem_of_getElem? (i := 860) (by decide +kernel), List.mem_of_getElem? (i := 861) (by decide +kernel)⟩
theorem lw_p33 : lw_okq (⟨"StoneBoardModel", "turnNow", "()I"⟩, 24) := ⟨⟨by decide +kernel, by decide +kernel⟩, List.mem_of_getElem? (i := 739) (by decide +kernel), List.mem_of_getElem? (i := 872) (by decide +kernel), List.mem_of_getElem? (i := 873) (by decide +kernel)⟩
theorem lw_p34 : lw_okq (⟨"StoneBoardModel", "whyNot", "(I)I"⟩, 24) := ⟨⟨by decide +kernel, by decide +kernel⟩, List.mem_of_getElem? (i := 739) (by decide +kernel), List.mem_of_getElem? (i := 880) (by decide +kernel), List.mem_of_getElem? (i := 881) (by decide +kernel)⟩
theorem lw_p35 : lw_okq (⟨"StoneBoardModel", "isEnded", "()Z"⟩, 24) := ⟨⟨by decide +kernel, by decide +kernel⟩, List.mem_of_getElem? (i := 739) (by decide +kernel), List.mem_of_getElem? (i := 884) (by decide +kernel), List.mem_of_getElem? (i := 885) (by decide +kernel)⟩
theorem lw_p36 : lw_okq (⟨"StoneBoardModel", "attempt", "(II)V"⟩, 24) := ⟨⟨by decide +kernel, by decide +kernel⟩, List.mem_of_getElem? (i := 739) (by decide +kernel), List.mem_of_getElem? (i := 888) (by decide +kernel), List.mem_of_getElem? (i := 889) (by decide +kernel)⟩
theorem lw_p37 : lw_okq (⟨"StoneBoardModel", "takeOff", "([I)I"⟩, 24) := ⟨⟨by decide +kernel, by decide +kernel⟩, List.mem_of_getElem? (i := 739) (by decide +kernel), List.mem_of_getElem? (i := 892) (by decide +kernel), List.mem_of_getElem? (i := 893) (by decide +kernel)⟩
theorem lw_p38 : lw_okq (⟨"StoneBoardModel", "latest", "()I"⟩, 24) := ⟨⟨by decide +kernel, by decide +kernel⟩, List.mem_of_getElem? (i := 739) (by decide +kernel), List.mem_of_getElem? (i := 896) (by decide +kernel), List.mem_of_getElem? (i := 897) (by decide +kernel)⟩
theorem lw_p39 : lw_okq (⟨"StoneBoardModel", "isTrial", "(I)Z"⟩, 24) := ⟨⟨by decide +kernel, by decide +kernel⟩, List.mem_of_getElem? (i := 739) (by decide +kernel), List.mem_of_getElem? (i := 900) (by decide +kernel), List.mem_of_getElem? (i := 901) (by decide +kernel)⟩
theorem lw_p40 : lw_okq (⟨"StoneBoardModel", "noSide", "(II)Z"⟩, 24) := ⟨⟨by decide +kernel, by decide +kernel⟩, List.mem_of_getElem? (i := 739) (by decide +kernel), List.mem_of_getElem? (i := 932) (by decide +kernel), List.mem_of_getElem? (i := 933) (by decide +kernel)⟩
theorem lw_p41 : lw_okq (⟨"StoneBoardModel", "number", "(I)V"⟩, 24) := ⟨⟨by decide +kernel, by decide +kernel⟩, List.mem_of_getElem? (i := 739) (by decide +kernel), List.mem_of_getElem? (i := 944) (by decide +kernel), List.mem_of_getElem? (i := 945) (by decide +kernel)⟩
theorem lw_p42 : lw_okq (⟨"StoneBoardModel", "ownerOf", "(I)I"⟩, 24) := ⟨⟨by decide +kernel, by decide +kernel⟩, List.mem_of_getElem? (i := 739) (by decide +kernel), List.mem_of_getElem? (i := 952) (by decide +kernel), List.mem_of_getElem? (i := 953) (by decide +kernel)⟩
theorem lw_p43 : lw_okq (⟨"StoneBoardModel", "met", "(I)I"⟩, 24) := ⟨⟨by decide +kernel, by decide +kernel⟩, List.mem_of_getElem? (i := 739) (by decide +kernel), List.mem_of_getElem? (i := 956) (by decide +kernel), List.mem_of_getElem? (i := 957) (by decide +kernel)⟩
theorem lw_p44 : lw_okq (⟨"StoneBoardModel", "judge", "(I)V"⟩, 24) := ⟨⟨by decide +kernel, by decide +kernel⟩, List.mem_of_getElem? (i := 739) (by decide +kernel), List.mem_of_getElem? (i := 968) (by decide +kernel), List.mem_of_getElem? (i := 969) (by decide +kernel)⟩
theorem lw_p45 : lw_okq (⟨"StoneBoardModel", "divide", "(I)V"⟩, 24) := ⟨⟨by decide +kernel, by decide +kernel⟩, List.mem_of_getElem? (i := 739) (by decide +kernel), List.mem_of_getElem? (i := 972) (by decide +kernel), List.mem_of_getElem? (i := 973) (by decide +kernel)⟩
theorem lw_p46 : lw_okq (⟨"StoneBoardModel", "spread", "(II)V"⟩, 24) := ⟨⟨by decide +kernel, by decide +kernel⟩, List.mem_of_getElem? (i := 739) (by decide +kernel), List.mem_of_getElem? (i := 976) (by decide +kernel), List.mem_of_getElem? (i := 977) (by decide +kernel)⟩
theorem lw_p47 : lw_okq (⟨"StoneBoardModel", "regionsOf", "(I)I"⟩, 24) := ⟨⟨by decide +kernel, by decide +kernel⟩, List.mem_of_getElem? (i := 739) (by decide +kernel), List.mem_of_getElem? (i := 980) (by decide +kernel), List.mem_of_getElem? (i := 981) (by decide +kernel)⟩
def lw_privs_3 : List (MethodName × Nat) := [(⟨"StoneBoardModel", "keep", "(I)V"⟩, 24), (⟨"StoneBoardModel", "turnNow", "()I"⟩, 24), (⟨"StoneBoardModel", "whyNot", "(I)I"⟩, 24), (⟨"StoneBoardModel", "isEnded", "()Z"⟩, 24), (⟨"StoneBoardModel", "attempt", "(II)V"⟩, 24), (⟨"StoneBoardModel", "takeOff", "([I)I"⟩, 24), (⟨"StoneBoardModel", "latest", "()I"⟩, 24), (⟨"StoneBoardModel", "isTrial", "(I)Z"⟩, 24), (⟨"StoneBoardModel", "noSide", "(II)Z"⟩, 24), (⟨"StoneBoardModel", "number", "(I)V"⟩, 24), (⟨"StoneBoardModel", "ownerOf", "(I)I"⟩, 24), (⟨"StoneBoardModel", "met", "(I)I"⟩, 24), (⟨"StoneBoardModel", "judge", "(I)V"⟩, 24), (⟨"StoneBoardModel", "divide", "(I)V"⟩, 24), (⟨"StoneBoardModel", "spread", "(II)V"⟩, 24), (⟨"StoneBoardModel", "regionsOf", "(I)I"⟩, 24)]
theorem lw_r3 : ∀ q ∈ lw_privs_3, lw_okq q := List.forall_mem_cons.mpr ⟨lw_p32, List.forall_mem_cons.mpr ⟨lw_p33, List.forall_mem_cons.mpr ⟨lw_p34, List.forall_mem_cons.mpr ⟨lw_p35, List.forall_mem_cons.mpr ⟨lw_p36, List.forall_mem_cons.mpr ⟨lw_p37, List.forall_mem_cons.mpr ⟨lw_p38, List.forall_mem_cons.mpr ⟨lw_p39, List.forall_mem_cons.mpr ⟨lw_p40, List.forall_mem_cons.mpr ⟨lw_p41, List.forall_mem_cons.mpr ⟨lw_p42, List.forall_mem_cons.mpr ⟨lw_p43, List.forall_mem_cons.mpr ⟨lw_p44, List.forall_mem_cons.mpr ⟨lw_p45, List.forall_mem_cons.mpr ⟨lw_p46, List.forall_mem_cons.mpr ⟨lw_p47, fun _ h => absurd h List.not_mem_nil⟩⟩⟩⟩⟩⟩⟩⟩⟩⟩⟩⟩⟩⟩⟩⟩
theorem lw_p48 : lw_okq (⟨"StoneBoardModel", "belongs", "(II)Z"⟩, 24) := ⟨⟨by decide +kernel, by decide +kernel⟩, List.mem_of_getElem? (i := 739) (by decide +kernel), List.mem_of_getElem? (i := 984) (by decide +kernel), List.mem_of_getElem? (i := 985) (by decide +kernel)⟩
theorem lw_p49 : lw_okq (⟨"StoneBoardModel", "isBeside", "(II)Z"⟩, 24) := ⟨⟨by decide +kernel, by decide +kernel⟩, List.mem_of_getElem? (i := 739) (by decide +kernel), List.mem_of_getElem? (i := 988) (by decide +kernel), List.mem_of_getElem? (i := 989) (by decide +kernel)⟩
theorem lw_p50 : lw_okq (⟨"StoneBoardModel", "fellRegions", "()V"⟩, 24) := ⟨⟨by decide +kernel, by decide +kernel⟩, List.mem_of_getElem? (i := 739) (by decide +kernel), List.mem_of_getElem? (i := 992) (by decide +kernel), List.mem_of_getElem? (i := 993) (by decide +kernel)⟩
def lw_privs_4 : List (MethodName × Nat) := [(⟨"StoneBoardModel", "belongs", "(II)Z"⟩, 24), (⟨"StoneBoardModel", "isBeside", "(II)Z"⟩, 24), (⟨"StoneBoardModel", "fellRegions", "()V"⟩, 24)]
theorem lw_r4 : ∀ q ∈ lw_privs_4, lw_okq q := List.forall_mem_cons.mpr ⟨lw_p48, List.forall_mem_cons.mpr ⟨lw_p49, List.forall_mem_cons.mpr ⟨lw_p50, fun _ h => absurd h List.not_mem_nil⟩⟩⟩
def lw_privs : List (MethodName × Nat) := lw_privs_1 ++ (lw_privs_2 ++ (lw_privs_3 ++ (lw_privs_4)))
def lw_tbl : List Cond := k2_sels lw_privs ++ tables_1
theorem lw_privs_ok : ∀ q ∈ lw_privs, lw_okq q := by
  show ∀ q ∈ lw_privs_1 ++ (lw_privs_2 ++ (lw_privs_3 ++ (lw_privs_4))), lw_okq q
  exact List.forall_mem_append.mpr ⟨lw_r1, List.forall_mem_append.mpr ⟨lw_r2, List.forall_mem_append.mpr ⟨lw_r3, lw_r4⟩⟩⟩
end
section
/-! Names, tables of fields, words, links: printed by gen/names.py out of the listing and the Statement. -/
def xa_gb : Cond → Bool
  | .castable .. => true
  | .declares _ => true
  | .methodLinkNest .. => true
  | .arrayOver (.object _) => true
  | w => goodWord w
theorem xa_gb_ok {w : Cond} (hg : xa_gb w = true) {args a' : Array Value} {s U : State} (hW : s.WarmedH U.vm) (h : w.before args s = true) : w.before a' U = true := by
  unfold xa_gb at hg
  split at hg
  · exact va_Nw.use rfl (va_Nw.warmC hW (va_Nw.of rfl h))
  · exact va_Nw.use rfl (va_Nw.warmD hW (va_Nw.of rfl h))
  · exact va_Nw.use rfl (va_Nw.warmM hW (va_Nw.of rfl h))
  · exact va_AO.use (va_AO.moved hW.alike (va_AO.of h))
  · exact word_at hW (good_of_word hg) h
def xa_ws : List Cond := lw_tbl.filter xa_gb
theorem xa_keep {w : Cond} (hw : w ∈ xa_ws) {args a' : Array Value} {s U : State} (hW : s.WarmedH U.vm) (h : w.before args s = true) : w.before a' U = true := xa_gb_ok (List.mem_filter.mp hw).2 hW h
theorem xa_m1 {w : Cond} (i : Nat) (h : tables_1_1[i]? = some w) (hg : xa_gb w = true) : w ∈ xa_ws := by
  have h1 : w ∈ tables_1_1 := List.mem_of_getElem? h
  have h2 : w ∈ tables_1 := List.mem_append_left _ (h1)
  exact List.mem_filter.mpr ⟨List.mem_append_right _ h2, hg⟩
theorem xa_m2 {w : Cond} (i : Nat) (h : tables_1_2[i]? = some w) (hg : xa_gb w = true) : w ∈ xa_ws := by
  have h1 : w ∈ tables_1_2 := List.mem_of_getElem? h
  have h2 : w ∈ tables_1 := List.mem_append_right _ (List.mem_append_left _ (h1))
  exact List.mem_filter.mpr ⟨List.mem_append_right _ h2, hg⟩
theorem xa_m3 {w : Cond} (i : Nat) (h : tables_1_3[i]? = some w) (hg : xa_gb w = true) : w ∈ xa_ws := by
  have h1 : w ∈ tables_1_3 := List.mem_of_getElem? h
  have h2 : w ∈ tables_1 := List.mem_append_right _ (List.mem_append_right _ (List.mem_append_left _ (h1)))
  exact List.mem_filter.mpr ⟨List.mem_append_right _ h2, hg⟩
theorem xa_m4 {w : Cond} (i : Nat) (h : tables_1_4[i]? = some w) (hg : xa_gb w = true) : w ∈ xa_ws := by
  have h1 : w ∈ tables_1_4 := List.mem_of_getElem? h
  have h2 : w ∈ tables_1 := List.mem_append_right _ (List.mem_append_right _ (List.mem_append_right _ (List.mem_append_left _ (h1))))
  exact List.mem_filter.mpr ⟨List.mem_append_right _ h2, hg⟩
theorem xa_m5 {w : Cond} (i : Nat) (h : tables_1_5[i]? = some w) (hg : xa_gb w = true) : w ∈ xa_ws := by
  have h1 : w ∈ tables_1_5 := List.mem_of_getElem? h
  have h2 : w ∈ tables_1 := List.mem_append_right _ (List.mem_append_right _ (List.mem_append_right _ (List.mem_append_right _ (h1))))
  exact List.mem_filter.mpr ⟨List.mem_append_right _ h2, hg⟩
theorem xa_ms {w : Cond} (i : Nat) (h : (k2_sels lw_privs)[i]? = some w) (hg : xa_gb w = true) : w ∈ xa_ws := List.mem_filter.mpr ⟨List.mem_append_left _ (List.mem_of_getElem? h), hg⟩
def TX_SB : u_T := fun k => match k with
  | 0 => ("StoneBoard", "n", "I", true)
  | 1 => ("StoneBoard", "grid", "LStoneBoard$Grid;", true)
  | 2 => ("StoneBoard", "stones", "[I", true)
  | 3 => ("StoneBoard", "chart", "LStoneBoard$Chart;", true)
  | 4 => ("StoneBoard", "trial", "LStoneBoard$Trial;", true)
  | 5 => ("StoneBoard", "history", "LStoneBoard$History;", true)
  | 6 => ("StoneBoard", "life", "LStoneBoard$Life;", true)
  | _ => ("StoneBoard", "firstSide", "I", false)
def ty_SB : Nat → FieldType := fun k => match k with
  | 0 => .int
  | 1 => .object "StoneBoard$Grid"
  | 2 => .array .int
  | 3 => .object "StoneBoard$Chart"
  | 4 => .object "StoneBoard$Trial"
  | 5 => .object "StoneBoard$History"
  | 6 => .object "StoneBoard$Life"
  | _ => .int
def TX_Areas : u_T := fun k => match k with
  | 0 => ("StoneBoard$Areas", "count", "I", false)
  | 1 => ("StoneBoard$Areas", "grid", "LStoneBoard$Grid;", true)
  | 2 => ("StoneBoard$Areas", "areaOf", "[I", true)
  | 3 => ("StoneBoard$Areas", "order", "[I", true)
  | _ => ("StoneBoard$Areas", "start", "[I", true)
def ty_Areas : Nat → FieldType := fun k => match k with
  | 0 => .int
  | 1 => .object "StoneBoard$Grid"
  | 2 => .array .int
  | 3 => .array .int
  | _ => .array .int
def TX_Chart : u_T := fun k => match k with
  | 0 => ("StoneBoard$Chart", "areas", "LStoneBoard$Areas;", true)
  | 1 => ("StoneBoard$Chart", "grid", "LStoneBoard$Grid;", true)
  | 2 => ("StoneBoard$Chart", "stones", "[I", true)
  | 3 => ("StoneBoard$Chart", "breaths", "[I", true)
  | 4 => ("StoneBoard$Chart", "leastBreath", "[I", true)
  | 5 => ("StoneBoard$Chart", "holder", "[I", true)
  | _ => ("StoneBoard$Chart", "countedBy", "[I", true)
def ty_Chart : Nat → FieldType := fun k => match k with
  | 0 => .object "StoneBoard$Areas"
  | 1 => .object "StoneBoard$Grid"
  | 2 => .array .int
  | 3 => .array .int
  | 4 => .array .int
  | 5 => .array .int
  | _ => .array .int
def TX_Grid : u_T := fun k => match k with
  | 0 => ("StoneBoard$Grid", "count", "I", true)
  | _ => ("StoneBoard$Grid", "around", "[I", true)
def ty_Grid : Nat → FieldType := fun k => match k with
  | 0 => .int
  | _ => .array .int
def TX_History : u_T := fun k => match k with
  | 0 => ("StoneBoard$History", "latest", "LStoneBoard$Position;", false)
  | _ => ("StoneBoard$History", "buckets", "[LStoneBoard$Position;", true)
def ty_History : Nat → FieldType := fun k => match k with
  | 0 => .object "StoneBoard$Position"
  | _ => .array (.object "StoneBoard$Position")
def TX_Life : u_T := fun k => match k with
  | 0 => ("StoneBoard$Life", "grid", "LStoneBoard$Grid;", true)
  | 1 => ("StoneBoard$Life", "stones", "[I", true)
  | 2 => ("StoneBoard$Life", "kinds", "[I", true)
  | 3 => ("StoneBoard$Life", "areas", "LStoneBoard$Areas;", true)
  | 4 => ("StoneBoard$Life", "stands", "[Z", true)
  | 5 => ("StoneBoard$Life", "belongsTo", "[I", true)
  | _ => ("StoneBoard$Life", "regionsOfString", "[I", true)
def ty_Life : Nat → FieldType := fun k => match k with
  | 0 => .object "StoneBoard$Grid"
  | 1 => .array .int
  | 2 => .array .int
  | 3 => .object "StoneBoard$Areas"
  | 4 => .array .boolean
  | 5 => .array .int
  | _ => .array .int
def TX_Pos : u_T := fun k => match k with
  | 0 => ("StoneBoard$Position", "before", "LStoneBoard$Position;", true)
  | 1 => ("StoneBoard$Position", "olderAlike", "LStoneBoard$Position;", true)
  | 2 => ("StoneBoard$Position", "board", "[J", true)
  | 3 => ("StoneBoard$Position", "number", "I", true)
  | 4 => ("StoneBoard$Position", "point", "I", true)
  | 5 => ("StoneBoard$Position", "takenBlack", "I", true)
  | _ => ("StoneBoard$Position", "takenWhite", "I", true)
def ty_Pos : Nat → FieldType := fun k => match k with
  | 0 => .object "StoneBoard$Position"
  | 1 => .object "StoneBoard$Position"
  | 2 => .array .long
  | 3 => .int
  | 4 => .int
  | 5 => .int
  | _ => .int
def TX_Trial : u_T := fun k => match k with
  | 0 => ("StoneBoard$Trial", "board", "[J", true)
  | 1 => ("StoneBoard$Trial", "takenOff", "I", false)
  | 2 => ("StoneBoard$Trial", "loser", "I", false)
  | 3 => ("StoneBoard$Trial", "grid", "LStoneBoard$Grid;", true)
  | 4 => ("StoneBoard$Trial", "stones", "[I", true)
  | _ => ("StoneBoard$Trial", "chart", "LStoneBoard$Chart;", true)
def ty_Trial : Nat → FieldType := fun k => match k with
  | 0 => .array .long
  | 1 => .int
  | 2 => .int
  | 3 => .object "StoneBoard$Grid"
  | 4 => .array .int
  | _ => .object "StoneBoard$Chart"
def TX_Ref : u_T := fun k => match k with
  | 0 => ("StoneBoardModel", "code", "I", false)
  | 1 => ("StoneBoardModel", "n", "I", true)
  | 2 => ("StoneBoardModel", "points", "I", true)
  | 3 => ("StoneBoardModel", "board", "[I", true)
  | 4 => ("StoneBoardModel", "trial", "[I", true)
  | 5 => ("StoneBoardModel", "trialTaken", "I", false)
  | 6 => ("StoneBoardModel", "trialOwn", "I", false)
  | 7 => ("StoneBoardModel", "stood", "[B", true)
  | 8 => ("StoneBoardModel", "moves", "[I", true)
  | 9 => ("StoneBoardModel", "tookBlack", "[I", true)
  | 10 => ("StoneBoardModel", "tookWhite", "[I", true)
  | 11 => ("StoneBoardModel", "made", "I", false)
  | 12 => ("StoneBoardModel", "begins", "I", false)
  | 13 => ("StoneBoardModel", "in", "[Z", true)
  | 14 => ("StoneBoardModel", "row", "[I", true)
  | 15 => ("StoneBoardModel", "rowSize", "I", false)
  | 16 => ("StoneBoardModel", "group", "[I", true)
  | 17 => ("StoneBoardModel", "region", "[I", true)
  | 18 => ("StoneBoardModel", "standsGroup", "[Z", true)
  | 19 => ("StoneBoardModel", "standsRegion", "[Z", true)
  | 20 => ("StoneBoardModel", "groups", "I", false)
  | 21 => ("StoneBoardModel", "regions", "I", false)
  | 22 => ("StoneBoardModel", "goes", "[Z", true)
  | _ => ("StoneBoardModel", "falls", "[Z", true)
def ty_Ref : Nat → FieldType := fun k => match k with
  | 0 => .int
  | 1 => .int
  | 2 => .int
  | 3 => .array .int
  | 4 => .array .int
  | 5 => .int
  | 6 => .int
  | 7 => .array .byte
  | 8 => .array .int
  | 9 => .array .int
  | 10 => .array .int
  | 11 => .int
  | 12 => .int
  | 13 => .array .boolean
  | 14 => .array .int
  | 15 => .int
  | 16 => .array .int
  | 17 => .array .int
  | 18 => .array .boolean
  | 19 => .array .boolean
  | 20 => .int
  | 21 => .int
  | 22 => .array .boolean
  | _ => .array .boolean
abbrev xa_cl : List vw_C := [("StoneBoard", TX_SB, 8), ("StoneBoard$Areas", TX_Areas, 5), ("StoneBoard$Chart", TX_Chart, 7), ("StoneBoard$Grid", TX_Grid, 2), ("StoneBoard$History", TX_History, 2), ("StoneBoard$Life", TX_Life, 7), ("StoneBoard$Position", TX_Pos, 7), ("StoneBoard$Trial", TX_Trial, 6), ("StoneBoardModel", TX_Ref, 24)]
def xa_pos : String := "StoneBoard$Position"
def xa_posN : Nat := 6
theorem xa_posC : xa_cl[xa_posN]? = some (xa_pos, TX_Pos, 7) := rfl
def xa_tys (D : va_G) : List (ClassId × FieldType) := [(D.1 100, .int), (D.1 101, .long), (D.1 102, .boolean), (D.1 103, .object xa_pos), (D.1 104, .byte)]
def xa_up : List String := ["java/lang/RuntimeException", "java/lang/Exception"]
theorem xa_up_fit : ∀ n ∈ xa_up, Bundle.fit n = true := by decide +kernel
end
section
/-! The judgement xa_X: the kit's W with its context bundled; the heap is a function of addresses ('h a = some cell'), 'sz' the heap's size. -/
abbrev xa_Mu : Type := MethodName × ByteArray × Nat × Option FieldType × List (Nat × Nat × Nat × Nat)
abbrev xa_H : Type := Nat → Option va_E
abbrev xa_Z : Type := List Frame → Array Value → State → State → Prop
def xa_u (h : xa_H) (a : Nat) (e : va_E) : xa_H := fun q => if q = a then some e else h q
theorem xa_u_eq (h : xa_H) (a : Nat) (e : va_E) : xa_u h a e a = some e := if_pos rfl
theorem xa_u_ne {h : xa_H} {a b : Nat} {e : va_E} {x : Option va_E} (hb : h b = x) (hn : b ≠ a) : xa_u h a e b = x := (if_neg hn).trans hb
def xa_P (D : va_G) (H0 : Heap) (h : xa_H) (sz : Nat) (H : Heap) : Prop :=
  H.size = sz ∧ H0.size ≤ sz ∧ (∀ q : Nat, q < H0.size → H[q]? = H0[q]?) ∧ ∀ (a : Nat) (e : va_E), h a = some e → H0.size ≤ a ∧ va_at D xa_cl (a, e) H
theorem xa_P.one {D : va_G} {H0 : Heap} {h : xa_H} {sz : Nat} {H : Heap} (hP : xa_P D H0 h sz H) {a : Nat} {e : va_E} (ha : h a = some e) : va_P D xa_cl [(a, e)] H := by
  intro k q hk
  have hz : k < 1 := (List.getElem?_eq_some_iff.mp hk).1
  rw [show k = 0 by omega] at hk
  cases hk
  exact (hP.2.2.2 a e ha).2
theorem xa_P.lt {D : va_G} {H0 : Heap} {h : xa_H} {sz : Nat} {H : Heap} (hP : xa_P D H0 h sz H) {a : Nat} {e : va_E} (ha : h a = some e) : a < sz := by
  rw [← hP.1]; exact (hP.2.2.2 a e ha).2.lt
theorem xa_P.set {D : va_G} {H0 : Heap} {h : xa_H} {sz : Nat} {H H1 : Heap} (hP : xa_P D H0 h sz H) {a : Nat} {e0 e : va_E} (ha : h a = some e0) (he : va_at D xa_cl (a, e) H1) (hz : H1.size = H.size) (oq : ∀ q : Nat, q ≠ a → H1[q]? = H[q]?) : xa_P D H0 (xa_u h a e) sz H1 := by
  obtain ⟨h1, h2, h3, h4⟩ := hP
  have ha0 := (h4 a e0 ha).1
  refine ⟨hz.trans h1, h2, fun q hq => (oq q (by omega)).trans (h3 q hq), fun b e' hb => ?_⟩
  unfold xa_u at hb
  by_cases hba : b = a
  · rw [if_pos hba] at hb
    cases hb
    subst hba
    exact ⟨ha0, he⟩
  · rw [if_neg hba] at hb
    exact ⟨(h4 b e' hb).1, (h4 b e' hb).2.kept (oq b hba)⟩
theorem xa_P.push {D : va_G} {H0 : Heap} {h : xa_H} {sz : Nat} {H H1 : Heap} (hP : xa_P D H0 h sz H) {e : va_E} (he : va_at D xa_cl (sz, e) H1) (hz : H1.size = sz + 1) (oq : ∀ q : Nat, q < sz → H1[q]? = H[q]?) : xa_P D H0 (xa_u h sz e) (sz + 1) H1 := by
  have hlt : ∀ {a : Nat} {e : va_E}, h a = some e → a < sz := fun ha => hP.lt ha
  obtain ⟨h1, h2, h3, h4⟩ := hP
  refine ⟨hz, by omega, fun q hq => (oq q (by omega)).trans (h3 q hq), fun b e' hb => ?_⟩
  unfold xa_u at hb
  by_cases hba : b = sz
  · rw [if_pos hba] at hb
    cases hb
    subst hba
    exact ⟨h2, he⟩
  · rw [if_neg hba] at hb
    exact ⟨(h4 b e' hb).1, (h4 b e' hb).2.kept (oq b (hlt hb))⟩
/-- less is known of the heap -/
theorem xa_P.less {D : va_G} {H0 : Heap} {h h' : xa_H} {sz : Nat} {H : Heap} (hP : xa_P D H0 h sz H) (hh : ∀ (a : Nat) (e : va_E), h' a = some e → h a = some e) : xa_P D H0 h' sz H := ⟨hP.1, hP.2.1, hP.2.2.1, fun a e ha => hP.2.2.2 a e (hh a e ha)⟩
/-- a static of Throwable's that lies below the base heap -/
def xa_SF (H0 : Heap) (nm ds : String) (U : State) : Prop := ∃ (c : ClassId) (k : Class) (i : Nat) (f : Field) (a : Nat) (cell : Cell) (v : Value), U.vm.findClass "java/lang/Throwable" = some c ∧ U.fieldFound? "java/lang/Throwable" nm ds = some (c, k, i, f) ∧ f.isStatic = true ∧ k.statics = some a ∧ H0[a]? = some cell ∧ cell.vm.isStatics = true ∧ cell.cls = c ∧ f.slot < cell.slots.size ∧ k.staticTypes[f.slot]? = some f.type ∧ cell.slots[f.slot]? = some v ∧ (v = .null ∨ ∃ t, v = .ref t)
theorem xa_SF.moved {H0 : Heap} {nm ds : String} {u U : State} (hvm : u.vm.Alike U.vm) (h : xa_SF H0 nm ds u) : xa_SF H0 nm ds U := by
  obtain ⟨c, k, i, f, a, cell, v, h1, h2, h3, h4, h5, h6, h7, h8, h9, h10⟩ := h
  obtain ⟨k', hi', he⟩ := State.fieldFound?_setVm hvm h2
  exact ⟨c, k', i, f, a, cell, v, by rw [hvm.findClass]; exact h1, hi', h3, by rw [he]; exact h4, h5, h6, h7, h8, by rw [he]; exact h9, h10⟩
def xa_N (H0 : Heap) (U : State) : Prop := xa_SF H0 "UNASSIGNED_STACK" "[Ljava/lang/StackTraceElement;" U ∧ xa_SF H0 "SUPPRESSED_SENTINEL" "Ljava/util/List;" U ∧ va_Nc "java/lang/IllegalArgumentException" "java/lang/IndexOutOfBoundsException" U ∧ va_Nc "java/lang/IllegalStateException" "java/lang/IndexOutOfBoundsException" U ∧ va_Nc "java/lang/IllegalStateException" "java/lang/IllegalArgumentException" U
theorem xa_N.moved {H0 : Heap} {u U : State} (hvm : u.vm.Alike U.vm) (h : xa_N H0 u) : xa_N H0 U := ⟨h.1.moved hvm, h.2.1.moved hvm, h.2.2.1.moved hvm, h.2.2.2.1.moved hvm, h.2.2.2.2.moved hvm⟩
def xa_C (D : va_G) (H0 : Heap) (μ : xa_Mu) (p : Program) (s : State) (m : MethodId) (args : Array Value) (meth : Method) (c : Code) : Prop :=
  p.tables.exec = Jvm.exec ∧ c.code = μ.2.1 ∧ c.maxLocals = μ.2.2.1 ∧ s.vm.findClass μ.1.cls = some m.cls ∧ (∀ w ∈ xa_ws, w.before args s = true) ∧ va_K D xa_cl (xa_tys D) s ∧ meth.sig.returnType = μ.2.2.2.1 ∧ meth.locks = false ∧ meth.name = μ.1.name ∧ c.exceptionTable.toList.map (fun x => (x.startPc, x.endPc, x.handlerPc, x.catchType)) = μ.2.2.2.2 ∧ xa_N H0 s
def xa_X (l : Launch) (D : va_G) (H0 : Heap) (μ : xa_Mu) (R : Room) (Z : xa_Z) (k n : Nat) (h : xa_H) (sz pc : Nat) (ls : List (Nat × Value)) (st : List Value) : Prop :=
  ∀ (p : Program) (e : Env) (s : State) (m : MethodId) (args : Array Value) (below : List Frame) (meth : Method) (c : Code) (H : Heap) (locs : List Loc) (la : Array Slot),
    xa_C D H0 μ p s m args meth c → xa_P D H0 h sz H → (∀ q ∈ locs, H0.size ≤ q.base) → lv_has la μ.2.2.1 ls → W p l e R s m args below meth c H locs k n (Z below args s) (F0 m pc la st)
/-- locals: reading, storing -/
def xa_lk : List (Nat × Value) → Nat → Option Value
  | [], _ => none
  | (j, v) :: r, i => match Nat.beq j i with
    | true => some v
    | false => xa_lk r i
def xa_st (i : Nat) (v : Value) : List (Nat × Value) → List (Nat × Value)
  | [] => [(i, v)]
  | (j, w) :: r => match Nat.beq j i with
    | true => xa_st i v r
    | false => (j, w) :: xa_st i v r
def xa_okb (i : Nat) : List (Nat × Value) → Bool
  | [] => true
  | (j, w) :: r => match Nat.beq (j + 1) i with
    | true => Nat.beq w.category 1 && xa_okb i r
    | false => xa_okb i r
theorem xa_lk_mem {ls : List (Nat × Value)} {i : Nat} {v : Value} (h : xa_lk ls i = some v) : (i, v) ∈ ls := by
  induction ls with
  | nil => cases h
  | cons q r ih =>
    obtain ⟨j, w⟩ := q
    unfold xa_lk at h
    cases hb : Nat.beq j i with
    | true =>
      rw [hb] at h
      cases h
      cases Nat.eq_of_beq_eq_true hb
      exact List.mem_cons_self
    | false =>
      rw [hb] at h
      exact List.mem_cons_of_mem _ (ih h)
theorem xa_lk_at {la : Array Slot} {nL : Nat} {ls : List (Nat × Value)} {i : Nat} {v : Value} (hl : lv_has la nL ls) (h : xa_lk ls i = some v) : la[i]? = some (.val v) := hl.2.2 (i, v) (xa_lk_mem h)
theorem xa_st_mem {ls : List (Nat × Value)} {i : Nat} {v : Value} {q : Nat × Value} (h : q ∈ xa_st i v ls) : q = (i, v) ∨ (q ∈ ls ∧ q.1 ≠ i) := by
  induction ls with
  | nil =>
    unfold xa_st at h
    exact Or.inl (List.mem_singleton.mp h)
  | cons x r ih =>
    obtain ⟨j, w⟩ := x
    unfold xa_st at h
    cases hb : Nat.beq j i with
    | true =>
      rw [hb] at h
      rcases ih h with h | ⟨h1, h2⟩
      · exact Or.inl h
      · exact Or.inr ⟨List.mem_cons_of_mem _ h1, h2⟩
    | false =>
      rw [hb] at h
      rcases List.mem_cons.mp h with h | h
      · subst h
        exact Or.inr ⟨List.mem_cons_self, fun e => by have e' : j = i := e; rw [e', Nat.beq_refl] at hb; cases hb⟩
      · rcases ih h with h | ⟨h1, h2⟩
        · exact Or.inl h
        · exact Or.inr ⟨List.mem_cons_of_mem _ h1, h2⟩
theorem xa_okb_mem {ls : List (Nat × Value)} {i : Nat} (h : xa_okb i ls = true) : ∀ q ∈ ls, q.1 + 1 = i → q.2.category = 1 := by
  induction ls with
  | nil => intro q hq; cases hq
  | cons x r ih =>
    obtain ⟨j, w⟩ := x
    intro q hq hi
    unfold xa_okb at h
    cases hb : Nat.beq (j + 1) i with
    | true =>
      rw [hb] at h
      simp only [Bool.and_eq_true] at h
      rcases List.mem_cons.mp hq with hq | hq
      · subst hq
        exact Nat.eq_of_beq_eq_true h.1
      · exact ih h.2 q hq hi
    | false =>
      rw [hb] at h
      rcases List.mem_cons.mp hq with hq | hq
      · subst hq
        have hi' : j + 1 = i := hi
        rw [hi', Nat.beq_refl] at hb
        cases hb
      · exact ih h q hq hi
theorem xa_st_has {la' : Array Slot} {nL : Nat} {ls : List (Nat × Value)} {i : Nat} {v : Value} (hok : xa_okb i ls = true) (h : lv_has la' nL ((i, v) :: ls.filter (fun q => !(q.1 == i) && !(q.1 + 1 == i && q.2.category == 2)))) : lv_has la' nL (xa_st i v ls) := by
  refine ⟨h.1, h.2.1, fun q hq => h.2.2 q ?_⟩
  rcases xa_st_mem hq with hq | ⟨hq, hne⟩
  · subst hq
    exact List.mem_cons_self
  · refine List.mem_cons_of_mem _ (List.mem_filter.mpr ⟨hq, ?_⟩)
    have hc := xa_okb_mem hok q hq
    by_cases hi : q.1 + 1 = i
    · simp [hne, hc hi]
    · simp [hne, hi]
/-- the listed locals are among these -/
def xa_sub (ls : List (Nat × Value)) : List (Nat × Value) → Prop
  | [] => True
  | (i, v) :: r => xa_lk ls i = some v ∧ xa_sub ls r
theorem xa_sub_mem {ls ls' : List (Nat × Value)} (h : xa_sub ls ls') : ∀ q ∈ ls', q ∈ ls := by
  induction ls' with
  | nil => intro q hq; cases hq
  | cons x r ih =>
    obtain ⟨i, v⟩ := x
    intro q hq
    rcases List.mem_cons.mp hq with hq | hq
    · subst hq
      exact xa_lk_mem h.1
    · exact ih h.2 q hq
theorem xa_cat_rf (r : Option Nat) : (va_rf r).category = 1 := by cases r <;> rfl
section XA
variable {l : Launch} {D : va_G} {H0 : Heap} {μ : xa_Mu} {R : Room} {Z : xa_Z} {k n : Nat} {h : xa_H} {sz pc : Nat} {ls : List (Nat × Value)} {st : List Value}
theorem xa_ls {ls' : List (Nat × Value)} (hs : xa_sub ls ls') (kk : xa_X l D H0 μ R Z k n h sz pc ls' st) : xa_X l D H0 μ R Z k n h sz pc ls st := fun p e s m args below meth c H locs la C hP hL hl => kk p e s m args below meth c H locs la C hP hL ⟨hl.1, hl.2.1, fun q hq => hl.2.2 q (xa_sub_mem hs q hq)⟩
theorem xa_less {h' : xa_H} (hh : ∀ (a : Nat) (e : va_E), h' a = some e → h a = some e) (kk : xa_X l D H0 μ R Z k n h' sz pc ls st) : xa_X l D H0 μ R Z k n h sz pc ls st := fun p e s m args below meth c H locs la C hP hL hl => kk p e s m args below meth c H locs la C (hP.less hh) hL hl
theorem xa_widen {k' n' : Nat} (h1 : k ≤ k') (h2 : n ≤ n') (kk : xa_X l D H0 μ R Z k' n' h sz pc ls st) : xa_X l D H0 μ R Z k n h sz pc ls st := fun p e s m args below meth c H locs la C hP hL hl => W.widen h1 h2 (kk p e s m args below meth c H locs la C hP hL hl)
theorem xa_pre (kk : H0.size ≤ sz → (∀ (a : Nat) (e : va_E), h a = some e → H0.size ≤ a ∧ a < sz) → xa_X l D H0 μ R Z k n h sz pc ls st) : xa_X l D H0 μ R Z k n h sz pc ls st := fun p e s m args below meth c H locs la C hP hL hl => kk hP.2.1 (fun a e ha => ⟨(hP.2.2.2 a e ha).1, hP.lt ha⟩) p e s m args below meth c H locs la C hP hL hl
theorem xa_iconst {q : Int} {v : Int32} (hd : decode μ.2.1 pc = .ok (.iconst q, 1)) (hv : Int32.ofInt q = v) (kk : xa_X l D H0 μ R Z k n h sz (pc + 1) ls (.int v :: st)) : xa_X l D H0 μ R Z k n h sz pc ls (st) := by
  intro p e s m args below meth c H locs la C hP hL hl
  exact lv_iconst C.1 C.2.1 hd hv (kk p e s m args below meth c H locs la C hP hL hl)
theorem xa_bipush {q : Int} {v : Int32} (hd : decode μ.2.1 pc = .ok (.bipush q, 2)) (hv : (Int8.ofInt q).toInt32 = v) (kk : xa_X l D H0 μ R Z k n h sz (pc + 2) ls (.int v :: st)) : xa_X l D H0 μ R Z k n h sz pc ls (st) := by
  intro p e s m args below meth c H locs la C hP hL hl
  exact lv_bipush C.1 C.2.1 hd hv (kk p e s m args below meth c H locs la C hP hL hl)
theorem xa_sipush {q : Int} {v : Int32} (hd : decode μ.2.1 pc = .ok (.sipush q, 3)) (hv : (Int16.ofInt q).toInt32 = v) (kk : xa_X l D H0 μ R Z k n h sz (pc + 3) ls (.int v :: st)) : xa_X l D H0 μ R Z k n h sz pc ls (st) := by
  intro p e s m args below meth c H locs la C hP hL hl
  exact lv_sipush C.1 C.2.1 hd hv (kk p e s m args below meth c H locs la C hP hL hl)
theorem xa_lconst {q : Fin 2} {v : Int64} (hd : decode μ.2.1 pc = .ok (.lconst q, 1)) (hv : Int64.ofNat (q : Nat) = v) (kk : xa_X l D H0 μ R Z k n h sz (pc + 1) ls (.long v :: st)) : xa_X l D H0 μ R Z k n h sz pc ls (st) := by
  intro p e s m args below meth c H locs la C hP hL hl
  exact lv_lconst C.1 C.2.1 hd hv (kk p e s m args below meth c H locs la C hP hL hl)
theorem xa_null  (hd : decode μ.2.1 pc = .ok (.aconst_null, 1))  (kk : xa_X l D H0 μ R Z k n h sz (pc + 1) ls (.null :: st)) : xa_X l D H0 μ R Z k n h sz pc ls (st) := by
  intro p e s m args below meth c H locs la C hP hL hl
  exact lv_null C.1 C.2.1 hd  (kk p e s m args below meth c H locs la C hP hL hl)
theorem xa_iload_n {q : Fin 4} {x : Int32} (hd : decode μ.2.1 pc = .ok (.iload_n q, 1)) (hx : xa_lk ls (q : Nat) = some (.int x)) (kk : xa_X l D H0 μ R Z k n h sz (pc + 1) ls (.int x :: st)) : xa_X l D H0 μ R Z k n h sz pc ls (st) := by
  intro p e s m args below meth c H locs la C hP hL hl
  exact lv_iload_n C.1 C.2.1 hd rfl (xa_lk_at hl hx) (kk p e s m args below meth c H locs la C hP hL hl)
theorem xa_iload {q : Nat} {x : Int32} (hd : decode μ.2.1 pc = .ok (.iload q, 2)) (hx : xa_lk ls q = some (.int x)) (kk : xa_X l D H0 μ R Z k n h sz (pc + 2) ls (.int x :: st)) : xa_X l D H0 μ R Z k n h sz pc ls (st) := by
  intro p e s m args below meth c H locs la C hP hL hl
  exact lv_iload C.1 C.2.1 hd (xa_lk_at hl hx) (kk p e s m args below meth c H locs la C hP hL hl)
theorem xa_lload_n {q : Fin 4} {x : Int64} (hd : decode μ.2.1 pc = .ok (.lload_n q, 1)) (hx : xa_lk ls (q : Nat) = some (.long x)) (kk : xa_X l D H0 μ R Z k n h sz (pc + 1) ls (.long x :: st)) : xa_X l D H0 μ R Z k n h sz pc ls (st) := by
  intro p e s m args below meth c H locs la C hP hL hl
  exact lv_lload_n C.1 C.2.1 hd rfl (xa_lk_at hl hx) (kk p e s m args below meth c H locs la C hP hL hl)
theorem xa_lload {q : Nat} {x : Int64} (hd : decode μ.2.1 pc = .ok (.lload q, 2)) (hx : xa_lk ls q = some (.long x)) (kk : xa_X l D H0 μ R Z k n h sz (pc + 2) ls (.long x :: st)) : xa_X l D H0 μ R Z k n h sz pc ls (st) := by
  intro p e s m args below meth c H locs la C hP hL hl
  exact lv_lload C.1 C.2.1 hd (xa_lk_at hl hx) (kk p e s m args below meth c H locs la C hP hL hl)
theorem xa_aload_n {q : Fin 4} {x : Nat} (hd : decode μ.2.1 pc = .ok (.aload_n q, 1)) (hx : xa_lk ls (q : Nat) = some (.ref x)) (kk : xa_X l D H0 μ R Z k n h sz (pc + 1) ls (.ref x :: st)) : xa_X l D H0 μ R Z k n h sz pc ls (st) := by
  intro p e s m args below meth c H locs la C hP hL hl
  exact lv_aload_n C.1 C.2.1 hd rfl (xa_lk_at hl hx) (kk p e s m args below meth c H locs la C hP hL hl)
theorem xa_aload {q : Nat} {x : Nat} (hd : decode μ.2.1 pc = .ok (.aload q, 2)) (hx : xa_lk ls q = some (.ref x)) (kk : xa_X l D H0 μ R Z k n h sz (pc + 2) ls (.ref x :: st)) : xa_X l D H0 μ R Z k n h sz pc ls (st) := by
  intro p e s m args below meth c H locs la C hP hL hl
  exact lv_aload C.1 C.2.1 hd (xa_lk_at hl hx) (kk p e s m args below meth c H locs la C hP hL hl)
theorem xa_aload_nN {q : Fin 4} (hd : decode μ.2.1 pc = .ok (.aload_n q, 1)) (hx : xa_lk ls (q : Nat) = some .null) (kk : xa_X l D H0 μ R Z k n h sz (pc + 1) ls (.null :: st)) : xa_X l D H0 μ R Z k n h sz pc ls (st) := by
  intro p e s m args below meth c H locs la C hP hL hl
  exact lv_aload_nN C.1 C.2.1 hd rfl (xa_lk_at hl hx) (kk p e s m args below meth c H locs la C hP hL hl)
theorem xa_aloadN {q : Nat} (hd : decode μ.2.1 pc = .ok (.aload q, 2)) (hx : xa_lk ls q = some .null) (kk : xa_X l D H0 μ R Z k n h sz (pc + 2) ls (.null :: st)) : xa_X l D H0 μ R Z k n h sz pc ls (st) := by
  intro p e s m args below meth c H locs la C hP hL hl
  exact lv_aloadN C.1 C.2.1 hd (xa_lk_at hl hx) (kk p e s m args below meth c H locs la C hP hL hl)
theorem xa_aload_nQ {q : Fin 4} {r : Option Nat} (hd : decode μ.2.1 pc = .ok (.aload_n q, 1)) (hx : xa_lk ls (q : Nat) = some (va_rf r)) (kk : xa_X l D H0 μ R Z k n h sz (pc + 1) ls (va_rf r :: st)) : xa_X l D H0 μ R Z k n h sz pc ls st := by
  cases r with
  | none => exact xa_aload_nN hd hx kk
  | some a => exact xa_aload_n hd hx kk
theorem xa_aloadQ {q : Nat} {r : Option Nat} (hd : decode μ.2.1 pc = .ok (.aload q, 2)) (hx : xa_lk ls q = some (va_rf r)) (kk : xa_X l D H0 μ R Z k n h sz (pc + 2) ls (va_rf r :: st)) : xa_X l D H0 μ R Z k n h sz pc ls st := by
  cases r with
  | none => exact xa_aloadN hd hx kk
  | some a => exact xa_aload hd hx kk
theorem xa_istore_n {q : Fin 4} {x : Int32} (hd : decode μ.2.1 pc = .ok (.istore_n q, 1)) (hn : Nat.blt (q : Nat) μ.2.2.1 = true) (hok : xa_okb (q : Nat) ls = true) (kk : xa_X l D H0 μ R Z k n h sz (pc + 1) (xa_st (q : Nat) (.int x) ls) st) : xa_X l D H0 μ R Z k n h sz pc ls (.int x :: st) := by
  intro p e s m args below meth c H locs la C hP hL hl
  exact lv_istore_n C.1 C.2.1 hd rfl hl (Nat.le_of_ble_eq_true hn) rfl (fun la' hl' => kk p e s m args below meth c H locs la' C hP hL (xa_st_has hok hl'))
theorem xa_istore {q : Nat} {x : Int32} (hd : decode μ.2.1 pc = .ok (.istore q, 2)) (hn : Nat.blt q μ.2.2.1 = true) (hok : xa_okb q ls = true) (kk : xa_X l D H0 μ R Z k n h sz (pc + 2) (xa_st q (.int x) ls) st) : xa_X l D H0 μ R Z k n h sz pc ls (.int x :: st) := by
  intro p e s m args below meth c H locs la C hP hL hl
  exact lv_istore C.1 C.2.1 hd hl (Nat.le_of_ble_eq_true hn) rfl (fun la' hl' => kk p e s m args below meth c H locs la' C hP hL (xa_st_has hok hl'))
theorem xa_astore_n {q : Fin 4} {x : Nat} (hd : decode μ.2.1 pc = .ok (.astore_n q, 1)) (hn : Nat.blt (q : Nat) μ.2.2.1 = true) (hok : xa_okb (q : Nat) ls = true) (kk : xa_X l D H0 μ R Z k n h sz (pc + 1) (xa_st (q : Nat) (.ref x) ls) st) : xa_X l D H0 μ R Z k n h sz pc ls (.ref x :: st) := by
  intro p e s m args below meth c H locs la C hP hL hl
  exact lv_astore_n C.1 C.2.1 hd rfl hl (Nat.le_of_ble_eq_true hn) rfl (fun la' hl' => kk p e s m args below meth c H locs la' C hP hL (xa_st_has hok hl'))
theorem xa_astore {q : Nat} {x : Nat} (hd : decode μ.2.1 pc = .ok (.astore q, 2)) (hn : Nat.blt q μ.2.2.1 = true) (hok : xa_okb q ls = true) (kk : xa_X l D H0 μ R Z k n h sz (pc + 2) (xa_st q (.ref x) ls) st) : xa_X l D H0 μ R Z k n h sz pc ls (.ref x :: st) := by
  intro p e s m args below meth c H locs la C hP hL hl
  exact lv_astore C.1 C.2.1 hd hl (Nat.le_of_ble_eq_true hn) rfl (fun la' hl' => kk p e s m args below meth c H locs la' C hP hL (xa_st_has hok hl'))
theorem xa_astore_nN {q : Fin 4} (hd : decode μ.2.1 pc = .ok (.astore_n q, 1)) (hn : Nat.blt (q : Nat) μ.2.2.1 = true) (hok : xa_okb (q : Nat) ls = true) (kk : xa_X l D H0 μ R Z k n h sz (pc + 1) (xa_st (q : Nat) .null ls) st) : xa_X l D H0 μ R Z k n h sz pc ls (.null :: st) := by
  intro p e s m args below meth c H locs la C hP hL hl
  exact lv_astore_nN C.1 C.2.1 hd rfl hl (Nat.le_of_ble_eq_true hn) rfl (fun la' hl' => kk p e s m args below meth c H locs la' C hP hL (xa_st_has hok hl'))
theorem xa_astore_nQ {q : Fin 4} {r : Option Nat} (hd : decode μ.2.1 pc = .ok (.astore_n q, 1)) (hn : Nat.blt (q : Nat) μ.2.2.1 = true) (hok : xa_okb (q : Nat) ls = true) (kk : xa_X l D H0 μ R Z k n h sz (pc + 1) (xa_st (q : Nat) (va_rf r) ls) st) : xa_X l D H0 μ R Z k n h sz pc ls (va_rf r :: st) := by
  cases r with
  | none => exact xa_astore_nN hd hn hok kk
  | some a => exact xa_astore_n hd hn hok kk
theorem xa_lstore_n {q : Fin 4} {x : Int64} {ls' : List (Nat × Value)} (hd : decode μ.2.1 pc = .ok (.lstore_n q, 1)) (hn : Nat.blt ((q : Nat) + 1) μ.2.2.1 = true) (hl' : ((q : Nat), Value.long x) :: ls.filter (fun y => !(y.1 == (q : Nat)) && (!(y.1 == (q : Nat) + 1) && !(y.1 + 1 == (q : Nat) && y.2.category == 2))) = ls') (kk : xa_X l D H0 μ R Z k n h sz (pc + 1) ls' st) : xa_X l D H0 μ R Z k n h sz pc ls (.long x :: st) := by
  intro p e s m args below meth c H locs la C hP hL hl
  exact lv_lstore_n C.1 C.2.1 hd rfl hl (Nat.le_of_ble_eq_true hn) hl' (fun la' hl2 => kk p e s m args below meth c H locs la' C hP hL hl2)
theorem xa_astoreN {q : Nat} (hd : decode μ.2.1 pc = .ok (.astore q, 2)) (hn : Nat.blt q μ.2.2.1 = true) (hok : xa_okb q ls = true) (kk : xa_X l D H0 μ R Z k n h sz (pc + 2) (xa_st q .null ls) st) : xa_X l D H0 μ R Z k n h sz pc ls (.null :: st) := by
  intro p e s m args below meth c H locs la C hP hL hl
  exact lv_astoreN C.1 C.2.1 hd hl (Nat.le_of_ble_eq_true hn) rfl (fun la' hl' => kk p e s m args below meth c H locs la' C hP hL (xa_st_has hok hl'))
theorem xa_astoreQ {q : Nat} {r : Option Nat} (hd : decode μ.2.1 pc = .ok (.astore q, 2)) (hn : Nat.blt q μ.2.2.1 = true) (hok : xa_okb q ls = true) (kk : xa_X l D H0 μ R Z k n h sz (pc + 2) (xa_st q (va_rf r) ls) st) : xa_X l D H0 μ R Z k n h sz pc ls (va_rf r :: st) := by
  cases r with
  | none => exact xa_astoreN hd hn hok kk
  | some a => exact xa_astore hd hn hok kk
theorem xa_lstore {q : Nat} {x : Int64} {ls' : List (Nat × Value)} (hd : decode μ.2.1 pc = .ok (.lstore q, 2)) (hn : Nat.blt (q + 1) μ.2.2.1 = true) (hl' : (q, Value.long x) :: ls.filter (fun y => !(y.1 == q) && (!(y.1 == q + 1) && !(y.1 + 1 == q && y.2.category == 2))) = ls') (kk : xa_X l D H0 μ R Z k n h sz (pc + 2) ls' st) : xa_X l D H0 μ R Z k n h sz pc ls (.long x :: st) := by
  intro p e s m args below meth c H locs la C hP hL hl
  exact lv_lstore C.1 C.2.1 hd hl (Nat.le_of_ble_eq_true hn) hl' (fun la' hl2 => kk p e s m args below meth c H locs la' C hP hL hl2)
theorem xa_iinc {q : Nat} {d : Int} {x v : Int32} (hd : decode μ.2.1 pc = .ok (.iinc q d, 3)) (hx : xa_lk ls q = some (.int x)) (hv : x + Int32.ofInt d = v) (hn : Nat.blt q μ.2.2.1 = true) (hok : xa_okb q ls = true) (kk : xa_X l D H0 μ R Z k n h sz (pc + 3) (xa_st q (.int v) ls) st) : xa_X l D H0 μ R Z k n h sz pc ls st := by
  intro p e s m args below meth c H locs la C hP hL hl
  obtain ⟨i, hi⟩ := List.getElem?_of_mem (xa_lk_mem hx)
  exact lv_iinc C.1 C.2.1 hd hl hi hv (Nat.le_of_ble_eq_true hn) rfl (fun la' hl' => kk p e s m args below meth c H locs la' C hP hL (xa_st_has hok hl'))
theorem xa_iadd {x y : Int32} (hd : decode μ.2.1 pc = .ok (.iadd, 1))  (kk : xa_X l D H0 μ R Z k n h sz (pc + 1) ls (.int (x + y) :: st)) : xa_X l D H0 μ R Z k n h sz pc ls (.int y :: .int x :: st) := by
  intro p e s m args below meth c H locs la C hP hL hl
  exact lv_iadd C.1 C.2.1 hd  (kk p e s m args below meth c H locs la C hP hL hl)
theorem xa_isub {x y : Int32} (hd : decode μ.2.1 pc = .ok (.isub, 1))  (kk : xa_X l D H0 μ R Z k n h sz (pc + 1) ls (.int (x - y) :: st)) : xa_X l D H0 μ R Z k n h sz pc ls (.int y :: .int x :: st) := by
  intro p e s m args below meth c H locs la C hP hL hl
  exact lv_isub C.1 C.2.1 hd  (kk p e s m args below meth c H locs la C hP hL hl)
theorem xa_imul {x y : Int32} (hd : decode μ.2.1 pc = .ok (.imul, 1))  (kk : xa_X l D H0 μ R Z k n h sz (pc + 1) ls (.int (x * y) :: st)) : xa_X l D H0 μ R Z k n h sz pc ls (.int y :: .int x :: st) := by
  intro p e s m args below meth c H locs la C hP hL hl
  exact lv_imul C.1 C.2.1 hd  (kk p e s m args below meth c H locs la C hP hL hl)
theorem xa_iand {x y : Int32} (hd : decode μ.2.1 pc = .ok (.iand, 1))  (kk : xa_X l D H0 μ R Z k n h sz (pc + 1) ls (.int (x &&& y) :: st)) : xa_X l D H0 μ R Z k n h sz pc ls (.int y :: .int x :: st) := by
  intro p e s m args below meth c H locs la C hP hL hl
  exact lv_iand C.1 C.2.1 hd  (kk p e s m args below meth c H locs la C hP hL hl)
theorem xa_ior {x y : Int32} (hd : decode μ.2.1 pc = .ok (.ior, 1))  (kk : xa_X l D H0 μ R Z k n h sz (pc + 1) ls (.int (x ||| y) :: st)) : xa_X l D H0 μ R Z k n h sz pc ls (.int y :: .int x :: st) := by
  intro p e s m args below meth c H locs la C hP hL hl
  exact lv_ior C.1 C.2.1 hd  (kk p e s m args below meth c H locs la C hP hL hl)
theorem xa_ixor {x y : Int32} (hd : decode μ.2.1 pc = .ok (.ixor, 1))  (kk : xa_X l D H0 μ R Z k n h sz (pc + 1) ls (.int (x ^^^ y) :: st)) : xa_X l D H0 μ R Z k n h sz pc ls (.int y :: .int x :: st) := by
  intro p e s m args below meth c H locs la C hP hL hl
  exact lv_ixor C.1 C.2.1 hd  (kk p e s m args below meth c H locs la C hP hL hl)
theorem xa_idiv {x y : Int32} (hd : decode μ.2.1 pc = .ok (.idiv, 1)) (hne : ¬ y = 0) (kk : xa_X l D H0 μ R Z k n h sz (pc + 1) ls (.int (x / y) :: st)) : xa_X l D H0 μ R Z k n h sz pc ls (.int y :: .int x :: st) := by
  intro p e s m args below meth c H locs la C hP hL hl
  exact lv_idiv C.1 C.2.1 hd hne (kk p e s m args below meth c H locs la C hP hL hl)
theorem xa_irem {x y : Int32} (hd : decode μ.2.1 pc = .ok (.irem, 1)) (hne : ¬ y = 0) (kk : xa_X l D H0 μ R Z k n h sz (pc + 1) ls (.int (x - x / y * y) :: st)) : xa_X l D H0 μ R Z k n h sz pc ls (.int y :: .int x :: st) := by
  intro p e s m args below meth c H locs la C hP hL hl
  exact lv_irem C.1 C.2.1 hd hne (kk p e s m args below meth c H locs la C hP hL hl)
theorem xa_ishl {x y : Int32} (hd : decode μ.2.1 pc = .ok (.ishl, 1))  (kk : xa_X l D H0 μ R Z k n h sz (pc + 1) ls (.int (x <<< (y &&& 31)) :: st)) : xa_X l D H0 μ R Z k n h sz pc ls (.int y :: .int x :: st) := by
  intro p e s m args below meth c H locs la C hP hL hl
  exact lv_ishl C.1 C.2.1 hd  (kk p e s m args below meth c H locs la C hP hL hl)
theorem xa_ladd {x y : Int64} (hd : decode μ.2.1 pc = .ok (.ladd, 1))  (kk : xa_X l D H0 μ R Z k n h sz (pc + 1) ls (.long (x + y) :: st)) : xa_X l D H0 μ R Z k n h sz pc ls (.long y :: .long x :: st) := by
  intro p e s m args below meth c H locs la C hP hL hl
  exact lv_ladd C.1 C.2.1 hd  (kk p e s m args below meth c H locs la C hP hL hl)
theorem xa_lmul {x y : Int64} (hd : decode μ.2.1 pc = .ok (.lmul, 1))  (kk : xa_X l D H0 μ R Z k n h sz (pc + 1) ls (.long (x * y) :: st)) : xa_X l D H0 μ R Z k n h sz pc ls (.long y :: .long x :: st) := by
  intro p e s m args below meth c H locs la C hP hL hl
  exact lv_lmul C.1 C.2.1 hd  (kk p e s m args below meth c H locs la C hP hL hl)
theorem xa_land {x y : Int64} (hd : decode μ.2.1 pc = .ok (.land, 1))  (kk : xa_X l D H0 μ R Z k n h sz (pc + 1) ls (.long (x &&& y) :: st)) : xa_X l D H0 μ R Z k n h sz pc ls (.long y :: .long x :: st) := by
  intro p e s m args below meth c H locs la C hP hL hl
  exact lv_land C.1 C.2.1 hd  (kk p e s m args below meth c H locs la C hP hL hl)
theorem xa_lor {x y : Int64} (hd : decode μ.2.1 pc = .ok (.lor, 1))  (kk : xa_X l D H0 μ R Z k n h sz (pc + 1) ls (.long (x ||| y) :: st)) : xa_X l D H0 μ R Z k n h sz pc ls (.long y :: .long x :: st) := by
  intro p e s m args below meth c H locs la C hP hL hl
  exact lv_lor C.1 C.2.1 hd  (kk p e s m args below meth c H locs la C hP hL hl)
theorem xa_lxor {x y : Int64} (hd : decode μ.2.1 pc = .ok (.lxor, 1))  (kk : xa_X l D H0 μ R Z k n h sz (pc + 1) ls (.long (x ^^^ y) :: st)) : xa_X l D H0 μ R Z k n h sz pc ls (.long y :: .long x :: st) := by
  intro p e s m args below meth c H locs la C hP hL hl
  exact lv_lxor C.1 C.2.1 hd  (kk p e s m args below meth c H locs la C hP hL hl)
theorem xa_lushr {x v : Int64} {y : Int32} (hd : decode μ.2.1 pc = .ok (.lushr, 1)) (hv : (x.toUInt64 >>> (y.toInt64.toUInt64 &&& Int64.toUInt64 63)).toInt64 = v) (kk : xa_X l D H0 μ R Z k n h sz (pc + 1) ls (.long v :: st)) : xa_X l D H0 μ R Z k n h sz pc ls (.int y :: .long x :: st) := by
  intro p e s m args below meth c H locs la C hP hL hl
  exact lv_lushr C.1 C.2.1 hd hv (kk p e s m args below meth c H locs la C hP hL hl)
theorem xa_lshl {x v : Int64} {y : Int32} (hd : decode μ.2.1 pc = .ok (.lshl, 1)) (hv : x <<< (y.toInt64 &&& 63) = v) (kk : xa_X l D H0 μ R Z k n h sz (pc + 1) ls (.long v :: st)) : xa_X l D H0 μ R Z k n h sz pc ls (.int y :: .long x :: st) := by
  intro p e s m args below meth c H locs la C hP hL hl
  exact lv_lshl C.1 C.2.1 hd hv (kk p e s m args below meth c H locs la C hP hL hl)
theorem xa_i2l {x : Int32} {v : Int64} (hd : decode μ.2.1 pc = .ok (.i2l, 1)) (hv : x.toInt64 = v) (kk : xa_X l D H0 μ R Z k n h sz (pc + 1) ls (.long v :: st)) : xa_X l D H0 μ R Z k n h sz pc ls (.int x :: st) := by
  intro p e s m args below meth c H locs la C hP hL hl
  exact lv_i2l C.1 C.2.1 hd hv (kk p e s m args below meth c H locs la C hP hL hl)
theorem xa_l2i {x : Int64} {v : Int32} (hd : decode μ.2.1 pc = .ok (.l2i, 1)) (hv : x.toInt32 = v) (kk : xa_X l D H0 μ R Z k n h sz (pc + 1) ls (.int v :: st)) : xa_X l D H0 μ R Z k n h sz pc ls (.long x :: st) := by
  intro p e s m args below meth c H locs la C hP hL hl
  exact lv_l2i C.1 C.2.1 hd hv (kk p e s m args below meth c H locs la C hP hL hl)
theorem xa_lcmp {x y : Int64} (hd : decode μ.2.1 pc = .ok (.lcmp, 1))  (kk : xa_X l D H0 μ R Z k n h sz (pc + 1) ls (.int (lg_cmp x y) :: st)) : xa_X l D H0 μ R Z k n h sz pc ls (.long y :: .long x :: st) := by
  intro p e s m args below meth c H locs la C hP hL hl
  exact W.lcmp C.1 C.2.1 hd  (kk p e s m args below meth c H locs la C hP hL hl)
theorem xa_dup {x : Value} (hd : decode μ.2.1 pc = .ok (.dup, 1)) (hx : x.category = 1) (kk : xa_X l D H0 μ R Z k n h sz (pc + 1) ls (x :: x :: st)) : xa_X l D H0 μ R Z k n h sz pc ls (x :: st) := by
  intro p e s m args below meth c H locs la C hP hL hl
  exact lv_dup C.1 C.2.1 hd hx (kk p e s m args below meth c H locs la C hP hL hl)
theorem xa_pop {x : Value} (hd : decode μ.2.1 pc = .ok (.pop, 1)) (hx : x.category = 1) (kk : xa_X l D H0 μ R Z k n h sz (pc + 1) ls (st)) : xa_X l D H0 μ R Z k n h sz pc ls (x :: st) := by
  intro p e s m args below meth c H locs la C hP hL hl
  exact lv_pop C.1 C.2.1 hd hx (kk p e s m args below meth c H locs la C hP hL hl)
theorem xa_dup_x1 {x y : Value} (hd : decode μ.2.1 pc = .ok (.dup_x1, 1)) (hx : x.category = 1) (hy : y.category = 1) (kk : xa_X l D H0 μ R Z k n h sz (pc + 1) ls (x :: y :: x :: st)) : xa_X l D H0 μ R Z k n h sz pc ls (x :: y :: st) := by
  intro p e s m args below meth c H locs la C hP hL hl
  exact lv_dup_x1 C.1 C.2.1 hd hx hy (kk p e s m args below meth c H locs la C hP hL hl)
theorem xa_dup_x2 {x y z : Value} (hd : decode μ.2.1 pc = .ok (.dup_x2, 1)) (hx : x.category = 1) (hy : y.category = 1) (hz : z.category = 1) (kk : xa_X l D H0 μ R Z k n h sz (pc + 1) ls (x :: y :: z :: x :: st)) : xa_X l D H0 μ R Z k n h sz pc ls (x :: y :: z :: st) := by
  intro p e s m args below meth c H locs la C hP hL hl
  exact lv_dup_x2 C.1 C.2.1 hd hx hy hz (kk p e s m args below meth c H locs la C hP hL hl)
theorem xa_dup2 {x y : Value} (hd : decode μ.2.1 pc = .ok (.dup2, 1)) (hx : x.category = 1) (hy : y.category = 1) (kk : xa_X l D H0 μ R Z k n h sz (pc + 1) ls (x :: y :: x :: y :: st)) : xa_X l D H0 μ R Z k n h sz pc ls (x :: y :: st) := by
  intro p e s m args below meth c H locs la C hP hL hl
  exact lv_dup2_11 C.1 C.2.1 hd hx hy (kk p e s m args below meth c H locs la C hP hL hl)
theorem xa_dup2L {x : Value} (hd : decode μ.2.1 pc = .ok (.dup2, 1)) (hx : x.category = 2) (kk : xa_X l D H0 μ R Z k n h sz (pc + 1) ls (x :: x :: st)) : xa_X l D H0 μ R Z k n h sz pc ls (x :: st) := by
  intro p e s m args below meth c H locs la C hP hL hl
  exact lv_dup2_2 C.1 C.2.1 hd hx (kk p e s m args below meth c H locs la C hP hL hl)
theorem xa_if_eq {x : Int32} {off : Int} {tgt : Nat} (hd : decode μ.2.1 pc = .ok (.ifCond .eq off, 3)) (ht : (pc : Int) + off = (tgt : Int)) (kt : x = 0 → xa_X l D H0 μ R Z k n h sz tgt ls st) (kf : ¬ x = 0 → xa_X l D H0 μ R Z k n h sz (pc + 3) ls st) : xa_X l D H0 μ R Z k n h sz pc ls (.int x :: st) := by
  intro p e s m args below meth c H locs la C hP hL hl
  exact lv_if_eq C.1 C.2.1 hd ht (fun q => kt q p e s m args below meth c H locs la C hP hL hl) (fun q => kf q p e s m args below meth c H locs la C hP hL hl)
theorem xa_icmp_eq {x y : Int32} {off : Int} {tgt : Nat} (hd : decode μ.2.1 pc = .ok (.if_icmp .eq off, 3)) (ht : (pc : Int) + off = (tgt : Int)) (kt : x = y → xa_X l D H0 μ R Z k n h sz tgt ls st) (kf : ¬ x = y → xa_X l D H0 μ R Z k n h sz (pc + 3) ls st) : xa_X l D H0 μ R Z k n h sz pc ls (.int y :: .int x :: st) := by
  intro p e s m args below meth c H locs la C hP hL hl
  exact lv_icmp_eq C.1 C.2.1 hd ht (fun q => kt q p e s m args below meth c H locs la C hP hL hl) (fun q => kf q p e s m args below meth c H locs la C hP hL hl)
theorem xa_if_ne {x : Int32} {off : Int} {tgt : Nat} (hd : decode μ.2.1 pc = .ok (.ifCond .ne off, 3)) (ht : (pc : Int) + off = (tgt : Int)) (kt : ¬ x = 0 → xa_X l D H0 μ R Z k n h sz tgt ls st) (kf : x = 0 → xa_X l D H0 μ R Z k n h sz (pc + 3) ls st) : xa_X l D H0 μ R Z k n h sz pc ls (.int x :: st) := by
  intro p e s m args below meth c H locs la C hP hL hl
  exact lv_if_ne C.1 C.2.1 hd ht (fun q => kt q p e s m args below meth c H locs la C hP hL hl) (fun q => kf q p e s m args below meth c H locs la C hP hL hl)
theorem xa_icmp_ne {x y : Int32} {off : Int} {tgt : Nat} (hd : decode μ.2.1 pc = .ok (.if_icmp .ne off, 3)) (ht : (pc : Int) + off = (tgt : Int)) (kt : ¬ x = y → xa_X l D H0 μ R Z k n h sz tgt ls st) (kf : x = y → xa_X l D H0 μ R Z k n h sz (pc + 3) ls st) : xa_X l D H0 μ R Z k n h sz pc ls (.int y :: .int x :: st) := by
  intro p e s m args below meth c H locs la C hP hL hl
  exact lv_icmp_ne C.1 C.2.1 hd ht (fun q => kt q p e s m args below meth c H locs la C hP hL hl) (fun q => kf q p e s m args below meth c H locs la C hP hL hl)
theorem xa_if_lt {x : Int32} {off : Int} {tgt : Nat} (hd : decode μ.2.1 pc = .ok (.ifCond .lt off, 3)) (ht : (pc : Int) + off = (tgt : Int)) (kt : x < 0 → xa_X l D H0 μ R Z k n h sz tgt ls st) (kf : ¬ x < 0 → xa_X l D H0 μ R Z k n h sz (pc + 3) ls st) : xa_X l D H0 μ R Z k n h sz pc ls (.int x :: st) := by
  intro p e s m args below meth c H locs la C hP hL hl
  exact lv_if_lt C.1 C.2.1 hd ht (fun q => kt q p e s m args below meth c H locs la C hP hL hl) (fun q => kf q p e s m args below meth c H locs la C hP hL hl)
theorem xa_icmp_lt {x y : Int32} {off : Int} {tgt : Nat} (hd : decode μ.2.1 pc = .ok (.if_icmp .lt off, 3)) (ht : (pc : Int) + off = (tgt : Int)) (kt : x < y → xa_X l D H0 μ R Z k n h sz tgt ls st) (kf : ¬ x < y → xa_X l D H0 μ R Z k n h sz (pc + 3) ls st) : xa_X l D H0 μ R Z k n h sz pc ls (.int y :: .int x :: st) := by
  intro p e s m args below meth c H locs la C hP hL hl
  exact lv_icmp_lt C.1 C.2.1 hd ht (fun q => kt q p e s m args below meth c H locs la C hP hL hl) (fun q => kf q p e s m args below meth c H locs la C hP hL hl)
theorem xa_if_ge {x : Int32} {off : Int} {tgt : Nat} (hd : decode μ.2.1 pc = .ok (.ifCond .ge off, 3)) (ht : (pc : Int) + off = (tgt : Int)) (kt : 0 ≤ x → xa_X l D H0 μ R Z k n h sz tgt ls st) (kf : ¬ 0 ≤ x → xa_X l D H0 μ R Z k n h sz (pc + 3) ls st) : xa_X l D H0 μ R Z k n h sz pc ls (.int x :: st) := by
  intro p e s m args below meth c H locs la C hP hL hl
  exact lv_if_ge C.1 C.2.1 hd ht (fun q => kt q p e s m args below meth c H locs la C hP hL hl) (fun q => kf q p e s m args below meth c H locs la C hP hL hl)
theorem xa_icmp_ge {x y : Int32} {off : Int} {tgt : Nat} (hd : decode μ.2.1 pc = .ok (.if_icmp .ge off, 3)) (ht : (pc : Int) + off = (tgt : Int)) (kt : y ≤ x → xa_X l D H0 μ R Z k n h sz tgt ls st) (kf : ¬ y ≤ x → xa_X l D H0 μ R Z k n h sz (pc + 3) ls st) : xa_X l D H0 μ R Z k n h sz pc ls (.int y :: .int x :: st) := by
  intro p e s m args below meth c H locs la C hP hL hl
  exact lv_icmp_ge C.1 C.2.1 hd ht (fun q => kt q p e s m args below meth c H locs la C hP hL hl) (fun q => kf q p e s m args below meth c H locs la C hP hL hl)
theorem xa_if_gt {x : Int32} {off : Int} {tgt : Nat} (hd : decode μ.2.1 pc = .ok (.ifCond .gt off, 3)) (ht : (pc : Int) + off = (tgt : Int)) (kt : 0 < x → xa_X l D H0 μ R Z k n h sz tgt ls st) (kf : ¬ 0 < x → xa_X l D H0 μ R Z k n h sz (pc + 3) ls st) : xa_X l D H0 μ R Z k n h sz pc ls (.int x :: st) := by
  intro p e s m args below meth c H locs la C hP hL hl
  exact lv_if_gt C.1 C.2.1 hd ht (fun q => kt q p e s m args below meth c H locs la C hP hL hl) (fun q => kf q p e s m args below meth c H locs la C hP hL hl)
theorem xa_icmp_gt {x y : Int32} {off : Int} {tgt : Nat} (hd : decode μ.2.1 pc = .ok (.if_icmp .gt off, 3)) (ht : (pc : Int) + off = (tgt : Int)) (kt : y < x → xa_X l D H0 μ R Z k n h sz tgt ls st) (kf : ¬ y < x → xa_X l D H0 μ R Z k n h sz (pc + 3) ls st) : xa_X l D H0 μ R Z k n h sz pc ls (.int y :: .int x :: st) := by
  intro p e s m args below meth c H locs la C hP hL hl
  exact lv_icmp_gt C.1 C.2.1 hd ht (fun q => kt q p e s m args below meth c H locs la C hP hL hl) (fun q => kf q p e s m args below meth c H locs la C hP hL hl)
theorem xa_if_le {x : Int32} {off : Int} {tgt : Nat} (hd : decode μ.2.1 pc = .ok (.ifCond .le off, 3)) (ht : (pc : Int) + off = (tgt : Int)) (kt : x ≤ 0 → xa_X l D H0 μ R Z k n h sz tgt ls st) (kf : ¬ x ≤ 0 → xa_X l D H0 μ R Z k n h sz (pc + 3) ls st) : xa_X l D H0 μ R Z k n h sz pc ls (.int x :: st) := by
  intro p e s m args below meth c H locs la C hP hL hl
  exact lv_if_le C.1 C.2.1 hd ht (fun q => kt q p e s m args below meth c H locs la C hP hL hl) (fun q => kf q p e s m args below meth c H locs la C hP hL hl)
theorem xa_icmp_le {x y : Int32} {off : Int} {tgt : Nat} (hd : decode μ.2.1 pc = .ok (.if_icmp .le off, 3)) (ht : (pc : Int) + off = (tgt : Int)) (kt : x ≤ y → xa_X l D H0 μ R Z k n h sz tgt ls st) (kf : ¬ x ≤ y → xa_X l D H0 μ R Z k n h sz (pc + 3) ls st) : xa_X l D H0 μ R Z k n h sz pc ls (.int y :: .int x :: st) := by
  intro p e s m args below meth c H locs la C hP hL hl
  exact lv_icmp_le C.1 C.2.1 hd ht (fun q => kt q p e s m args below meth c H locs la C hP hL hl) (fun q => kf q p e s m args below meth c H locs la C hP hL hl)
theorem xa_goto {off : Int} {tgt : Nat} (hd : decode μ.2.1 pc = .ok (.goto off, 3)) (ht : (pc : Int) + off = (tgt : Int)) (kk : xa_X l D H0 μ R Z k n h sz tgt ls st) : xa_X l D H0 μ R Z k n h sz pc ls st := by
  intro p e s m args below meth c H locs la C hP hL hl
  exact lv_goto C.1 C.2.1 hd ht (kk p e s m args below meth c H locs la C hP hL hl)
theorem xa_ifnonnull {a : Nat} {off : Int} {tgt : Nat} (hd : decode μ.2.1 pc = .ok (.ifnonnull off, 3)) (ht : (pc : Int) + off = (tgt : Int)) (kk : xa_X l D H0 μ R Z k n h sz tgt ls st) : xa_X l D H0 μ R Z k n h sz pc ls (.ref a :: st) := by
  intro p e s m args below meth c H locs la C hP hL hl
  exact lv_ifnonnull C.1 C.2.1 hd ht (kk p e s m args below meth c H locs la C hP hL hl)
theorem xa_ifnull {a : Nat} {off : Int} (hd : decode μ.2.1 pc = .ok (.ifnull off, 3)) (kk : xa_X l D H0 μ R Z k n h sz (pc + 3) ls st) : xa_X l D H0 μ R Z k n h sz pc ls (.ref a :: st) := by
  intro p e s m args below meth c H locs la C hP hL hl
  exact lv_ifnull C.1 C.2.1 hd (kk p e s m args below meth c H locs la C hP hL hl)
theorem xa_ifnullN {off : Int} {tgt : Nat} (hd : decode μ.2.1 pc = .ok (.ifnull off, 3)) (ht : (pc : Int) + off = (tgt : Int)) (kk : xa_X l D H0 μ R Z k n h sz tgt ls st) : xa_X l D H0 μ R Z k n h sz pc ls (.null :: st) := by
  intro p e s m args below meth c H locs la C hP hL hl
  exact lv_ifnullN C.1 C.2.1 hd ht (kk p e s m args below meth c H locs la C hP hL hl)
theorem xa_ifnonnullN {off : Int} (hd : decode μ.2.1 pc = .ok (.ifnonnull off, 3)) (kk : xa_X l D H0 μ R Z k n h sz (pc + 3) ls st) : xa_X l D H0 μ R Z k n h sz pc ls (.null :: st) := by
  intro p e s m args below meth c H locs la C hP hL hl
  exact lv_ifnonnullN C.1 C.2.1 hd (kk p e s m args below meth c H locs la C hP hL hl)
theorem xa_ifnullQ {r : Option Nat} {off : Int} {tgt : Nat} (hd : decode μ.2.1 pc = .ok (.ifnull off, 3)) (ht : (pc : Int) + off = (tgt : Int)) (kt : r = none → xa_X l D H0 μ R Z k n h sz tgt ls st) (kf : ∀ a, r = some a → xa_X l D H0 μ R Z k n h sz (pc + 3) ls st) : xa_X l D H0 μ R Z k n h sz pc ls (va_rf r :: st) := by
  cases r with
  | none => exact xa_ifnullN hd ht (kt rfl)
  | some a => exact xa_ifnull hd (kf a rfl)
theorem xa_ifnonnullQ {r : Option Nat} {off : Int} {tgt : Nat} (hd : decode μ.2.1 pc = .ok (.ifnonnull off, 3)) (ht : (pc : Int) + off = (tgt : Int)) (kt : ∀ a, r = some a → xa_X l D H0 μ R Z k n h sz tgt ls st) (kf : r = none → xa_X l D H0 μ R Z k n h sz (pc + 3) ls st) : xa_X l D H0 μ R Z k n h sz pc ls (va_rf r :: st) := by
  cases r with
  | none => exact xa_ifnonnullN hd (kf rfl)
  | some a => exact xa_ifnonnull hd ht (kt a rfl)
theorem xa_tableOut {dflt lo hi : Int} {offs : Array Int} {len : Nat} {x : Int32} {tgt : Nat} (hd : decode μ.2.1 pc = .ok (.tableswitch dflt lo hi offs, len)) (hx : x.toInt < lo ∨ hi < x.toInt) (ht : (pc : Int) + dflt = (tgt : Int)) (kk : xa_X l D H0 μ R Z k n h sz tgt ls st) : xa_X l D H0 μ R Z k n h sz pc ls (.int x :: st) := by
  intro p e s m args below meth c H locs la C hP hL hl
  exact lv_tableOut C.1 C.2.1 hd hx ht (kk p e s m args below meth c H locs la C hP hL hl)
theorem xa_tableIn {dflt lo hi : Int} {offs : Array Int} {len : Nat} {x : Int32} {off : Int} {tgt : Nat} (hd : decode μ.2.1 pc = .ok (.tableswitch dflt lo hi offs, len)) (h1 : ¬ x.toInt < lo) (h2 : ¬ hi < x.toInt) (ho : offs[(x.toInt - lo).toNat]? = some off) (ht : (pc : Int) + off = (tgt : Int)) (kk : xa_X l D H0 μ R Z k n h sz tgt ls st) : xa_X l D H0 μ R Z k n h sz pc ls (.int x :: st) := by
  intro p e s m args below meth c H locs la C hP hL hl
  exact lv_tableIn C.1 C.2.1 hd h1 h2 ho ht (kk p e s m args below meth c H locs la C hP hL hl)
theorem xa_ldc {q : Nat} {v : Int32} (hw : Cond.constant μ.1.cls q v ∈ xa_ws) (hd : decode μ.2.1 pc = .ok (.ldc q, 2)) (kk : xa_X l D H0 μ R Z k n h sz (pc + 2) ls (.int v :: st)) : xa_X l D H0 μ R Z k n h sz pc ls st := by
  intro p e s m args below meth c H locs la C hP hL hl
  exact lv_ldc C.1 C.2.1 C.2.2.2.1 (C.2.2.2.2.1 _ hw) hd (kk p e s m args below meth c H locs la C hP hL hl)
theorem xa_ldc2 {q : Nat} {v : Int64} (hw : Cond.constantLong μ.1.cls q v ∈ xa_ws) (hd : decode μ.2.1 pc = .ok (.ldc2_w q, 3)) (kk : xa_X l D H0 μ R Z k n h sz (pc + 3) ls (.long v :: st)) : xa_X l D H0 μ R Z k n h sz pc ls st := by
  intro p e s m args below meth c H locs la C hP hL hl
  exact lv_ldc2 C.1 C.2.1 C.2.2.2.1 (C.2.2.2.2.1 _ hw) hd (kk p e s m args below meth c H locs la C hP hL hl)
theorem xa_iaddN {a b : Nat} (hd : decode μ.2.1 pc = .ok (.iadd, 1))  (kk : xa_X l D H0 μ R Z k n h sz (pc + 1) ls (.int (nI (a + b)) :: st)) : xa_X l D H0 μ R Z k n h sz pc ls (.int (nI b) :: .int (nI a) :: st) := xa_iadd hd (by rw [nI_add]; exact kk)
theorem xa_imulN {a b : Nat} (hd : decode μ.2.1 pc = .ok (.imul, 1))  (kk : xa_X l D H0 μ R Z k n h sz (pc + 1) ls (.int (nI (a * b)) :: st)) : xa_X l D H0 μ R Z k n h sz pc ls (.int (nI b) :: .int (nI a) :: st) := xa_imul hd (by rw [pk_mul]; exact kk)
theorem xa_isubN {a b : Nat} (hd : decode μ.2.1 pc = .ok (.isub, 1)) (hle : b ≤ a) (kk : xa_X l D H0 μ R Z k n h sz (pc + 1) ls (.int (nI (a - b)) :: st)) : xa_X l D H0 μ R Z k n h sz pc ls (.int (nI b) :: .int (nI a) :: st) := xa_isub hd (by rw [pk_sub hle]; exact kk)
theorem xa_idivN {a b : Nat} (hd : decode μ.2.1 pc = .ok (.idiv, 1)) (ha : a < 2 ^ 31) (h0 : 0 < b) (hb : b < 2 ^ 31) (kk : xa_X l D H0 μ R Z k n h sz (pc + 1) ls (.int (nI (a / b)) :: st)) : xa_X l D H0 μ R Z k n h sz pc ls (.int (nI b) :: .int (nI a) :: st) := xa_idiv hd (nI_ne0 h0 hb) (by rw [pk_div ha h0 hb]; exact kk)
theorem xa_iremN {a b : Nat} (hd : decode μ.2.1 pc = .ok (.irem, 1)) (ha : a < 2 ^ 31) (h0 : 0 < b) (hb : b < 2 ^ 31) (kk : xa_X l D H0 μ R Z k n h sz (pc + 1) ls (.int (nI (a % b)) :: st)) : xa_X l D H0 μ R Z k n h sz pc ls (.int (nI b) :: .int (nI a) :: st) := xa_irem hd (nI_ne0 h0 hb) (by rw [pk_rem ha h0 hb]; exact kk)
theorem xa_iincN {q a : Nat} (hd : decode μ.2.1 pc = .ok (.iinc q 1, 3)) (hx : xa_lk ls q = some (.int (nI a))) (hn : Nat.blt q μ.2.2.1 = true) (hok : xa_okb q ls = true) (kk : xa_X l D H0 μ R Z k n h sz (pc + 3) (xa_st q (.int (nI (a + 1))) ls) st) : xa_X l D H0 μ R Z k n h sz pc ls st := xa_iinc hd hx (show nI a + Int32.ofInt 1 = nI (a + 1) from nI_add a 1) hn hok kk
theorem xa_icmp_eqN {a b : Nat} {off : Int} {tgt : Nat} (hd : decode μ.2.1 pc = .ok (.if_icmp .eq off, 3)) (ht : (pc : Int) + off = (tgt : Int)) (ha : a < 2 ^ 31) (hb : b < 2 ^ 31) (kt : a = b → xa_X l D H0 μ R Z k n h sz tgt ls st) (kf : a ≠ b → xa_X l D H0 μ R Z k n h sz (pc + 3) ls st) : xa_X l D H0 μ R Z k n h sz pc ls (.int (nI b) :: .int (nI a) :: st) := xa_icmp_eq hd ht (fun q => kt ((nI_eq ha hb).mp q)) (fun q => kf (fun z => q ((nI_eq ha hb).mpr z)))
theorem xa_icmp_neN {a b : Nat} {off : Int} {tgt : Nat} (hd : decode μ.2.1 pc = .ok (.if_icmp .ne off, 3)) (ht : (pc : Int) + off = (tgt : Int)) (ha : a < 2 ^ 31) (hb : b < 2 ^ 31) (kt : a ≠ b → xa_X l D H0 μ R Z k n h sz tgt ls st) (kf : a = b → xa_X l D H0 μ R Z k n h sz (pc + 3) ls st) : xa_X l D H0 μ R Z k n h sz pc ls (.int (nI b) :: .int (nI a) :: st) := xa_icmp_ne hd ht (fun q => kt (fun z => q ((nI_eq ha hb).mpr z))) (fun q => kf ((nI_eq ha hb).mp q))
theorem xa_icmp_ltN {a b : Nat} {off : Int} {tgt : Nat} (hd : decode μ.2.1 pc = .ok (.if_icmp .lt off, 3)) (ht : (pc : Int) + off = (tgt : Int)) (ha : a < 2 ^ 31) (hb : b < 2 ^ 31) (kt : a < b → xa_X l D H0 μ R Z k n h sz tgt ls st) (kf : b ≤ a → xa_X l D H0 μ R Z k n h sz (pc + 3) ls st) : xa_X l D H0 μ R Z k n h sz pc ls (.int (nI b) :: .int (nI a) :: st) := xa_icmp_lt hd ht (fun q => kt ((nI_ltI ha hb).mp q)) (fun q => kf (Nat.le_of_not_lt fun z => q ((nI_ltI ha hb).mpr z)))
theorem xa_icmp_geN {a b : Nat} {off : Int} {tgt : Nat} (hd : decode μ.2.1 pc = .ok (.if_icmp .ge off, 3)) (ht : (pc : Int) + off = (tgt : Int)) (ha : a < 2 ^ 31) (hb : b < 2 ^ 31) (kt : b ≤ a → xa_X l D H0 μ R Z k n h sz tgt ls st) (kf : a < b → xa_X l D H0 μ R Z k n h sz (pc + 3) ls st) : xa_X l D H0 μ R Z k n h sz pc ls (.int (nI b) :: .int (nI a) :: st) := xa_icmp_ge hd ht (fun q => kt ((nI_leI hb ha).mp q)) (fun q => kf (Nat.lt_of_not_le fun z => q ((nI_leI hb ha).mpr z)))
theorem xa_icmp_gtN {a b : Nat} {off : Int} {tgt : Nat} (hd : decode μ.2.1 pc = .ok (.if_icmp .gt off, 3)) (ht : (pc : Int) + off = (tgt : Int)) (ha : a < 2 ^ 31) (hb : b < 2 ^ 31) (kt : b < a → xa_X l D H0 μ R Z k n h sz tgt ls st) (kf : a ≤ b → xa_X l D H0 μ R Z k n h sz (pc + 3) ls st) : xa_X l D H0 μ R Z k n h sz pc ls (.int (nI b) :: .int (nI a) :: st) := xa_icmp_gt hd ht (fun q => kt ((nI_ltI hb ha).mp q)) (fun q => kf (Nat.le_of_not_lt fun z => q ((nI_ltI hb ha).mpr z)))
theorem xa_icmp_leN {a b : Nat} {off : Int} {tgt : Nat} (hd : decode μ.2.1 pc = .ok (.if_icmp .le off, 3)) (ht : (pc : Int) + off = (tgt : Int)) (ha : a < 2 ^ 31) (hb : b < 2 ^ 31) (kt : a ≤ b → xa_X l D H0 μ R Z k n h sz tgt ls st) (kf : b < a → xa_X l D H0 μ R Z k n h sz (pc + 3) ls st) : xa_X l D H0 μ R Z k n h sz pc ls (.int (nI b) :: .int (nI a) :: st) := xa_icmp_le hd ht (fun q => kt ((nI_leI ha hb).mp q)) (fun q => kf (Nat.lt_of_not_le fun z => q ((nI_leI ha hb).mpr z)))
end XA
end
section
/-! Fields, arrays and new cells over xa_X. The array kinds' numbers: D.1 100 int, 101 long, 102 boolean, 103 Position, 104 byte. -/
def xa_Kd (ci : Nat) (q : vw_C) : Prop := xa_cl[ci]? = some q ∧ (∀ w ∈ u_ws q.1 q.2.1 q.2.2, w ∈ xa_ws) ∧ (∃ ty0 : Nat → FieldType, ∀ k, k < q.2.2 → parseFieldDescriptor (q.2.1 k).2.2.1 = some (ty0 k)) ∧ ∀ a, a < q.2.2 → ∀ b, b < q.2.2 → a ≠ b → (q.2.1 a).2.1 ≠ (q.2.1 b).2.1
def xa_FL (own : String) (idx ci kf : Nat) (fin : Bool) (ty : FieldType) : Prop := ∃ q : vw_C, xa_Kd ci q ∧ kf < q.2.2 ∧ Cond.fieldLink own idx (q.2.1 kf).1 (q.2.1 kf).2.1 (q.2.1 kf).2.2.1 ∈ xa_ws ∧ (q.2.1 kf).2.2.2 = fin ∧ parseFieldDescriptor (q.2.1 kf).2.2.1 = some ty
theorem xa_locs {H0 : Heap} {locs : List Loc} {a i : Nat} (hL : ∀ q ∈ locs, H0.size ≤ q.base) (ha : H0.size ≤ a) : ∀ q ∈ locs ++ [(⟨a, i⟩ : Loc)], H0.size ≤ q.base := by
  intro q hq
  rcases List.mem_append.mp hq with hq | hq
  · exact hL q hq
  · rw [List.mem_singleton.mp hq]
    exact ha
theorem xa_up_i (cA : ClassId) (N j : Nat) (f : Nat → Int32) (x : Int32) : (vp_cell cA (N, .inl f)).setSlot j (.int x) = vp_cell cA (N, .inl (upd f j x)) := by
  rw [vp_cell_i, vp_cell_i, arrV_store]
  congr 1
  funext q
  by_cases hq : q = j
  · subst hq
    simp [updV, upd]
  · simp [updV, upd, hq]
theorem xa_up_l (cA : ClassId) (N j : Nat) (f : Nat → Int64) (x : Int64) : (vp_cell cA (N, .inr (.inl f))).setSlot j (.long x) = vp_cell cA (N, .inr (.inl (vp_updL f j x))) := by
  rw [vp_cell_l, vp_cell_l, arrV_store]
  congr 1
  funext q
  by_cases hq : q = j
  · subst hq
    simp [updV, vp_updL]
  · simp [updV, vp_updL, hq]
theorem xa_up_q (cA : ClassId) (N j : Nat) (f : Nat → Option Nat) (x : Option Nat) : (vp_cell cA (N, .inr (.inr (.inr (.inr f))))).setSlot j (va_rf x) = vp_cell cA (N, .inr (.inr (.inr (.inr (va_up f j x))))) := by
  rw [vp_cell_q, vp_cell_q, arrV_store]
  congr 1
  funext q
  by_cases hq : q = j
  · subst hq
    simp [updV, va_up]
  · simp [updV, va_up, hq]
section XB
variable {l : Launch} {D : va_G} {H0 : Heap} {μ : xa_Mu} {R : Room} {Z : xa_Z} {k n : Nat} {h : xa_H} {sz pc : Nat} {ls : List (Nat × Value)} {st : List Value}
theorem xa_getf {idx ci kf : Nat} {fin : Bool} {ty : FieldType} {a : Nat} {fs : List Value} {v : Value} (hf : xa_FL μ.1.cls idx ci kf fin ty) (hd : decode μ.2.1 pc = .ok (.getfield idx, 3)) (ha : h a = some (.inr (ci, fs))) (hv : fs[kf]? = some v) (kk : xa_X l D H0 μ R Z k n h sz (pc + 3) ls (v :: st)) : xa_X l D H0 μ R Z k n h sz pc ls (.ref a :: st) := by
  intro p e s m args below meth c H locs la C hP hL hl
  obtain ⟨⟨Cn, T, N⟩, ⟨hc, hin, -, -⟩, hk, hlink, -, -⟩ := hf
  exact va_get C.1 C.2.1 (Ts := xa_ws) C.2.2.2.2.1 hin C.2.2.2.1 C.2.2.2.2.2.1 (hP.one ha) 0 rfl hc kf hk (C.2.2.2.2.1 _ hlink) (fun x h9 => h9) hv hd (kk p e s m args below meth c H locs la C hP hL hl)
theorem xa_putf {idx ci kf : Nat} {ty : FieldType} {a : Nat} {fs : List Value} {v : Value} (hf : xa_FL μ.1.cls idx ci kf false ty) (hd : decode μ.2.1 pc = .ok (.putfield idx, 3)) (ha : h a = some (.inr (ci, fs))) (hlen : kf < fs.length) (hn : narrow ty v = v) (hfit : fits ty v = true) (kk : xa_X l D H0 μ R Z k n (xa_u h a (.inr (ci, fs.set kf v))) sz (pc + 3) ls st) : xa_X l D H0 μ R Z k n h sz pc ls (v :: .ref a :: st) := by
  intro p e s m args below meth c H locs la C hP hL hl
  obtain ⟨⟨Cn, T, N⟩, ⟨hc, hin, ⟨ty0, hty0⟩, hnm⟩, hk, hlink, hfin, hty⟩ := hf
  have hts := C.2.2.2.2.1
  have hK := C.2.2.2.2.2.1
  have hap := va_apart (own := μ.1.cls) (D := D) (cl := xa_cl) (tys := xa_tys D) hts hin ty0 hty0 hnm hK hc
  obtain ⟨r, h1, cell, q1, q2, q3, q4⟩ := (hP.2.2.2 a _ ha).2
  have hr : r = (Cn, T, N) := Option.some.inj (h1.symm.trans hc)
  subst hr
  obtain ⟨hS, hfc, kC, hkC, hkind⟩ := hK.1 ci _ hc
  obtain ⟨cf, kf', fi, f, hi, hsl⟩ := hS kf hk
  have hlay := hts _ (hin _ (u_in_lay hk))
  unfold u_lay at hlay
  rw [if_neg (by rw [hfin]; decide)] at hlay
  have hst := (u_facts hfc hkC (u_lays hts hin hk) hi).1
  have h6 := u_store hfc hkC hkind hlay hi hty hn hfit
  refine W.putK C.1 C.2.1 (f := f) ⟨C.2.2.2.1, hts _ hlink, ⟨_, _, _, hi⟩, hst⟩ (by rw [q2]; exact h6) q1 q3 (by rw [hsl]; exact k2_hasslot (q4 kf hk)) rfl rfl hd fun H' e1 e2 e3 => ?_
  rw [hsl] at e1 ⊢
  exact kk p e s m args below meth c H' _ la C (hP.set ha ⟨_, hc, t_OB.to (V := updV (vp_V fs) kf v) ⟨_, e1, q2, q3, t_set q4 hap hk v⟩ (fun j _ => vp_updV_set hlen v j)⟩ e2 e3) (xa_locs hL (hP.2.2.2 a _ ha).1) hl
theorem xa_putF {idx ci kf : Nat} {ty : FieldType} {a : Nat} {fs : List Value} {v : Value} (hf : xa_FL μ.1.cls idx ci kf true ty) (hi0 : μ.1.name = "<init>") (hdecl : ∀ q, xa_cl[ci]? = some q → (q.2.1 kf).1 = μ.1.cls) (hd : decode μ.2.1 pc = .ok (.putfield idx, 3)) (ha : h a = some (.inr (ci, fs))) (hlen : kf < fs.length) (hn : narrow ty v = v) (hfit : fits ty v = true) (kk : xa_X l D H0 μ R Z k n (xa_u h a (.inr (ci, fs.set kf v))) sz (pc + 3) ls st) : xa_X l D H0 μ R Z k n h sz pc ls (v :: .ref a :: st) := by
  intro p e s m args below meth c H locs la C hP hL hl
  obtain ⟨⟨Cn, T, N⟩, ⟨hc, hin, ⟨ty0, hty0⟩, hnm⟩, hk, hlink, hfin, hty⟩ := hf
  have hts := C.2.2.2.2.1
  have hK := C.2.2.2.2.2.1
  have hap := va_apart (own := μ.1.cls) (D := D) (cl := xa_cl) (tys := xa_tys D) hts hin ty0 hty0 hnm hK hc
  obtain ⟨r, h1, cell, q1, q2, q3, q4⟩ := (hP.2.2.2 a _ ha).2
  have hr : r = (Cn, T, N) := Option.some.inj (h1.symm.trans hc)
  subst hr
  obtain ⟨hS, hfc, kC, hkC, hkind⟩ := hK.1 ci _ hc
  obtain ⟨cf, kf', fi, f, hi, hsl⟩ := hS kf hk
  have hlay := hts _ (hin _ (u_in_lay hk))
  unfold u_lay at hlay
  rw [if_pos hfin] at hlay
  have hst := (u_facts hfc hkC (u_lays hts hin hk) hi).1
  have hcf : m.cls = cf := by
    obtain ⟨_, _, c', _, _, _, -, -, hf', -, -, -, hown2, -⟩ := Cond.laysFinal_spec hlay
    have e1 : c' = cf := by have := hi.symm.trans hf'; simp at this; exact this.1.symm
    rw [hdecl _ hc] at hown2
    rw [← e1]; exact Option.some.inj (C.2.2.2.1.symm.trans hown2)
  have h6 := u_fits hfc hkC hkind (Or.inr hlay) hi hty hn hfit
  refine W.putFinK C.1 C.2.1 C.2.2.2.1 (hts _ hlink) hi hst hcf (C.2.2.2.2.2.2.2.2.1.trans hi0) (by rw [q2]; exact h6) q1 q3 (by rw [hsl]; exact k2_hasslot (q4 kf hk)) rfl rfl hd fun H' e1 e2 e3 => ?_
  rw [hsl] at e1 ⊢
  exact kk p e s m args below meth c H' _ la C (hP.set ha ⟨_, hc, t_OB.to (V := updV (vp_V fs) kf v) ⟨_, e1, q2, q3, t_set q4 hap hk v⟩ (fun j _ => vp_updV_set hlen v j)⟩ e2 e3) (xa_locs hL (hP.2.2.2 a _ ha).1) hl
theorem xa_iald {a N j : Nat} {f : Nat → Int32} {i : Int32} (hd : decode μ.2.1 pc = .ok (.iaload, 1)) (ha : h a = some (.inl (D.1 100, N, .inl f))) (hj : j < N) (hi : i = nI j) (hN : N < 2 ^ 31) (kk : xa_X l D H0 μ R Z k n h sz (pc + 1) ls (.int (f j) :: st)) : xa_X l D H0 μ R Z k n h sz pc ls (.int i :: .ref a :: st) := by
  intro p e s m args below meth c H locs la C hP hL hl
  subst hi
  refine va_iald C.1 C.2.1 C.2.2.2.2.2.1 (hP.one ha) 0 0 rfl rfl (vp_in_nI hj hN) hd ?_
  rw [nI_clamp (by omega)]
  exact (kk p e s m args below meth c H locs la C hP hL hl)
theorem xa_lald {a N j : Nat} {f : Nat → Int64} {i : Int32} (hd : decode μ.2.1 pc = .ok (.laload, 1)) (ha : h a = some (.inl (D.1 101, N, .inr (.inl f)))) (hj : j < N) (hi : i = nI j) (hN : N < 2 ^ 31) (kk : xa_X l D H0 μ R Z k n h sz (pc + 1) ls (.long (f j) :: st)) : xa_X l D H0 μ R Z k n h sz pc ls (.int i :: .ref a :: st) := by
  intro p e s m args below meth c H locs la C hP hL hl
  subst hi
  refine va_lald C.1 C.2.1 C.2.2.2.2.2.1 (hP.one ha) 0 1 rfl rfl (vp_in_nI hj hN) hd ?_
  rw [nI_clamp (by omega)]
  exact (kk p e s m args below meth c H locs la C hP hL hl)
theorem xa_zald {a N j : Nat} {f : Nat → Int32} {i : Int32} (hd : decode μ.2.1 pc = .ok (.baload, 1)) (ha : h a = some (.inl (D.1 102, N, .inl f))) (hj : j < N) (hi : i = nI j) (hN : N < 2 ^ 31) (kk : xa_X l D H0 μ R Z k n h sz (pc + 1) ls (.int (f j) :: st)) : xa_X l D H0 μ R Z k n h sz pc ls (.int i :: .ref a :: st) := by
  intro p e s m args below meth c H locs la C hP hL hl
  subst hi
  refine va_zald C.1 C.2.1 C.2.2.2.2.2.1 (hP.one ha) 0 2 rfl rfl (vp_in_nI hj hN) hd ?_
  rw [nI_clamp (by omega)]
  exact (kk p e s m args below meth c H locs la C hP hL hl)
theorem xa_qald {a N j : Nat} {f : Nat → Option Nat} {i : Int32} (hd : decode μ.2.1 pc = .ok (.aaload, 1)) (ha : h a = some (.inl (D.1 103, N, .inr (.inr (.inr (.inr f)))))) (hj : j < N) (hi : i = nI j) (hN : N < 2 ^ 31) (kk : xa_X l D H0 μ R Z k n h sz (pc + 1) ls (va_rf (f j) :: st)) : xa_X l D H0 μ R Z k n h sz pc ls (.int i :: .ref a :: st) := by
  intro p e s m args below meth c H locs la C hP hL hl
  subst hi
  refine va_aldq C.1 C.2.1 C.2.2.2.2.2.1 (hP.one ha) 0 3 rfl rfl (vp_in_nI hj hN) hd ?_
  rw [nI_clamp (by omega)]
  exact (kk p e s m args below meth c H locs la C hP hL hl)
theorem xa_bald {a N j : Nat} {f : Nat → Int32} {i : Int32} (hd : decode μ.2.1 pc = .ok (.baload, 1)) (ha : h a = some (.inl (D.1 104, N, .inl f))) (hj : j < N) (hi : i = nI j) (hN : N < 2 ^ 31) (kk : xa_X l D H0 μ R Z k n h sz (pc + 1) ls (.int (f j) :: st)) : xa_X l D H0 μ R Z k n h sz pc ls (.int i :: .ref a :: st) := by
  intro p e s m args below meth c H locs la C hP hL hl
  subst hi
  refine va_bald C.1 C.2.1 C.2.2.2.2.2.1 (hP.one ha) 0 4 rfl rfl (vp_in_nI hj hN) hd ?_
  rw [nI_clamp (by omega)]
  exact (kk p e s m args below meth c H locs la C hP hL hl)
theorem xa_iast {a N j : Nat} {f : Nat → Int32} {i : Int32} {x : Int32} (hd : decode μ.2.1 pc = .ok (.iastore, 1)) (ha : h a = some (.inl (D.1 100, N, .inl f))) (hj : j < N) (hi : i = nI j) (hN : N < 2 ^ 31) (kk : xa_X l D H0 μ R Z k n (xa_u h a (.inl (D.1 100, N, .inl (upd f j x)))) sz (pc + 1) ls st) : xa_X l D H0 μ R Z k n h sz pc ls (.int x :: .int i :: .ref a :: st) := by
  intro p e s m args below meth c H locs la C hP hL hl
  subst hi
  refine W.iast C.1 C.2.1 (hP.2.2.2 a _ ha).2 ((C.2.2.2.2.2.1.2 0 _ rfl).1 N (fun j => .int (f j))) (fun q => by cases q) (by show ¬ (nI j < 0 ∨ (arrV _ _ _).slots.size ≤ _); rw [arrV_size]; exact vp_in_nI hj hN) rfl rfl hd fun H1 e1 z oq => ?_
  rw [nI_clamp (show j < 2 ^ 31 by omega)] at e1 ⊢
  refine kk p e s m args below meth c H1 _ la C (hP.set ha ?_ z oq) (xa_locs hL (hP.2.2.2 a _ ha).1) hl
  show H1[a]? = some (vp_cell _ _)
  rw [e1]
  exact congrArg some (xa_up_i _ _ _ _ _)
theorem xa_last {a N j : Nat} {f : Nat → Int64} {i : Int32} {x : Int64} (hd : decode μ.2.1 pc = .ok (.lastore, 1)) (ha : h a = some (.inl (D.1 101, N, .inr (.inl f)))) (hj : j < N) (hi : i = nI j) (hN : N < 2 ^ 31) (kk : xa_X l D H0 μ R Z k n (xa_u h a (.inl (D.1 101, N, .inr (.inl (vp_updL f j x))))) sz (pc + 1) ls st) : xa_X l D H0 μ R Z k n h sz pc ls (.long x :: .int i :: .ref a :: st) := by
  intro p e s m args below meth c H locs la C hP hL hl
  subst hi
  refine W.last C.1 C.2.1 (hP.2.2.2 a _ ha).2 ((C.2.2.2.2.2.1.2 1 _ rfl).1 N (fun j => .long (f j))) (fun q => by cases q) (by show ¬ (nI j < 0 ∨ (arrV _ _ _).slots.size ≤ _); rw [arrV_size]; exact vp_in_nI hj hN) rfl rfl hd fun H1 e1 z oq => ?_
  rw [nI_clamp (show j < 2 ^ 31 by omega)] at e1 ⊢
  refine kk p e s m args below meth c H1 _ la C (hP.set ha ?_ z oq) (xa_locs hL (hP.2.2.2 a _ ha).1) hl
  show H1[a]? = some (vp_cell _ _)
  rw [e1]
  exact congrArg some (xa_up_l _ _ _ _ _)
theorem xa_zast {a N j : Nat} {f : Nat → Int32} {i : Int32} {x : Int32} (hd : decode μ.2.1 pc = .ok (.bastore, 1)) (ha : h a = some (.inl (D.1 102, N, .inl f))) (hj : j < N) (hi : i = nI j) (hN : N < 2 ^ 31) (kk : xa_X l D H0 μ R Z k n (xa_u h a (.inl (D.1 102, N, .inl (upd f j (vp_nar .boolean x))))) sz (pc + 1) ls st) : xa_X l D H0 μ R Z k n h sz pc ls (.int x :: .int i :: .ref a :: st) := by
  intro p e s m args below meth c H locs la C hP hL hl
  subst hi
  refine W.zast C.1 C.2.1 (hP.2.2.2 a _ ha).2 ((C.2.2.2.2.2.1.2 2 _ rfl).1 N (fun j => .int (f j))) (fun q => by cases q) (by show ¬ (nI j < 0 ∨ (arrV _ _ _).slots.size ≤ _); rw [arrV_size]; exact vp_in_nI hj hN) rfl rfl hd fun H1 e1 z oq => ?_
  rw [nI_clamp (show j < 2 ^ 31 by omega)] at e1 ⊢
  refine kk p e s m args below meth c H1 _ la C (hP.set ha ?_ z oq) (xa_locs hL (hP.2.2.2 a _ ha).1) hl
  show H1[a]? = some (vp_cell _ _)
  rw [e1]
  exact congrArg some (xa_up_i _ _ _ _ _)
theorem xa_bast {a N j : Nat} {f : Nat → Int32} {i : Int32} {x : Int32} (hd : decode μ.2.1 pc = .ok (.bastore, 1)) (ha : h a = some (.inl (D.1 104, N, .inl f))) (hj : j < N) (hi : i = nI j) (hN : N < 2 ^ 31) (kk : xa_X l D H0 μ R Z k n (xa_u h a (.inl (D.1 104, N, .inl (upd f j (vp_nar .byte x))))) sz (pc + 1) ls st) : xa_X l D H0 μ R Z k n h sz pc ls (.int x :: .int i :: .ref a :: st) := by
  intro p e s m args below meth c H locs la C hP hL hl
  subst hi
  refine W.bast C.1 C.2.1 (hP.2.2.2 a _ ha).2 ((C.2.2.2.2.2.1.2 4 _ rfl).1 N (fun j => .int (f j))) (fun q => by cases q) (by show ¬ (nI j < 0 ∨ (arrV _ _ _).slots.size ≤ _); rw [arrV_size]; exact vp_in_nI hj hN) rfl rfl hd fun H1 e1 z oq => ?_
  rw [nI_clamp (show j < 2 ^ 31 by omega)] at e1 ⊢
  refine kk p e s m args below meth c H1 _ la C (hP.set ha ?_ z oq) (xa_locs hL (hP.2.2.2 a _ ha).1) hl
  show H1[a]? = some (vp_cell _ _)
  rw [e1]
  exact congrArg some (xa_up_i _ _ _ _ _)
theorem xa_qastN {a N j : Nat} {f : Nat → Option Nat} {i : Int32} (hd : decode μ.2.1 pc = .ok (.aastore, 1)) (ha : h a = some (.inl (D.1 103, N, .inr (.inr (.inr (.inr f)))))) (hj : j < N) (hi : i = nI j) (hN : N < 2 ^ 31) (kk : xa_X l D H0 μ R Z k n (xa_u h a (.inl (D.1 103, N, .inr (.inr (.inr (.inr (va_up f j none))))))) sz (pc + 1) ls st) : xa_X l D H0 μ R Z k n h sz pc ls (.null :: .int i :: .ref a :: st) := by
  intro p e s m args below meth c H locs la C hP hL hl
  subst hi
  refine va_WaastN (C := xa_pos) C.1 C.2.1 (hP.2.2.2 a _ ha).2 ((C.2.2.2.2.2.1.2 3 _ rfl).1 N (fun j => va_rf (f j))) (fun q => by cases q) (by show ¬ (nI j < 0 ∨ (arrV _ _ _).slots.size ≤ _); rw [arrV_size]; exact vp_in_nI hj hN) rfl rfl hd fun H1 e1 z oq => ?_
  rw [nI_clamp (show j < 2 ^ 31 by omega)] at e1 ⊢
  refine kk p e s m args below meth c H1 _ la C (hP.set ha ?_ z oq) (xa_locs hL (hP.2.2.2 a _ ha).1) hl
  show H1[a]? = some (vp_cell _ _)
  rw [e1]
  exact congrArg some (xa_up_q _ _ _ _ none)
theorem xa_qast {a N j v : Nat} {f : Nat → Option Nat} {vs : List Value} {i : Int32} (hd : decode μ.2.1 pc = .ok (.aastore, 1)) (ha : h a = some (.inl (D.1 103, N, .inr (.inr (.inr (.inr f)))))) (hv : h v = some (.inr (xa_posN, vs))) (hj : j < N) (hi : i = nI j) (hN : N < 2 ^ 31) (kk : xa_X l D H0 μ R Z k n (xa_u h a (.inl (D.1 103, N, .inr (.inr (.inr (.inr (va_up f j (some v)))))))) sz (pc + 1) ls st) : xa_X l D H0 μ R Z k n h sz pc ls (.ref v :: .int i :: .ref a :: st) := by
  intro p e s m args below meth c H locs la C hP hL hl
  subst hi
  obtain ⟨r', hr', cellV, g1, g2, g3, -⟩ := (hP.2.2.2 v _ hv).2
  have hcls := (C.2.2.2.2.2.1.1 xa_posN _ xa_posC).2
  obtain ⟨kA, comp, k1, k2, k3, -⟩ := (C.2.2.2.2.2.1.2 3 _ rfl).2
  have hcomp : comp = D.1 xa_posN := Option.some.inj (k3.symm.trans hcls.1)
  subst hcomp
  have hcls2 := hcls
  obtain ⟨-, kC, hkC, -⟩ := hcls2
  refine W.aast C.1 C.2.1 (hP.2.2.2 a _ ha).2 (fun q h9 => by cases h9) (fun h9 => by cases h9) k1 k2 rfl hkC ⟨nI_pos (by omega), by show _ < (arrV _ _ _).slots.size; rw [arrV_size, nI_clamp (by omega)]; exact hj⟩ g1 (fun q h9 => by rw [g3] at h9; cases h9) (by rw [g2]; exact hkC) (by rw [g2]; exact va_assign hcls) rfl rfl hd fun H1 e1 z oq => ?_
  rw [nI_clamp (show j < 2 ^ 31 by omega)] at e1 ⊢
  refine kk p e s m args below meth c H1 _ la C (hP.set ha ?_ z oq) (xa_locs hL (hP.2.2.2 a _ ha).1) hl
  show H1[a]? = some (vp_cell _ _)
  rw [e1]
  exact congrArg some (xa_up_q _ _ _ _ (some v))
theorem xa_alen {a t0 : Nat} {x : vp_A} {cA : ClassId} {ty : FieldType} {v : Int32} (t0' : (xa_tys D)[t0]? = some (cA, ty)) (hd : decode μ.2.1 pc = .ok (.arraylength, 1)) (ha : h a = some (.inl (cA, x))) (hv : nI x.1 = v) (kk : xa_X l D H0 μ R Z k n h sz (pc + 1) ls (.int v :: st)) : xa_X l D H0 μ R Z k n h sz pc ls (.ref a :: st) := by
  intro p e s m args below meth c H locs la C hP hL hl
  exact va_alen C.1 C.2.1 C.2.2.2.2.2.1 (hP.one ha) 0 t0 rfl t0' hv hd (kk p e s m args below meth c H locs la C hP hL hl)
def xa_NL (own : String) (idx ci : Nat) (fs : List Value) : Prop := ∃ q : vw_C, xa_Kd ci q ∧ Cond.classLink own idx q.1 ∈ xa_ws ∧ Cond.instantiable q.1 q.2.2 ∈ xa_ws ∧ Cond.initialized q.1 ∈ xa_ws ∧ fs.length = q.2.2 ∧ ∃ ty0 : Nat → FieldType, (∀ k, k < q.2.2 → parseFieldDescriptor (q.2.1 k).2.2.1 = some (ty0 k)) ∧ ∀ j, j < q.2.2 → defaultValue (ty0 j) = vp_V fs j
theorem xa_new {idx ci : Nat} {fs : List Value} (hf : xa_NL μ.1.cls idx ci fs) (hd : decode μ.2.1 pc = .ok (.new idx, 3)) (hk : k + 1 ≤ R.cells) (hs : n + fs.length ≤ R.slots) (kk : xa_X l D H0 μ R Z (k + 1) (n + fs.length) (xa_u h sz (.inr (ci, fs))) (sz + 1) (pc + 3) ls (.ref sz :: st)) : xa_X l D H0 μ R Z k n h sz pc ls st := by
  intro p e s m args below meth c H locs la C hP hL hl
  obtain ⟨⟨Cn, T, N⟩, ⟨hc, hin, -, -⟩, hcl, hinst, hini, hlen, ty0, hty0, hfs⟩ := hf
  have hlen : fs.length = N := hlen
  rw [hlen] at hs kk
  have hts := C.2.2.2.2.1
  have hKn := C.2.2.2.2.2.1.1 ci _ hc
  refine W.newcK C.1 C.2.1 C.2.2.2.1 (hts _ hcl) (hts _ hinst) (hts _ hini) rfl hd hk hs hKn.2.1 hP.1 fun H1 kC hkC e1 z1 o1 => ?_
  exact kk p e s m args below meth c H1 locs la C (hP.push ⟨_, hc, (u_born ty0 hts hin hKn hkC e1 hty0).to hfs⟩ z1 o1) hL hl
theorem xa_newa {at0 : ArrayType} {t0 : Nat} {ty : FieldType} {N : Nat} {i : Int32} {x : vp_A} (hw : Cond.arrayClass ty ∈ xa_ws) (hty : newarray.typeOf at0 = ty) (ht : (xa_tys D)[t0]? = some (D.1 (100 + t0), ty)) (hra : ∀ U : State, ∀ cA : ClassId, va_RA U cA ty → U.vm.findClass ("[" ++ ty.toString) = some cA) (hx : ∀ cA : ClassId, vp_cell cA x = arrV cA N (fun _ => defaultValue ty)) (hd : decode μ.2.1 pc = .ok (.newarray at0, 2)) (hi : i = nI N) (hN : N < 2 ^ 31) (hby : N * componentBytes ty ≤ 536870912) (hk : k + 1 ≤ R.cells) (hs : n + N ≤ R.slots) (kk : xa_X l D H0 μ R Z (k + 1) (n + N) (xa_u h sz (.inl (D.1 (100 + t0), x))) (sz + 1) (pc + 2) ls (.ref sz :: st)) : xa_X l D H0 μ R Z k n h sz pc ls (.int i :: st) := by
  intro p e s m args below meth c H locs la C hP hL hl
  subst hi
  subst hty
  refine va_newaK C.1 C.2.1 (C.2.2.2.2.1 _ hw) rfl hd rfl (nI_pos hN) (nI_clamp hN) hby hk hs hP.1 fun H1 cA e1 z1 o1 _ hNm => ?_
  have hcA : cA = D.1 (100 + t0) := Option.some.inj (hNm.symm.trans (hra s _ (C.2.2.2.2.2.1.2 t0 _ ht).2))
  subst hcA
  refine kk p e s m args below meth c H1 locs la C (hP.push ?_ z1 o1) hL hl
  show H1[sz]? = some (vp_cell _ _)
  rw [hx]
  exact e1
theorem xa_newq {idx : Nat} {N : Nat} {i : Int32} (hcl : Cond.classLink μ.1.cls idx xa_pos ∈ xa_ws) (hov : Cond.arrayOver (.object xa_pos) ∈ xa_ws) (hd : decode μ.2.1 pc = .ok (.anewarray idx, 3)) (hi : i = nI N) (hN : N < 2 ^ 31) (hby : N * 4 ≤ 536870912) (hk : k + 1 ≤ R.cells) (hs : n + N ≤ R.slots) (kk : xa_X l D H0 μ R Z (k + 1) (n + N) (xa_u h sz (.inl (D.1 103, N, .inr (.inr (.inr (.inr (fun _ => none))))))) (sz + 1) (pc + 3) ls (.ref sz :: st)) : xa_X l D H0 μ R Z k n h sz pc ls (.int i :: st) := by
  intro p e s m args below meth c H locs la C hP hL hl
  subst hi
  have hts := C.2.2.2.2.1
  refine W.anew C.1 C.2.1 C.2.2.2.1 (hts _ hcl) (hts _ hov) rfl hd rfl (nI_pos hN) (by rw [nI_clamp hN]; exact hby) hk (by rw [nI_clamp hN]; exact hs) fun cA kA comp f1 f2 f3 f4 => ?_
  rw [nI_clamp hN, hP.1]
  obtain ⟨kA', comp', k1, k2, k3, k4⟩ := (C.2.2.2.2.2.1.2 3 _ rfl).2
  have hcA : cA = D.1 103 := Option.some.inj (f1.symm.trans k4)
  subst hcA
  refine kk p e s m args below meth c _ locs la C (hP.push ?_ (by rw [Array.size_push, hP.1]) (fun q hq => by rw [Array.getElem?_push, if_neg (by rw [hP.1]; omega)])) hL hl
  show (H.push _)[sz]? = some (vp_cell _ _)
  rw [vp_cell_q, ← hP.1, Array.getElem?_push_size, ← arrV_new]
  rfl
end XB
end
section
/-! Contracts over xa_X: xa_M says that a method returns; entry, returns and calls. -/
abbrev xa_rm (fr mc ms lo : Nat) : Room := { frames := fr, cells := mc, slots := ms, locals := lo }
abbrev xa_Qc (D : va_G) (H0 : Heap) (Q : Option Value → xa_H → Nat → Prop) : Array Value → State → Outcome → State → Prop := fun _ _ o t => ∃ (v : Option Value) (h' : xa_H) (sz' : Nat), o = .returned v ∧ Q v h' sz' ∧ xa_P D H0 h' sz' t.heap
def xa_Zr (D : va_G) (H0 : Heap) (mc ms : Nat) (Q : Option Value → xa_H → Nat → Prop) : xa_Z := fun below args s => MQ below (xa_Qc D H0 Q) args s mc ms (fun q => H0.size ≤ q)
abbrev xa_cd (μ : xa_Mu) : Cond := Cond.code μ.1 μ.2.1 μ.2.2.1 μ.2.2.2.1
abbrev xa_pc (D : va_G) (H0 : Heap) (av : List Value) (h : xa_H) (sz : Nat) : Array Value → State → Prop := va_Pc av (fun U => xa_P D H0 h sz U.heap ∧ va_K D xa_cl (xa_tys D) U ∧ xa_N H0 U)
def xa_M (l : Launch) (D : va_G) (H0 : Heap) (μ : xa_Mu) (fr lo mc ms : Nat) (av : List Value) (h : xa_H) (sz : Nat) (Q : Option Value → xa_H → Nat → Prop) : Prop :=
  Met l μ.1 (xa_cd μ :: xa_ws) (xa_rm fr mc ms lo) (xa_pc D H0 av h sz) (xa_Qc D H0 Q) mc ms (fun q => H0.size ≤ q)
theorem xa_enter {l : Launch} {D : va_G} {H0 : Heap} {μ : xa_Mu} {fr lo mc ms : Nat} {av : List Value} {h : xa_H} {sz : Nat} {Q : Option Value → xa_H → Nat → Prop} (hp : plainName μ.1.cls = true) (hh : μ.2.2.2.2 = []) (hfit : Nat.ble (lg_sl av).length μ.2.2.1 = true)
    (kk : xa_X l D H0 μ (xa_rm fr mc ms lo) (xa_Zr D H0 mc ms Q) 0 0 h sz 0 (lv_args 0 av) []) : xa_M l D H0 μ fr lo mc ms av h sz Q := by
  unfold xa_M
  refine Met.ofW (cc := μ.2.1) (maxL := μ.2.2.1) (ret := μ.2.2.2.1) hp rfl ?_
  intro p e s m args below meth c s₁ B hml hv
  obtain ⟨rfl, hP, hK, hN⟩ := hv
  have hts := atoms_spec (ws := xa_cd μ :: xa_ws) B.pre
  have hl := lv_entry av (n := μ.2.2.1) (Nat.le_of_ble_eq_true hfit)
  rw [lg_entry_eq]
  exact kk p e s m _ below meth c s.heap [] _ ⟨B.exec, B.bytes, hml, findClass_of_methodNamed B.named, fun w hw => hts w (List.mem_cons_of_mem _ hw), hK, B.returns, B.notSynchronized, (name_of_methodNamed B.named B.method).1, by rw [hh, show c.exceptionTable = #[] from Array.isEmpty_iff.mp (B.noHandlers (hts _ List.mem_cons_self))]; rfl, hN⟩ hP (fun q hq => by cases hq) hl
theorem xa_blind {D : va_G} {H0 : Heap} {h : xa_H} {sz : Nat} {av : List Value} : FrameBlind (xa_pc D H0 av h sz) := by
  intro a U g mk q
  obtain ⟨q0, qP, qK, qN⟩ := q
  exact ⟨q0, qP, va_K.moved (u := U) (U := U.calling g mk a) (Vm.Alike.refl U.vm) qK, qN.moved (u := U) (U := U.calling g mk a) (Vm.Alike.refl U.vm)⟩
def xa_LB (ν : xa_Mu) (np : Nat) : Prop := xa_cd ν ∈ xa_ws ∧ Cond.initialized ν.1.cls ∈ xa_ws ∧ ν.1.cls ≠ "java/lang/invoke/MethodHandle" ∧ ν.1.cls ≠ "java/lang/invoke/VarHandle" ∧ (parseMethodDescriptor ν.1.desc).map (fun d => d.parameters.length) = some np
theorem xa_pay {ν : xa_Mu} {np : Nat} (hB : xa_LB ν np) {args : Array Value} {s : State} (hts : ∀ w ∈ xa_ws, w.before args s = true) : ∀ w ∈ xa_cd ν :: xa_ws, ∀ (a' : Array Value) (U : State), s.WarmedH U.vm → w.before a' U = true := by
  intro w hw a' U hW
  have h1 : w ∈ xa_ws := by
    rcases List.mem_cons.mp hw with hw | hw
    · rw [hw]; exact hB.1
    · exact hw
  exact xa_keep h1 hW (hts w h1)
theorem xa_callB {R : Room} {s : State} {args : Array Value} {own : String} {idx fr lo mc ms np : Nat} {ν : xa_Mu} (hB : xa_LB ν np) (hts : ∀ w ∈ xa_ws, w.before args s = true) (hl : Cond.methodLink own idx ν.1 ∈ xa_ws) (hR : fr + 1 ≤ R.frames ∧ 8 + (ν.2.2.1 + 11) + lo ≤ R.locals) :
    CallB R s args own idx ν.1 ν.2.1 ν.2.2.1 ν.2.2.2.1 (xa_cd ν :: xa_ws) (xa_rm fr mc ms lo) mc ms np := by
  obtain ⟨b1, b2, b3, b4, b5⟩ := id hB
  refine ⟨rfl, rfl, hR.1, hR.2, xa_pay hB hts, List.mem_cons_self, hts _ b1, hts _ b2, ⟨b3, b4⟩, fun sig h9 => ?_, hts _ hl⟩
  rw [h9] at b5
  exact (Option.some.inj b5).symm
section XC
variable {l : Launch} {D : va_G} {H0 : Heap} {μ ν : xa_Mu} {R : Room} {Z : xa_Z} {k n : Nat} {h : xa_H} {sz pc : Nat} {ls : List (Nat × Value)} {st : List Value}
theorem xa_after {p : Program} {e : Env} {s : State} {m : MethodId} {args : Array Value} {below : List Frame} {meth : Method} {c : Code} {H : Heap} {locs : List Loc} {la : Array Slot} {st0 : List Value} {mc ms : Nat} {Q : Option Value → xa_H → Nat → Prop} {a : Array Value}
    (C : xa_C D H0 μ p s m args meth c) (hL : ∀ q ∈ locs, H0.size ≤ q.base) (hl : lv_has la μ.2.2.1 ls)
    (hr : va_Run p l e R s m args below meth c H locs k n mc ms (F0 m pc la st0) st (xa_Qc D H0 Q a) (fun q => H0.size ≤ q))
    (kk : ∀ (v : Option Value) (h' : xa_H) (sz' : Nat), Q v h' sz' → xa_X l D H0 μ R Z (k + mc) (n + ms) h' sz' (pc + 3) ls (v.toList ++ st)) : W p l e R s m args below meth c H locs k n (Z below args s) (F0 m pc la st0) := by
  intro T hT X
  obtain ⟨v, st₀, t, T', L, h0, X', hL', e1, e2, ⟨v', h', sz', ho, hq, hP'⟩, go⟩ := hr T hT X
  cases ho
  obtain ⟨t2, a1, b1⟩ := kk v h' sz' hq p e s m args below meth c T'.heap (locs ++ L) la C (by rw [e1]; exact hP') (fun q hq => by
    rcases List.mem_append.mp hq with hq | hq
    · exact hL q hq
    · exact hL' q hq) hl T' rfl X'
  exact ⟨t2, go t2 a1, b1⟩
theorem xa_ireturn {mc ms : Nat} {Q : Option Value → xa_H → Nat → Prop} {v : Int32} (hd : decode μ.2.1 pc = .ok (.ireturn, 1)) (hr : μ.2.2.2.1 = some .int) (hk : k ≤ mc) (hn : n ≤ ms) (hq : Q (some (.int v)) h sz) : xa_X l D H0 μ R (xa_Zr D H0 mc ms Q) k n h sz pc ls ([.int v]) := by
  intro p e s m args below meth c H locs la C hP hL hl
  refine W.widen hk hn ?_
  exact W.iret C.1 C.2.1 (C.2.2.2.2.2.2.1.trans hr) (fun t ht hW => ⟨_, h, sz, rfl, hq, by rw [ht]; exact hP⟩) hL hd (hlocks := C.2.2.2.2.2.2.2.1)
theorem xa_zreturn {mc ms : Nat} {Q : Option Value → xa_H → Nat → Prop} {v : Int32} {ty : FieldType} (hd : decode μ.2.1 pc = .ok (.ireturn, 1)) (hr : μ.2.2.2.1 = some ty) (hv : narrow ty (.int v) = .int v) (hk : k ≤ mc) (hn : n ≤ ms) (hq : Q (some (.int v)) h sz) : xa_X l D H0 μ R (xa_Zr D H0 mc ms Q) k n h sz pc ls ([.int v]) := by
  intro p e s m args below meth c H locs la C hP hL hl
  refine W.widen hk hn ?_
  exact W.zret C.1 C.2.1 (C.2.2.2.2.2.2.1.trans hr) hv (fun t ht hW => ⟨_, h, sz, rfl, hq, by rw [ht]; exact hP⟩) hL hd (hlocks := C.2.2.2.2.2.2.2.1)
theorem xa_return {mc ms : Nat} {Q : Option Value → xa_H → Nat → Prop}  (hd : decode μ.2.1 pc = .ok (.return_, 1)) (hr : μ.2.2.2.1 = none) (hk : k ≤ mc) (hn : n ≤ ms) (hq : Q (none) h sz) : xa_X l D H0 μ R (xa_Zr D H0 mc ms Q) k n h sz pc ls ([]) := by
  intro p e s m args below meth c H locs la C hP hL hl
  refine W.widen hk hn ?_
  exact W.vret C.1 C.2.1 (C.2.2.2.2.2.2.1.trans hr) (fun t ht hW => ⟨_, h, sz, rfl, hq, by rw [ht]; exact hP⟩) hL hd (hlocks := C.2.2.2.2.2.2.2.1)
theorem xa_areturn {mc ms : Nat} {Q : Option Value → xa_H → Nat → Prop} {a : Nat} {rt : FieldType} (hd : decode μ.2.1 pc = .ok (.areturn, 1)) (hr : μ.2.2.2.1 = some rt) (hrt : (∃ n, rt = .object n) ∨ ∃ t, rt = .array t) (hk : k ≤ mc) (hn : n ≤ ms) (hq : Q (some (.ref a)) h sz) : xa_X l D H0 μ R (xa_Zr D H0 mc ms Q) k n h sz pc ls ([.ref a]) := by
  intro p e s m args below meth c H locs la C hP hL hl
  refine W.widen hk hn ?_
  exact W.aret C.1 C.2.1 (C.2.2.2.2.2.2.1.trans hr) hrt (Or.inr ⟨a, rfl⟩) (fun t ht hW => ⟨_, h, sz, rfl, hq, by rw [ht]; exact hP⟩) hL hd (hlocks := C.2.2.2.2.2.2.2.1)
theorem xa_areturnN {mc ms : Nat} {Q : Option Value → xa_H → Nat → Prop} {rt : FieldType} (hd : decode μ.2.1 pc = .ok (.areturn, 1)) (hr : μ.2.2.2.1 = some rt) (hrt : (∃ n, rt = .object n) ∨ ∃ t, rt = .array t) (hk : k ≤ mc) (hn : n ≤ ms) (hq : Q (some .null) h sz) : xa_X l D H0 μ R (xa_Zr D H0 mc ms Q) k n h sz pc ls ([.null]) := by
  intro p e s m args below meth c H locs la C hP hL hl
  refine W.widen hk hn ?_
  exact W.aret C.1 C.2.1 (C.2.2.2.2.2.2.1.trans hr) hrt (Or.inl rfl) (fun t ht hW => ⟨_, h, sz, rfl, hq, by rw [ht]; exact hP⟩) hL hd (hlocks := C.2.2.2.2.2.2.2.1)
theorem xa_areturnQ {mc ms : Nat} {Q : Option Value → xa_H → Nat → Prop} {r : Option Nat} {rt : FieldType} (hd : decode μ.2.1 pc = .ok (.areturn, 1)) (hr : μ.2.2.2.1 = some rt) (hrt : (∃ n, rt = .object n) ∨ ∃ t, rt = .array t) (hk : k ≤ mc) (hn : n ≤ ms) (hq : Q (some (va_rf r)) h sz) : xa_X l D H0 μ R (xa_Zr D H0 mc ms Q) k n h sz pc ls [va_rf r] := by
  cases r with
  | none => exact xa_areturnN hd hr hrt hk hn hq
  | some a => exact xa_areturn hd hr hrt hk hn hq
def xa_LS (own : String) (idx : Nat) (ν : xa_Mu) (np : Nat) : Prop := xa_LB ν np ∧ Cond.methodLink own idx ν.1 ∈ xa_ws ∧ Cond.static ν.1 ∈ xa_ws
theorem xa_callS {idx fr lo mc ms np : Nat} {As st0 : List Value} {Q : Option Value → xa_H → Nat → Prop} (hd : decode μ.2.1 pc = .ok (.invokestatic idx, 3)) (hLk : xa_LS μ.1.cls idx ν np) (hM : xa_M l D H0 ν fr lo mc ms As h sz Q) (hst : st0 = As.reverse ++ st) (hn : As.length = np) (hw : (st.map fun v => v.category).sum ≤ 8) (hR : fr + 1 ≤ R.frames ∧ 8 + (ν.2.2.1 + 11) + lo ≤ R.locals) (hc : k + mc ≤ R.cells) (hs : n + ms ≤ R.slots) (kk : ∀ (v : Option Value) (h' : xa_H) (sz' : Nat), Q v h' sz' → xa_X l D H0 μ R Z (k + mc) (n + ms) h' sz' (pc + 3) ls (v.toList ++ st)) : xa_X l D H0 μ R Z k n h sz pc ls st0 := by
  intro p e s m args below meth c H locs la C hP hL hl
  obtain ⟨⟨b1, b2, b3, b4, b5⟩, b6, b7⟩ := hLk
  have hts := C.2.2.2.2.1
  refine xa_after C hL hl (va_runS (As := As) (rest := st) ⟨C.1, C.2.1, C.2.2.1, C.2.2.2.1, hts⟩ hM ⟨xa_callB ⟨b1, b2, b3, b4, b5⟩ hts b6 hR, hts _ b7⟩ ⟨xa_blind, fun U hU hW => ⟨rfl, by rw [hU]; exact hP, va_K.moved hW.alike C.2.2.2.2.2.1, C.2.2.2.2.2.2.2.2.2.2.moved hW.alike⟩⟩ rfl hn hl.1 hst (lv_room hw) hd ⟨hc, hs⟩) kk
def xa_LSN (own : String) (idx : Nat) (ν : xa_Mu) (np : Nat) (host : String) : Prop := xa_LB ν np ∧ Cond.methodLinkNest own idx ν.1 host ∈ xa_ws ∧ Cond.static ν.1 ∈ xa_ws
theorem xa_callSN {idx fr lo mc ms np : Nat} {As st0 : List Value} {Q : Option Value → xa_H → Nat → Prop} {host : String} (hd : decode μ.2.1 pc = .ok (.invokestatic idx, 3)) (hLk : xa_LSN μ.1.cls idx ν np host) (hM : xa_M l D H0 ν fr lo mc ms As h sz Q) (hst : st0 = As.reverse ++ st) (hn : As.length = np) (hw : (st.map fun v => v.category).sum ≤ 8) (hR : fr + 1 ≤ R.frames ∧ 8 + (ν.2.2.1 + 11) + lo ≤ R.locals) (hc : k + mc ≤ R.cells) (hs : n + ms ≤ R.slots) (kk : ∀ (v : Option Value) (h' : xa_H) (sz' : Nat), Q v h' sz' → xa_X l D H0 μ R Z (k + mc) (n + ms) h' sz' (pc + 3) ls (v.toList ++ st)) : xa_X l D H0 μ R Z k n h sz pc ls st0 := by
  intro p e s m args below meth c H locs la C hP hL hl
  obtain ⟨⟨b1, b2, b3, b4, b5⟩, b6, b7⟩ := hLk
  have hts := C.2.2.2.2.1
  refine xa_after C hL hl (va_runSN (As := As) (rest := st) ⟨C.1, C.2.1, C.2.2.1, C.2.2.2.1, hts⟩ hM ⟨⟨⟨rfl, rfl, hR.1, hR.2, xa_pay ⟨b1, b2, b3, b4, b5⟩ hts, List.mem_cons_self⟩, hts _ b1, hts _ b2, ⟨b3, b4⟩, fun sig h9 => by rw [h9] at b5; exact (Option.some.inj b5).symm, hts _ b6⟩, hts _ b7, trivial⟩ ⟨xa_blind, fun U hU hW => ⟨rfl, by rw [hU]; exact hP, va_K.moved hW.alike C.2.2.2.2.2.1, C.2.2.2.2.2.2.2.2.2.2.moved hW.alike⟩⟩ rfl hn hl.1 hst (lv_room hw) hd ⟨hc, hs⟩) kk
def xa_LI (own : String) (idx : Nat) (ν : xa_Mu) (np : Nat) : Prop := xa_LB ν np ∧ Cond.methodLink own idx ν.1 ∈ xa_ws ∧ Cond.instanceMethod ν.1 ∈ xa_ws ∧ ν.1.name = "<init>" ∧ ν.2.2.2.1 = none
theorem xa_callI {idx fr lo mc ms np : Nat} {As st0 : List Value} {Q : Option Value → xa_H → Nat → Prop} {b : Nat} (hd : decode μ.2.1 pc = .ok (.invokespecial idx, 3)) (hLk : xa_LI μ.1.cls idx ν np) (hM : xa_M l D H0 ν fr lo mc ms (.ref b :: As) h sz Q) (hst : st0 = As.reverse ++ .ref b :: st) (hn : As.length = np) (hw : (st.map fun v => v.category).sum ≤ 8) (hR : fr + 1 ≤ R.frames ∧ 8 + (ν.2.2.1 + 11) + lo ≤ R.locals) (hc : k + mc ≤ R.cells) (hs : n + ms ≤ R.slots) (kk : ∀ (v : Option Value) (h' : xa_H) (sz' : Nat), Q v h' sz' → xa_X l D H0 μ R Z (k + mc) (n + ms) h' sz' (pc + 3) ls (v.toList ++ st)) : xa_X l D H0 μ R Z k n h sz pc ls st0 := by
  intro p e s m args below meth c H locs la C hP hL hl
  obtain ⟨⟨b1, b2, b3, b4, b5⟩, b6, b7, b8, b9⟩ := hLk
  have hts := C.2.2.2.2.1
  obtain ⟨y, cc, nL, ret, hh⟩ := ν
  cases (show ret = none from b9)
  refine xa_after C hL hl (va_runI (As := As) (rest := st) ⟨C.1, C.2.1, C.2.2.1, C.2.2.2.1, hts⟩ hM ⟨xa_callB ⟨b1, b2, b3, b4, b5⟩ hts b6 hR, b8, hts _ b7⟩ ⟨xa_blind, fun U hU hW => ⟨rfl, by rw [hU]; exact hP, va_K.moved hW.alike C.2.2.2.2.2.1, C.2.2.2.2.2.2.2.2.2.2.moved hW.alike⟩⟩ rfl hn hl.1 hst (lv_room hw) hd ⟨hc, hs⟩) kk
theorem xa_recv {s : State} {H : Heap} {ci b : Nat} {q : vw_C} {fs : List Value} (hc : xa_cl[ci]? = some q) (hK : va_K D xa_cl (xa_tys D) s) (hP : xa_P D H0 h sz H) (hb : h b = some (.inr (ci, fs))) : ∃ cellB : Cell, H[b]? = some cellB ∧ cellB.vm.isStatics = false ∧ s.vm.findClass q.1 = some cellB.cls := by
  obtain ⟨r, h1, cell, q1, q2, q3, -⟩ := (hP.2.2.2 b _ hb).2
  exact ⟨cell, q1, by rw [q3]; rfl, by rw [q2]; exact (hK.1 ci q hc).2.1⟩
def xa_LV (own : String) (idx : Nat) (ν : xa_Mu) (ci np : Nat) : Prop := xa_LB ν np ∧ Cond.methodLink own idx ν.1 ∈ xa_ws ∧ Cond.instanceMethod ν.1 ∈ xa_ws ∧ Cond.selects ν.1.cls ν.1 ν.1 ∈ xa_ws ∧ ∃ q : vw_C, xa_cl[ci]? = some q ∧ q.1 = ν.1.cls
theorem xa_callV {idx fr lo mc ms np : Nat} {As st0 : List Value} {Q : Option Value → xa_H → Nat → Prop} {b ci : Nat} {fs : List Value} (hd : decode μ.2.1 pc = .ok (.invokevirtual idx, 3)) (hLk : xa_LV μ.1.cls idx ν ci np) (hb : h b = some (.inr (ci, fs))) (hM : xa_M l D H0 ν fr lo mc ms (.ref b :: As) h sz Q) (hst : st0 = As.reverse ++ .ref b :: st) (hn : As.length = np) (hw : (st.map fun v => v.category).sum ≤ 8) (hR : fr + 1 ≤ R.frames ∧ 8 + (ν.2.2.1 + 11) + lo ≤ R.locals) (hc : k + mc ≤ R.cells) (hs : n + ms ≤ R.slots) (kk : ∀ (v : Option Value) (h' : xa_H) (sz' : Nat), Q v h' sz' → xa_X l D H0 μ R Z (k + mc) (n + ms) h' sz' (pc + 3) ls (v.toList ++ st)) : xa_X l D H0 μ R Z k n h sz pc ls st0 := by
  intro p e s m args below meth c H locs la C hP hL hl
  obtain ⟨⟨b1, b2, b3, b4, b5⟩, b6, b7, b8, q, b9, b10⟩ := hLk
  have hts := C.2.2.2.2.1
  have hrecv := xa_recv b9 C.2.2.2.2.2.1 hP hb
  rw [b10] at hrecv
  refine xa_after C hL hl (va_runV (As := As) (rest := st) (C := ν.1.cls) ⟨C.1, C.2.1, C.2.2.1, C.2.2.2.1, hts⟩ hM ⟨xa_callB ⟨b1, b2, b3, b4, b5⟩ hts b6 hR, hts _ b7, hts _ b8⟩ ⟨xa_blind, hrecv, fun U hU hW => ⟨rfl, by rw [hU]; exact hP, va_K.moved hW.alike C.2.2.2.2.2.1, C.2.2.2.2.2.2.2.2.2.2.moved hW.alike⟩⟩ rfl hn hl.1 hst (lv_room hw) hd ⟨hc, hs⟩) kk
theorem xa_objInit {idx a : Nat} (hl1 : Cond.methodLink μ.1.cls idx Lib.objectInit ∈ xa_ws) (hl2 : Cond.instanceMethod Lib.objectInit ∈ xa_ws) (hl3 : Cond.code Lib.objectInit ⟨#[0xb1]⟩ 1 none ∈ xa_ws) (hd : decode μ.2.1 pc = .ok (.invokespecial idx, 3)) (hf : 1 ≤ R.frames) (hlo : (st.map fun v => v.category).sum + 12 ≤ R.locals) (kk : xa_X l D H0 μ R Z k n h sz (pc + 3) ls st) : xa_X l D H0 μ R Z k n h sz pc ls (.ref a :: st) := by
  intro p e s m args below meth c H locs la C hP hL hl
  have hts := C.2.2.2.2.1
  refine W.objInit C.1 C.2.1 C.2.2.2.1 (hts _ hl1) (hts _ hl2) (hts _ hl3) rfl (by rw [C.2.2.1]; exact hl.1) rfl hd hf (by show 2 * 0 + _ + 12 ≤ _; omega) ?_
  exact (kk p e s m args below meth c H locs la C hP hL hl)
end XC
end
section
/-! Methods that throw: a new exception without a message, its way through a caller, its catching. -/
theorem xa_SF.lays {H0 : Heap} {nm ds : String} {U : State} {args : Array Value} (h : xa_SF H0 nm ds U) (hq : ∀ q : Nat, q < H0.size → U.heap[q]? = H0[q]?) : (Cond.laysStatic "java/lang/Throwable" nm ds).before args U = true := by
  obtain ⟨c, k, i, f, a, cell, v, h1, h2, h3, h4, h5, h6, h7, h8, h9, h10⟩ := h
  have hc : U.heap[a]? = some cell := by rw [hq a (Array.getElem?_eq_some_iff.mp h5).1]; exact h5
  simp [Cond.before, Cond.holds, Cond.value, h1, h2, h3, h4, hc, h6, h7, h8, h9]
theorem xa_SF.isRef {H0 : Heap} {nm ds : String} {U : State} {args : Array Value} (h : xa_SF H0 nm ds U) (hq : ∀ q : Nat, q < H0.size → U.heap[q]? = H0[q]?) : (Cond.isRef (.static "java/lang/Throwable" nm ds)).before args U = true := by
  obtain ⟨c, k, i, f, a, cell, v, h1, h2, h3, h4, h5, h6, h7, h8, h9, h10, h11⟩ := h
  have hc : U.heap[a]? = some cell := by rw [hq a (Array.getElem?_eq_some_iff.mp h5).1]; exact h5
  rcases h11 with rfl | ⟨t, rfl⟩ <;> simp [Cond.before, Cond.holds, Cond.value, Term.eval, State.fieldNamed?, h2, h3, h4, hc, h6, h10]
theorem xa_SF.of {H0 : Heap} {nm ds : String} {U : State} {args : Array Value} (hU : U.heap = H0) (h : (Cond.laysStatic "java/lang/Throwable" nm ds).before args U = true) (hr : (Cond.isRef (.static "java/lang/Throwable" nm ds)).before args U = true) : xa_SF H0 nm ds U := by
  obtain ⟨c, k, i, f, a, cell, hc, hi, hst, ha, hcell, hs, hcls, hlt, hty⟩ := Cond.laysStatic_spec h
  cases hv : (Term.static "java/lang/Throwable" nm ds).eval args U none [] U with
  | none => simp [Cond.before, Cond.holds, Cond.value, hv] at hr
  | some w =>
    obtain ⟨hst', a', cell', ha', hcell', -, hslot⟩ := Term.static_spec hi hv
    cases ha.symm.trans ha'
    cases hcell.symm.trans hcell'
    refine ⟨c, k, i, f, a, cell, w, hc, hi, hst, ha, by rw [← hU]; exact hcell, hs, hcls, hlt, hty, hslot, ?_⟩
    simp only [Cond.before, Cond.holds, Cond.value, hv] at hr
    cases w <;> simp_all
section XR
variable {p : Program} {l : Launch} {e : Env} {R : Room} {s : State} {m : MethodId} {args : Array Value} {below : List Frame} {meth : Method} {c : Code} {T : State} {locs : List Loc} {cells slots : Nat}
/-- the same invocation, as if it began at the present state -/
theorem xa_rebase (X : Stand p l e R s m args below meth c T locs cells slots) (hc : cells ≤ R.cells) (hs : slots ≤ R.slots) :
    Stand p l e { frames := R.frames, cells := R.cells - cells, slots := R.slots - slots, locals := R.locals } (T.setFrames (.invoking m args :: below)) m args below meth c T [] 0 0 := by
  obtain ⟨g₀, hfr⟩ := X.frames_eq
  have hcur : T.cur < T.threads.size := State.cur_lt_of_frames hfr
  have hf' : (T.setFrames (.invoking m args :: below)).frames = .invoking m args :: below := State.frames_setFrames _ hcur
  have hm' : (T.setFrames (.invoking m args :: below)).vm.method? m = some meth := X.method'
  have hl1 := State.localsInUse_invoking X.frames X.method X.code
  have hl2 := State.localsInUse_invoking hf' hm' X.code
  refine ⟨X.admits, X.cas, X.clock, hf', ?_, ?_, hm', X.code, X.here, X.tail, State.WarmedH.refl _, (State.stackLimits_setFrames _ _ _).symm, (State.stackBytes_setFrames _ _).symm, ?_⟩
  · have hr := X.room
    have h1 := X.heapSize
    have h2 := X.used
    have h3 := X.book
    have h3' : (T.setFrames (.invoking m args :: below)).slotsTrue = true := h3
    have h4 : (T.setFrames (.invoking m args :: below)).heap.size = T.heap.size := rfl
    have h5 : (T.setFrames (.invoking m args :: below)).slotsUsed = T.slotsUsed := rfl
    simp only [State.hasRoom, Bool.and_eq_true, decide_eq_true_eq, hl1, hl2, hf', X.frames, List.length_cons, State.stackLimits_setFrames, X.limits, State.stackBytes_setFrames, X.bytes, h4, h5, h3'] at hr ⊢
    obtain ⟨⟨⟨⟨r1, r2, r3, r4, r5, r6⟩, r7⟩, r8⟩, r9⟩ := hr
    refine ⟨⟨⟨⟨r1, r2, r3, r4, r5, r6⟩, by omega⟩, by omega⟩, trivial⟩
  · have hh := X.hears
    rcases below with _ | ⟨y, r⟩
    · simp only [State.hears, hm', X.method] at hh ⊢
      exact hh
    · cases y <;> first
        | (simp only [State.hears, hm', X.method] at hh ⊢; exact hh)
        | (simp only [State.hears, State.code?_eq] at hh ⊢
           rw [show (T.setFrames _).vm = T.vm from rfl, X.warmed.alike.method?]
           exact hh)
        | rfl
  · obtain ⟨t, ht, -⟩ := State.frames_cons hf'
    obtain ⟨t0, ht0, -⟩ := State.frames_cons hfr
    have h := (State.sameButNew.refl (T.setFrames (.invoking m args :: below)) ht).setFrames T.frames (State.cur_lt_of_frames hf')
    rw [State.setFrames_setFrames, State.setFrames_self ht0] at h
    exact h
end XR
def xa_Te (D : va_G) (H0 : Heap) (mc ms : Nat) (Xn : String) (Q : xa_H → Nat → Prop) (st : State) (o : Outcome) (t : State) : Prop :=
  ∃ x : Nat, o = .threw x ∧ (∃ (h' : xa_H) (sz' : Nat), Q h' sz' ∧ xa_P D H0 h' sz' t.heap) ∧ (∃ ce : Cell, t.heap[x]? = some ce ∧ ce.vm = .none ∧ st.vm.findClass Xn = some ce.cls) ∧ st.WarmedH t.vm ∧ ∃ L : List Loc, st.sameButNew ({ t with vm := st.vm } : State) L mc ms ∧ ∀ q ∈ L, H0.size ≤ q.base
def xa_Zt (D : va_G) (H0 : Heap) (mc ms : Nat) (Xn : String) (Q : xa_H → Nat → Prop) : xa_Z := fun below _ s t => ∃ o, t.status = .running ∧ Ended t below o ∧ xa_Te D H0 mc ms Xn Q s o t
def xa_T (l : Launch) (D : va_G) (H0 : Heap) (μ : xa_Mu) (fr lo mc ms : Nat) (av : List Value) (h : xa_H) (sz : Nat) (Xn : String) (Q : xa_H → Nat → Prop) : Prop :=
  MetFree l μ.1 (headSpec (xa_cd μ :: xa_ws) (xa_rm fr mc ms lo)) (xa_pc D H0 av h sz) (fun _ _ _ _ _ => True) (fun _ st o t => xa_Te D H0 mc ms Xn Q st o t)
theorem xa_enterT {l : Launch} {D : va_G} {H0 : Heap} {μ : xa_Mu} {fr lo mc ms : Nat} {av : List Value} {h : xa_H} {sz : Nat} {Xn : String} {Q : xa_H → Nat → Prop} (hp : plainName μ.1.cls = true) (hh : μ.2.2.2.2 = []) (hfit : Nat.ble (lg_sl av).length μ.2.2.1 = true)
    (kk : xa_X l D H0 μ (xa_rm fr mc ms lo) (xa_Zt D H0 mc ms Xn Q) 0 0 h sz 0 (lv_args 0 av) []) : xa_T l D H0 μ fr lo mc ms av h sz Xn Q := by
  unfold xa_T
  refine MetFree.of_bodyS (code := μ.2.1) (maxLocals := μ.2.2.1) (ret := μ.2.2.2.1) hp ?_ ?_
  · intro args s m h0 hn
    obtain ⟨meth, c, h1, h2, h3, h4, h5, h6, -, -⟩ := Cond.code_spec hn (atoms_spec (ws := xa_cd μ :: xa_ws) h0 _ List.mem_cons_self)
    exact ⟨meth, c, h1, h2, h3, h4, h5, h6⟩
  · intro p e s m args below meth c s₁ B hml hv _
    obtain ⟨rfl, hP, hK, hN⟩ := hv
    have hts := atoms_spec (ws := xa_cd μ :: xa_ws) B.pre
    have hl := lv_entry av (n := μ.2.2.1) (Nat.le_of_ble_eq_true hfit)
    have hh0 : s₁.heap = s.heap := by rw [B.state]; rfl
    obtain ⟨t, a1, o, b1, b2, b3⟩ := kk p e s m _ below meth c s.heap [] _ ⟨B.exec, B.bytes, hml, findClass_of_methodNamed B.named, fun w hw => hts w (List.mem_cons_of_mem _ hw), hK, B.returns, B.notSynchronized, (name_of_methodNamed B.named B.method).1, by rw [hh, show c.exceptionTable = #[] from Array.isEmpty_iff.mp (B.noHandlers (hts _ List.mem_cons_self))]; rfl, hN⟩ hP (fun q hq => by cases hq) hl s₁ hh0 (Stand.of_body B)
    refine ⟨t, o, ?_, b1, b2, b3⟩
    rw [lg_entry_eq]
    exact a1
def xa_thr (own : String) (ix ic : Nat) (Xn : String) : Prop := Cond.classLink own ix Xn ∈ xa_ws ∧ Cond.initialized Xn ∈ xa_ws ∧ Bundle.fit Xn = true ∧ ∀ w ∈ Bundle.ownAtoms0 own ic Xn xa_up, w ∈ xa_ws ∨ w = Cond.laysStatic "java/lang/Throwable" "UNASSIGNED_STACK" "[Ljava/lang/StackTraceElement;" ∨ w = Cond.laysStatic "java/lang/Throwable" "SUPPRESSED_SENTINEL" "Ljava/util/List;" ∨ w = Cond.isRef (.static "java/lang/Throwable" "UNASSIGNED_STACK" "[Ljava/lang/StackTraceElement;") ∨ w = Cond.isRef (.static "java/lang/Throwable" "SUPPRESSED_SENTINEL" "Ljava/util/List;")
section XT
variable {l : Launch} {D : va_G} {H0 : Heap} {μ ν : xa_Mu} {R : Room} {Z : xa_Z} {k n : Nat} {h : xa_H} {sz pc : Nat} {ls : List (Nat × Value)} {st : List Value}
theorem xa_throw {ix ic : Nat} {Xn : String} {mc ms : Nat} {Q : xa_H → Nat → Prop} (htr : l.stackTraces = false) (hE : μ.2.2.2.2 = []) (hX : xa_thr μ.1.cls ix ic Xn)
    (d0 : decode μ.2.1 pc = .ok (.new ix, 3)) (d1 : decode μ.2.1 (pc + 3) = .ok (.dup, 1)) (d2 : decode μ.2.1 (pc + 4) = .ok (.invokespecial ic, 3)) (d3 : decode μ.2.1 (pc + 7) = .ok (.athrow, 1))
    (hk : k + 1 ≤ R.cells) (hs : n + 6 ≤ R.slots) (hkm : k + 1 ≤ mc) (hsm : n + 6 ≤ ms) (hf : 6 ≤ R.frames) (hlo : (st.map fun v => v.category).sum + 81 ≤ R.locals) (hq : ∀ sz', sz ≤ sz' → Q h sz') : xa_X l D H0 μ R (xa_Zt D H0 mc ms Xn Q) k n h sz pc ls st := by
  intro p e s m args below meth c H locs la C hP hL hl T hT X
  obtain ⟨hx1, hx2, hx3, hx4⟩ := hX
  have X0 := xa_rebase X (by omega) (by omega)
  have hW0 : s.WarmedH (T.setFrames (.invoking m args :: below)).vm := X.warmed
  have hheap0 : (T.setFrames (.invoking m args :: below)).heap = H := hT
  have hts0 : ∀ w ∈ xa_ws, w.before args (T.setFrames (.invoking m args :: below)) = true := fun w hw => xa_keep hw hW0 (C.2.2.2.2.1 w hw)
  have hown0 : (T.setFrames (.invoking m args :: below)).vm.findClass μ.1.cls = some m.cls := by rw [hW0.alike.findClass]; exact C.2.2.2.1
  have hq0 : ∀ q : Nat, q < H0.size → (T.setFrames (.invoking m args :: below)).heap[q]? = H0[q]? := by rw [hheap0]; exact hP.2.2.1
  have hN0 : xa_N H0 (T.setFrames (.invoking m args :: below)) := C.2.2.2.2.2.2.2.2.2.2.moved hW0.alike
  have hat : ∀ w ∈ Bundle.ownAtoms0 μ.1.cls ic Xn xa_up, w.before args (T.setFrames (.invoking m args :: below)) = true := by
    intro w hw
    rcases hx4 w hw with h1 | rfl | rfl | rfl | rfl
    · exact hts0 w h1
    · exact hN0.1.lays hq0
    · exact hN0.2.1.lays hq0
    · exact hN0.1.isRef hq0
    · exact hN0.2.1.isRef hq0
  have htr' : e.platform.stackTraces = false := by rw [X.admits.platform]; exact htr
  have hcd : c.exceptionTable.toList = [] := by
    have h1 := C.2.2.2.2.2.2.2.2.2.1
    rw [hE] at h1
    exact List.map_eq_nil_iff.mp h1
  generalize hs' : T.setFrames (.invoking m args :: below) = s' at X0 hW0 hheap0 hts0 hown0 hat
  obtain ⟨vm₁, cX, kX, hfX, hkX, -, -, X₁, st1⟩ := X0.newCold C.1 (own := μ.1.cls) (C := Xn) (index := ix) (n := 6) hown0 (hts0 _ hx1) (hat (.instantiable Xn 6) (by simp [Bundle.ownAtoms0])) (hts0 _ hx2)
    (g := F0 m pc la st) rfl (by rw [C.2.1]; exact d0) (by show 0 + 1 ≤ R.cells - k; omega) (by show 0 + 6 ≤ R.slots - n; omega)
  generalize hV : (T.setVm vm₁).pushCell { cls := cX, slots := kX.instanceTypes.map defaultValue, vm := .none } = V at X₁ st1
  have hcellA : V.heap[T.heap.size]? = some (freshCell cX kX) := by rw [← hV]; exact State.heap_pushCell_size _ _
  have hnew : s'.heap.size ≤ T.heap.size := by rw [hheap0, hT]; exact Nat.le_refl _
  obtain ⟨U, hsteps, hrun, hend, hWU, hsame, ce, hce, Kc⟩ := X₁.ctorThrow0 C.1 htr' (own := μ.1.cls) (cls := Xn) (names := xa_up) (ic := ic) hown0 hx3 xa_up_fit hat (fun y hy => by cases hy) hfX hkX hcellA hnew
    (g := F0 m (pc + 4) la (.ref T.heap.size :: .ref T.heap.size :: st)) rfl (by rw [C.2.2.1]; exact hl.1) rfl rfl (rest := st) rfl (by rw [C.2.1]; exact d2) (by rw [C.2.1]; exact d3) (by rw [hcd]; intro x hx; cases hx) (by show 2 + 3 < R.frames; omega) (by show 2 * 0 + (1 + (st.map fun v => v.category).sum) + 80 ≤ R.locals; omega) (hlocks := C.2.2.2.2.2.2.2.1)
  have hkeep : ∀ (a : Nat) (cell : Cell), H[a]? = some cell → U.heap[a]? = some cell := fun a cell ha => State.sameButNew.old_cell (s' := { U with vm := s'.vm }) hsame (by rw [hheap0]; exact ha)
  have hsz : sz ≤ U.heap.size := by
    have h1 : s'.heap.size ≤ U.heap.size := hsame.2.1
    rw [hheap0, hP.1] at h1
    exact h1
  refine ⟨U, st1 _ ?_, .threw T.heap.size, hrun, hend, T.heap.size, rfl, ⟨h, U.heap.size, hq _ hsz, rfl, Nat.le_trans hP.2.1 hsz, fun q hq1 => ?_, fun a e' ha => ⟨(hP.2.2.2 a e' ha).1, (hP.2.2.2 a e' ha).2.kept ?_⟩⟩, ⟨ce, hce, Kc.vm, by rw [← hW0.alike.findClass]; exact Kc.cls⟩, ?_, locs, ?_, hL⟩
  · show Steps p.tables e below (V.setTop (F0 m (pc + 3) la (.ref T.heap.size :: st))) U
    jvm_step X₁.here [X₁.here.top, C.1, C.2.1, d1, Value.category]
    exact hsteps
  · have h1 : H0[q]? = some H0[q] := Array.getElem?_eq_getElem hq1
    rw [h1]
    exact hkeep q _ ((hP.2.2.1 q hq1).trans h1)
  · have hlt : a < H.size := (hP.2.2.2 a e' ha).2.lt
    have h1 : H[a]? = some H[a] := Array.getElem?_eq_getElem hlt
    show U.heap[a]? = H[a]?
    rw [h1]
    exact hkeep a _ h1
  · exact State.WarmedH.trans (t := s') hW0 hWU
  · have h2 : (T.setVm s.vm).sameButNew ({ U with vm := s.vm } : State) [] 1 6 := by
      subst hs'
      obtain ⟨e1, e2, e3, e4, e5, e6⟩ := hsame
      refine ⟨?_, e2, e3, e4, e5, e6⟩
      have e7 := congrArg (fun x : State => x.setVm s.vm) e1
      rw [State.setFrames_setFrames] at e7
      exact e7
    have h3 := X.same.trans h2
    rw [List.append_nil] at h3
    exact h3.mono hkm hsm
end XT
section XI
variable {l : Launch} {D : va_G} {H0 : Heap} {μ ν : xa_Mu} {R : Room} {Z : xa_Z} {k n : Nat} {h : xa_H} {sz pc : Nat} {ls : List (Nat × Value)} {st : List Value}
variable {p : Program} {e : Env} {s : State} {m : MethodId} {args : Array Value} {below : List Frame} {meth : Method} {c : Code} {T : State} {locs : List Loc}
/-- a callee throws: where the caller stands then -/
theorem xa_inv (X : Stand p l e R s m args below meth c T locs k n) {fr lo mc ms np : Nat} {As : List Value} {Xn : String} {Q : xa_H → Nat → Prop} (hM : xa_T l D H0 ν fr lo mc ms As h sz Xn Q) (hts : ∀ w ∈ xa_ws, w.before args s = true) (hB : xa_LB ν np) (hK : va_K D xa_cl (xa_tys D) s) (hN : xa_N H0 s)
    (hP : xa_P D H0 h sz T.heap) (hL : ∀ q ∈ locs, H0.size ≤ q.base) {mk : MethodId} (hn : T.methodNamed? ν.1 = some mk) {g : JFrame} (hg : g.method = m) (hsize : g.locals.size = c.maxLocals) {ig : Instr} {len : Nat} (hdg : decode c.code g.pc = .ok (ig, len)) (hw : 2 * g.monitorRoom + (g.stack.map fun v => v.category).sum ≤ 8)
    (hR : fr + 1 ≤ R.frames ∧ 8 + (ν.2.2.1 + 11) + lo ≤ R.locals) (hc : k + mc ≤ R.cells) (hs : n + ms ≤ R.slots) :
    ∃ (x : Nat) (T' : State) (locs' : List Loc) (h' : xa_H) (sz' : Nat), Stand p l e R s m args below meth c T' locs' (k + mc) (n + ms) ∧ (∀ q ∈ locs', H0.size ≤ q.base) ∧ Q h' sz' ∧ xa_P D H0 h' sz' T'.heap ∧ (∃ ce : Cell, T'.heap[x]? = some ce ∧ ce.vm = .none ∧ s.vm.findClass Xn = some ce.cls) ∧
      Steps p.tables e below (doInvoke e (T.setTop g) [] mk As.toArray).1 ((T'.setTop g).pushFrame (.throwing x)) := by
  have hW := X.warmed
  have hcodeT : (xa_cd ν).before As.toArray T = true := xa_keep hB.1 hW (hts _ hB.1)
  have hinitT : (Cond.initialized ν.1.cls).before As.toArray T = true := xa_keep hB.2.1 hW (hts _ hB.2.1)
  obtain ⟨methY, cY, hmY, hcY, -, hlY, -, -, -, -⟩ := Cond.code_spec hn hcodeT
  obtain ⟨kY, hkY, -⟩ := className_of_methodNamed hn
  have hinitY : kY.init = .initialized := Cond.initialized_spec (findClass_of_methodNamed hn) hkY hinitT
  have hAt : At T g.method c below := by rw [hg]; exact X.here
  have hpre : (headSpec (xa_cd ν :: xa_ws) (xa_rm fr mc ms lo)).pre.before As.toArray T = true := atoms_intro fun w hw => by
    rcases List.mem_cons.mp hw with hw | hw
    · rw [hw]; exact hcodeT
    · exact xa_keep hw hW (hts _ hw)
  have happ : (headSpec (xa_cd ν :: xa_ws) (xa_rm fr mc ms lo)).appliesLoose ν.1 e.platform (T.calling g mk As.toArray) = true :=
    Spec.appliesLoose_calling (g := g) hAt hdg hn hkY hinitY (X.room_calling (g := g) (R' := xa_rm fr mc ms lo) hsize hmY hcY hR.1 (by rw [hlY]; have := hR.2; show _ + _ + _ + lo ≤ _; omega) hc hs) hpre
  obtain ⟨mid, hmid⟩ := hAt.above
  have hfr : (T.setTop g).frames = (.java g :: mid) ++ below := by rw [State.frames_setTop' g hAt.top, hmid]; rfl
  obtain ⟨o, s₂, hsteps, -, hend, hq⟩ := Steps.callFree hM p X.admits X.cas X.clock (acts := []) hfr happ ⟨rfl, hP, va_K.moved hW.alike hK, hN.moved hW.alike⟩ trivial
  obtain ⟨x, rfl, ⟨h', sz', hQ, hP'⟩, ⟨ce, hce, hcv, hcc⟩, hW₂, L, ⟨e2, q2, q3, q4, q5, q6⟩, hL'⟩ := hq
  rw [State.frames_setTop' g hAt.top] at hend
  have hf₂ : s₂.frames = .throwing x :: .java g :: T.frames.tail := hend
  have hW' : T.WarmedH s₂.vm := hW₂
  obtain ⟨g₀, hr⟩ := X.frames_eq
  obtain ⟨t0, ht0, -⟩ := State.frames_cons hr
  have e3 := congrArg (fun z : State => z.setVm s₂.vm) e2
  have hr' : (({ T with heap := s₂.heap, slotsUsed := s₂.slotsUsed } : State).setVm s₂.vm).frames = .java g₀ :: below := hr
  have hs₂ : s₂ = ((({ T with heap := s₂.heap, slotsUsed := s₂.slotsUsed } : State).setVm s₂.vm).setTop g).pushFrame (.throwing x) := by
    refine Eq.trans (b := (({ (T.calling g mk As.toArray).setFrames s₂.frames with heap := s₂.heap, slotsUsed := s₂.slotsUsed } : State).setVm s₂.vm)) e3 ?_
    rw [hf₂, State.calling_eq hAt.top, State.setFrames_setFrames, State.pushFrame, State.frames_setTop _ hr', State.setTop_of_frames _ hr', State.setFrames_setFrames, hr]
    rfl
  have hsame : T.sameButNew ({ T with heap := s₂.heap, slotsUsed := s₂.slotsUsed } : State) L mc ms := by
    refine ⟨?_, q2, q3, q4, q5, q6⟩
    show ({ T with heap := s₂.heap, slotsUsed := s₂.slotsUsed } : State) = { T.setFrames T.frames with heap := s₂.heap, slotsUsed := s₂.slotsUsed }
    rw [State.setFrames_self ht0]
  refine ⟨x, ({ T with heap := s₂.heap, slotsUsed := s₂.slotsUsed } : State).setVm s₂.vm, locs ++ L, h', sz',
    ⟨X.admits, X.cas, X.clock, X.frames, X.room, X.hears, X.method, X.code, (X.here.setHeapUsed s₂.heap s₂.slotsUsed).setVm hW'.alike, X.tail, State.WarmedH.trans hW hW', X.limits, X.bytes, X.same.trans (hsame.setVm s.vm)⟩,
    fun q hq => (List.mem_append.mp hq).elim (hL q) (hL' q), hQ, hP', ⟨ce, hce, hcv, ?_⟩, ?_⟩
  · have h1 : T.vm.findClass Xn = some ce.cls := hcc
    rw [← hW.alike.findClass]
    exact h1
  · rw [← hs₂]
    exact hsteps
end XI
section XJ
variable {l : Launch} {D : va_G} {H0 : Heap} {μ ν : xa_Mu} {R : Room} {Z : xa_Z} {k n : Nat} {h : xa_H} {sz pc : Nat} {ls : List (Nat × Value)} {st : List Value}
/-- the call's own step: where the callee begins -/
theorem xa_goV {p : Program} {e : Env} {s : State} {m : MethodId} {args : Array Value} {below : List Frame} {meth : Method} {c : Code} {T : State} {locs : List Loc} {la : Array Slot} {idx ci np b : Nat} {As st0 fs : List Value} (C : xa_C D H0 μ p s m args meth c) (X : Stand p l e R s m args below meth c T locs k n) (hP : xa_P D H0 h sz T.heap)
    (hd : decode μ.2.1 pc = .ok (.invokevirtual idx, 3)) (hLk : xa_LV μ.1.cls idx ν ci np) (hb : h b = some (.inr (ci, fs))) (hst : st0 = As.reverse ++ .ref b :: st) (hn : As.length = np) :
    ∃ (mk : MethodId) (vm₁ : Vm), Stand p l e R s m args below meth c (T.setVm vm₁) locs k n ∧ (T.setVm vm₁).methodNamed? ν.1 = some mk ∧ ∀ target, Steps p.tables e below (doInvoke e ((T.setVm vm₁).setTop (F0 m pc la st)) [] mk (Value.ref b :: As).toArray).1 target → Steps p.tables e below (T.setTop (F0 m pc la st0)) target := by
  obtain ⟨⟨b1, b2, b3, b4, b5⟩, b6, b7, b8, q, b9, b10⟩ := hLk
  have hts := C.2.2.2.2.1
  obtain ⟨cellB, hcB, hoB, hclB⟩ := xa_recv b9 C.2.2.2.2.2.1 hP hb
  rw [b10] at hclB
  obtain ⟨mk, methM, hnamed, hmethM, hstM, habM⟩ := Cond.instanceMethod_spec (hts _ b7)
  obtain ⟨methM', cM, hmethM', -, -, -, -, -, -, hsigM⟩ := Cond.code_spec hnamed (hts _ b1)
  cases hmethM.symm.trans hmethM'
  obtain ⟨c2, r2, m2, q1, q2, q3, q4, kP, hkP, hkPi⟩ := Cond.selects_spec (hts _ b8)
  cases hclB.symm.trans q1
  cases (State.methodFound?_of_named hnamed ⟨b3, b4⟩).symm.trans q2
  cases hnamed.symm.trans q3
  have hselP : selectMethod e.platform s.vm cellB.cls mk = .method mk := by rw [Launch.admits_selectMethod X.admits]; exact q4
  have hlen : As.length = methM.sig.parameters.length := by
    rw [hsigM] at b5
    exact hn.trans (Option.some.inj b5).symm
  obtain ⟨vm₁, X₁, hstep₁⟩ := X.invokevirtual C.1 C.2.2.2.1 (hts _ b6) hnamed hmethM hstM hkP hkPi ⟨b3, b4⟩ (a := b) (cell := cellB) hcB (fun z h9 => by rw [h9] at hoB; cases hoB) hselP hmethM habM hkP hkPi (g := F0 m pc la st0) rfl (argsL := As) (rest := st) hlen hst (by rw [C.2.1]; exact hd)
  exact ⟨mk, vm₁, X₁, X₁.named hnamed, fun target hs => hstep₁ target fun acts => by rw [doInvoke_state]; exact hs⟩
theorem xa_goS {p : Program} {e : Env} {s : State} {m : MethodId} {args : Array Value} {below : List Frame} {meth : Method} {c : Code} {T : State} {locs : List Loc} {la : Array Slot} {idx np : Nat} {As st0 : List Value} (C : xa_C D H0 μ p s m args meth c) (X : Stand p l e R s m args below meth c T locs k n)
    (hd : decode μ.2.1 pc = .ok (.invokestatic idx, 3)) (hLk : xa_LS μ.1.cls idx ν np) (hst : st0 = As.reverse ++ st) (hn : As.length = np) :
    ∃ (mk : MethodId) (vm₁ : Vm), Stand p l e R s m args below meth c (T.setVm vm₁) locs k n ∧ (T.setVm vm₁).methodNamed? ν.1 = some mk ∧ ∀ target, Steps p.tables e below (doInvoke e ((T.setVm vm₁).setTop (F0 m pc la st)) [] mk As.toArray).1 target → Steps p.tables e below (T.setTop (F0 m pc la st0)) target := by
  obtain ⟨⟨b1, b2, b3, b4, b5⟩, b6, b7⟩ := hLk
  have hts := C.2.2.2.2.1
  obtain ⟨mk, hnamed⟩ := Cond.code_named (hts _ b1)
  obtain ⟨methM, cM, hmethM, -, -, -, -, -, -, hsigM⟩ := Cond.code_spec hnamed (hts _ b1)
  have hstatic : methM.isStatic = true := Cond.static_spec hnamed hmethM (hts _ b7)
  obtain ⟨kP, hkP, -⟩ := className_of_methodNamed hnamed
  have hinitP : kP.init = .initialized := Cond.initialized_spec (findClass_of_methodNamed hnamed) hkP (hts _ b2)
  have hlen : As.length = methM.sig.parameters.length := by
    rw [hsigM] at b5
    exact hn.trans (Option.some.inj b5).symm
  obtain ⟨vm₁, X₁, hstep₁⟩ := X.invokestatic C.1 C.2.2.2.1 (hts _ b6) hnamed hmethM hstatic hkP hinitP ⟨b3, b4⟩ (g := F0 m pc la st0) rfl (argsL := As) (rest := st) hlen hst (by rw [C.2.1]; exact hd)
  exact ⟨mk, vm₁, X₁, X₁.named hnamed, fun target hs => hstep₁ target fun acts => by rw [doInvoke_state]; exact hs⟩
theorem xa_thru {p : Program} {e : Env} {s : State} {m : MethodId} {args : Array Value} {below : List Frame} {meth : Method} {c : Code} {T0 T' : State} {locs : List Loc} {la : Array Slot} {st0 : List Value} {Xn : String} {Q : xa_H → Nat → Prop} {mc ms k' n' x sz' : Nat} {h' : xa_H} (C : xa_C D H0 μ p s m args meth c) (hE : μ.2.2.2.2 = [])
    (X' : Stand p l e R s m args below meth c T' locs k' n') (hL : ∀ q ∈ locs, H0.size ≤ q.base) (hQ : Q h' sz') (hP' : xa_P D H0 h' sz' T'.heap) (hce : ∃ ce : Cell, T'.heap[x]? = some ce ∧ ce.vm = .none ∧ s.vm.findClass Xn = some ce.cls) (hk : k' ≤ mc) (hn : n' ≤ ms)
    (steps : Steps p.tables e below (T0.setTop (F0 m pc la st0)) ((T'.setTop (F0 m pc la st)).pushFrame (.throwing x))) : ∃ t, Steps p.tables e below (T0.setTop (F0 m pc la st0)) t ∧ xa_Zt D H0 mc ms Xn Q below args s t := by
  have hcd : c.exceptionTable.toList = [] := by
    have h1 := C.2.2.2.2.2.2.2.2.2.1
    rw [hE] at h1
    exact List.map_eq_nil_iff.mp h1
  obtain ⟨l1, l2, l3, l4, l5⟩ := X'.leaveThrown x (g := F0 m pc la st) rfl rfl rfl (by rw [hcd]; intro y hy; cases hy) (hlocks := C.2.2.2.2.2.2.2.1)
  exact ⟨T'.setFrames (.throwing x :: below), steps.trans l1, .threw x, l2, l3, x, rfl, ⟨h', sz', hQ, hP'⟩, hce, l4, locs, l5.mono hk hn, hL⟩
theorem xa_callVT {idx fr lo mc ms np ci b mc' ms' : Nat} {As st0 fs : List Value} {Xn : String} {Q Q' : xa_H → Nat → Prop} (hd : decode μ.2.1 pc = .ok (.invokevirtual idx, 3)) (hE : μ.2.2.2.2 = []) (hLk : xa_LV μ.1.cls idx ν ci np) (hb : h b = some (.inr (ci, fs))) (hM : xa_T l D H0 ν fr lo mc ms (.ref b :: As) h sz Xn Q) (hst : st0 = As.reverse ++ .ref b :: st)
    (hn : As.length = np) (hw : (st.map fun v => v.category).sum ≤ 8) (hR : fr + 1 ≤ R.frames ∧ 8 + (ν.2.2.1 + 11) + lo ≤ R.locals) (hc : k + mc ≤ R.cells) (hs : n + ms ≤ R.slots) (hkm : k + mc ≤ mc') (hsm : n + ms ≤ ms') (hq : ∀ h' sz', Q h' sz' → Q' h' sz') : xa_X l D H0 μ R (xa_Zt D H0 mc' ms' Xn Q') k n h sz pc ls st0 := by
  intro p e s m args below meth c H locs la C hP hL hl T hT X
  have hP0 : xa_P D H0 h sz T.heap := by rw [hT]; exact hP
  obtain ⟨mk, vm₁, X₁, hnm, go⟩ := xa_goV (la := la) (st := st) C X hP0 hd hLk hb hst hn
  obtain ⟨x, T', locs', h', sz', X', hL', hQ, hP', hce, steps⟩ := xa_inv X₁ hM C.2.2.2.2.1 hLk.1 C.2.2.2.2.2.1 C.2.2.2.2.2.2.2.2.2.2 hP0 hL hnm (g := F0 m pc la st) rfl (by rw [C.2.2.1]; exact hl.1) (by rw [C.2.1]; exact hd) (lv_room hw) hR hc hs
  exact xa_thru C hE X' hL' (hq _ _ hQ) hP' hce hkm hsm (go _ steps)
theorem xa_callST {idx fr lo mc ms np mc' ms' : Nat} {As st0 : List Value} {Xn : String} {Q Q' : xa_H → Nat → Prop} (hd : decode μ.2.1 pc = .ok (.invokestatic idx, 3)) (hE : μ.2.2.2.2 = []) (hLk : xa_LS μ.1.cls idx ν np) (hM : xa_T l D H0 ν fr lo mc ms As h sz Xn Q) (hst : st0 = As.reverse ++ st)
    (hn : As.length = np) (hw : (st.map fun v => v.category).sum ≤ 8) (hR : fr + 1 ≤ R.frames ∧ 8 + (ν.2.2.1 + 11) + lo ≤ R.locals) (hc : k + mc ≤ R.cells) (hs : n + ms ≤ R.slots) (hkm : k + mc ≤ mc') (hsm : n + ms ≤ ms') (hq : ∀ h' sz', Q h' sz' → Q' h' sz') : xa_X l D H0 μ R (xa_Zt D H0 mc' ms' Xn Q') k n h sz pc ls st0 := by
  intro p e s m args below meth c H locs la C hP hL hl T hT X
  have hP0 : xa_P D H0 h sz T.heap := by rw [hT]; exact hP
  obtain ⟨mk, vm₁, X₁, hnm, go⟩ := xa_goS (la := la) (st := st) C X hd hLk hst hn
  obtain ⟨x, T', locs', h', sz', X', hL', hQ, hP', hce, steps⟩ := xa_inv X₁ hM C.2.2.2.2.1 hLk.1 C.2.2.2.2.2.1 C.2.2.2.2.2.2.2.2.2.2 hP0 hL hnm (g := F0 m pc la st) rfl (by rw [C.2.2.1]; exact hl.1) (by rw [C.2.1]; exact hd) (lv_room hw) hR hc hs
  exact xa_thru C hE X' hL' (hq _ _ hQ) hP' hce hkm hsm (go _ steps)
end XJ
end
section
/-! An exception that a callee throws is caught: the handlers' kinds may be unresolved still. -/
theorem xa_fg {E : CtlPost} {e : Env} {d : Bool} {acts : List Action} {u : State} {f : JFrame} {a : Addr} {Q : Handler → Pre} {y : ExceptionTableEntry} {t : List ExceptionTableEntry} {c : ClassId} {vm' : Vm} {cell : Cell} (hx : covers y f.pc = true) (h0 : y.catchType ≠ 0)
    (hg : (Jvm.resolveClass f.method.cls y.catchType).Gives e.toSetting u.vm (.ok c) vm') (hsz : vm'.classes.size ≤ u.vm.classes.size) (hcell : u.heap[a]? = some cell) (hobj : ∀ k, cell.vm ≠ .statics k) (hk : ∃ k, vm'.classes[cell.cls]? = some k) (hc : ∃ k, vm'.classes[c]? = some k) :
    wp (findHandler.go f a (y :: t)) Q E e d acts u ↔ if vm'.assignable cell.cls c = true then Q (.found y.handlerPc) d acts (u.setVm vm') else wp (findHandler.go f a t) Q E e d acts (u.setVm vm') := by
  simp only [covers] at hx
  obtain ⟨ha, ht⟩ := hg.op (op := VmOp.resolveClass f.method.cls y.catchType) rfl
  cases hfit : vm'.assignable cell.cls c <;> simp [findHandler.go, hx, h0, ha, ht, hsz, hcell, hobj, hk, hc, hfit, VmOp.dirties, VmOp.acts]
section XK
variable {l : Launch} {D : va_G} {H0 : Heap} {μ ν : xa_Mu} {R : Room} {Z : xa_Z} {k n : Nat} {h : xa_H} {sz pc : Nat} {ls : List (Nat × Value)} {st : List Value}
variable {p : Program} {e : Env} {s : State} {m : MethodId} {args : Array Value} {below : List Frame} {meth : Method} {c : Code} {T : State} {locs : List Loc}
/-- one entry of the table, its kind resolved or not -/
theorem xa_ent (hpl : e.platform.magicAccessors = ({} : Platform).magicAccessors) (hown : s.vm.findClass μ.1.cls = some m.cls) {w : Vm} (hW : s.WarmedH w) {ct : Nat} {Y : String} (hl : (Cond.classLink μ.1.cls ct Y).before args s = true) :
    ∃ cY, s.vm.findClass Y = some cY ∧ (Jvm.resolveClass m.cls ct).Gives e.toSetting w (.ok cY) (w.noted m.cls ct (.cls cY)) ∧ s.WarmedH (w.noted m.cls ct (.cls cY)) := by
  obtain ⟨cY, hf, hlk⟩ := Cond.classLink_spec hown hl e.platform hpl
  obtain ⟨dk, _, _, _, hd, _, _, _, _, _, _, hres⟩ := hlk.here
  exact ⟨cY, hf, resolveClass_links e.toSetting (hW.classLinks hlk), hW.noted hd hres (State.rightAt_cls hlk)⟩
theorem xa_srch {x : Nat} {g : JFrame} {Xn : String} {ce : Cell} {en : ExceptionTableEntry} {rest : List ExceptionTableEntry} (hpl : e.platform.magicAccessors = ({} : Platform).magicAccessors) (hown : s.vm.findClass μ.1.cls = some m.cls) (hg : g.method = m) (hcell : T.heap[x]? = some ce) (hcv : ce.vm = .none) (hcc : s.vm.findClass Xn = some ce.cls) (hself : s.vm.assignable ce.cls ce.cls = true)
    (hen : covers en g.pc = true ∧ en.catchType ≠ 0 ∧ (Cond.classLink μ.1.cls en.catchType Xn).before args s = true) :
    ∀ (pre : List ExceptionTableEntry), (∀ y ∈ pre, covers y g.pc = true ∧ y.catchType ≠ 0 ∧ ∃ Y, (Cond.classLink μ.1.cls y.catchType Y).before args s = true ∧ va_Nc Xn Y s) → ∀ w, s.WarmedH w →
      ∃ w', s.WarmedH w' ∧ ∀ (Q : Handler → Pre) (E : CtlPost) (d : Bool) (acts : List Action), wp (findHandler.go g x (pre ++ en :: rest)) Q E e d acts (((T.setVm w).setTop g).pushFrame (.throwing x)) ↔ Q (.found en.handlerPc) d acts (((T.setVm w').setTop g).pushFrame (.throwing x)) := by
  have hobj : ∀ k, ce.vm ≠ .statics k := fun k h9 => by rw [hcv] at h9; cases h9
  have hcls : ∀ {C : String} {cC : ClassId} {w : Vm}, s.WarmedH w → s.vm.findClass C = some cC → ∃ k, w.classes[cC]? = some k := fun hW hf => by
    obtain ⟨k, hk⟩ := Vm.classAt_of_findClass hf
    obtain ⟨k', hk', -⟩ := hW.alike.2.2 _ _ hk
    exact ⟨k', hk'⟩
  intro pre
  induction pre with
  | nil =>
    intro _ w hW
    obtain ⟨cY, hf, hgv, hW'⟩ := xa_ent (e := e) hpl hown hW hen.2.2
    cases hcc.symm.trans hf
    refine ⟨_, hW', fun Q E d acts => ?_⟩
    have hh := xa_fg (Q := Q) (E := E) (d := d) (acts := acts) (e := e) (u := ((T.setVm w).setTop g).pushFrame (.throwing x)) (t := rest) (vm' := w.noted m.cls en.catchType (.cls ce.cls)) (cell := ce) hen.1 hen.2.1 (by rw [hg]; exact hgv) (Nat.le_of_eq (Vm.size_note _ _ _ _)) hcell hobj (hcls hW' hcc) (hcls hW' hcc)
    rw [if_pos ((hW'.alike.assignable _ _).trans hself)] at hh
    exact hh
  | cons y t ih =>
    intro hpre w hW
    obtain ⟨h1, h2, Y, hl, cX, tY, q1, q2, q3⟩ := hpre y List.mem_cons_self
    cases hcc.symm.trans q1
    obtain ⟨cY, hf, hgv, hW'⟩ := xa_ent (e := e) hpl hown hW hl
    cases q2.symm.trans hf
    obtain ⟨w', hw', hs⟩ := ih (fun z hz => hpre z (List.mem_cons_of_mem _ hz)) _ hW'
    refine ⟨w', hw', fun Q E d acts => ?_⟩
    have hh := xa_fg (Q := Q) (E := E) (d := d) (acts := acts) (e := e) (u := ((T.setVm w).setTop g).pushFrame (.throwing x)) (t := t ++ en :: rest) (vm' := w.noted m.cls y.catchType (.cls tY)) (cell := ce) h1 h2 (by rw [hg]; exact hgv) (Nat.le_of_eq (Vm.size_note _ _ _ _)) hcell hobj (hcls hW' hcc) (hcls hW' q2)
    rw [if_neg (fun z => Bool.false_ne_true (((hW'.alike.assignable _ _).trans q3).symm.trans z))] at hh
    exact hh.trans (hs Q E d acts)
/-- the step that catches -/
theorem xa_caught {x tgt : Nat} {g : JFrame} {w w' : Vm} {target : State} (hAt : At (T.setVm w) g.method c below) (hAt' : At (T.setVm w') g.method c below) (hm : w.method? g.method = some meth) (hc : meth.code = some c)
    (hf : ∀ (Q : Handler → Pre) (E : CtlPost) (d : Bool) (acts : List Action), wp (findHandler.go g x c.exceptionTable.toList) Q E e d acts (((T.setVm w).setTop g).pushFrame (.throwing x)) ↔ Q (.found tgt) d acts (((T.setVm w').setTop g).pushFrame (.throwing x)))
    (hrest : Steps p.tables e below ((T.setVm w').setTop { g with pc := tgt, stack := [.ref x] }) target) : Steps p.tables e below (((T.setVm w).setTop g).pushFrame (.throwing x)) target := by
  have hfind : ∀ (Q : Handler → Pre) (E : CtlPost) (d : Bool) (acts : List Action), wp (findHandler g x) Q E e d acts (((T.setVm w).setTop g).pushFrame (.throwing x)) ↔ Q (.found tgt) d acts (((T.setVm w').setTop g).pushFrame (.throwing x)) := fun Q E d acts => by
    rw [W.findHandler_eq (meth := meth) (code := c) hm hc]
    exact hf Q E d acts
  have hstep : (stepThrowing e (((T.setVm w).setTop g).pushFrame (.throwing x)) x (.java g :: (T.setVm w).frames.tail)).Is ((((T.setVm w').setTop g).pushFrame (.throwing x)).setFrames (.java { g with pc := tgt, stack := [.ref x] } :: (T.setVm w).frames.tail)) [] := by
    simp only [stepThrowing, searchFrame, vmDo]
    generalize hr : Sem.go _ e false [] (((T.setVm w).setTop g).pushFrame (.throwing x)) = res
    obtain ⟨as, rfl, ha⟩ := Sem.eq_ok_of hr (a := Handler.found tgt) (s' := ((T.setVm w').setTop g).pushFrame (.throwing x)) (acts' := []) (by simp [hfind _ _ _ _])
    exact ⟨rfl, ha⟩
  obtain ⟨hgo, hwi⟩ := hAt.throwing x
  refine Steps.head hgo hwi ?_
  rw [stepThread_throwing (frames_entered hAt.top _), hstep.1]
  obtain ⟨g₀, hg0⟩ := Option.isSome_iff_exists.mp hAt'.top
  obtain ⟨r, hr⟩ := State.topJava?_eq_some.mp hg0
  have hr2 : (T.setVm w).frames = .java g₀ :: r := hr
  rw [State.pushFrame, State.setFrames_setFrames, State.setTop_of_frames _ hr, State.setFrames_setFrames, hr2]
  rw [State.setTop_of_frames _ hr] at hrest
  exact hrest
end XK
def xa_cat (H0 : Heap) (μ : xa_Mu) (pc : Nat) (Xn : String) (tgt : Nat) : Prop := Cond.castable Xn Xn ∈ xa_ws ∧ ∃ (pre : List (Nat × Nat × Nat × Nat)) (en : Nat × Nat × Nat × Nat) (rest : List (Nat × Nat × Nat × Nat)), μ.2.2.2.2 = pre ++ en :: rest ∧ en.2.2.1 = tgt ∧ (decide (en.1 ≤ pc) && decide (pc < en.2.1)) = true ∧ en.2.2.2 ≠ 0 ∧ Cond.classLink μ.1.cls en.2.2.2 Xn ∈ xa_ws ∧
  ∀ y ∈ pre, (decide (y.1 ≤ pc) && decide (pc < y.2.1)) = true ∧ y.2.2.2 ≠ 0 ∧ ∃ Y, Cond.classLink μ.1.cls y.2.2.2 Y ∈ xa_ws ∧ ∀ U, xa_N H0 U → va_Nc Xn Y U
section XL
variable {l : Launch} {D : va_G} {H0 : Heap} {μ ν : xa_Mu} {R : Room} {Z : xa_Z} {k n : Nat} {h : xa_H} {sz pc : Nat} {ls : List (Nat × Value)} {st : List Value}
theorem xa_callVC {idx fr lo mc ms np ci b tgt : Nat} {As st0 fs : List Value} {Xn : String} {Q : xa_H → Nat → Prop} (hd : decode μ.2.1 pc = .ok (.invokevirtual idx, 3)) (hcat : xa_cat H0 μ pc Xn tgt) (hLk : xa_LV μ.1.cls idx ν ci np) (hb : h b = some (.inr (ci, fs))) (hM : xa_T l D H0 ν fr lo mc ms (.ref b :: As) h sz Xn Q) (hst : st0 = As.reverse ++ .ref b :: st)
    (hn : As.length = np) (hw : (st.map fun v => v.category).sum ≤ 8) (hR : fr + 1 ≤ R.frames ∧ 8 + (ν.2.2.1 + 11) + lo ≤ R.locals) (hc : k + mc ≤ R.cells) (hs : n + ms ≤ R.slots) (kk : ∀ (x : Nat) (h' : xa_H) (sz' : Nat), Q h' sz' → xa_X l D H0 μ R Z (k + mc) (n + ms) h' sz' tgt ls [.ref x]) : xa_X l D H0 μ R Z k n h sz pc ls st0 := by
  intro p e s m args below meth c H locs la C hP hL hl T hT X
  have hP0 : xa_P D H0 h sz T.heap := by rw [hT]; exact hP
  obtain ⟨mk, vm₁, X₁, hnm, go⟩ := xa_goV (la := la) (st := st) C X hP0 hd hLk hb hst hn
  obtain ⟨x, T', locs', h', sz', X', hL', hQ, hP', ⟨ce, hce, hcv, hcc⟩, steps⟩ := xa_inv X₁ hM C.2.2.2.2.1 hLk.1 C.2.2.2.2.2.1 C.2.2.2.2.2.2.2.2.2.2 hP0 hL hnm (g := F0 m pc la st) rfl (by rw [C.2.2.1]; exact hl.1) (by rw [C.2.1]; exact hd) (lv_room hw) hR hc hs
  obtain ⟨hcast, pre, en, rest, htab, htgt, hcov, hct, hcl, hpre⟩ := hcat
  have hts := C.2.2.2.2.1
  have hpl : e.platform.magicAccessors = ({} : Platform).magicAccessors := by rw [X.admits.platform]
  have hself : s.vm.assignable ce.cls ce.cls = true := by
    obtain ⟨c3, c4, hc3, hc4, hasg⟩ := Cond.castable_spec (hts _ hcast)
    cases hcc.symm.trans hc3
    cases hcc.symm.trans hc4
    exact hasg
  have htb := C.2.2.2.2.2.2.2.2.2.1
  rw [htab] at htb
  obtain ⟨pre', r1, e1, e2, e3⟩ := List.map_eq_append_iff.mp htb
  obtain ⟨en', rest', e4, e5, e6⟩ := List.map_eq_cons_iff.mp e3
  subst e5
  obtain ⟨w', hw', hsr⟩ := xa_srch (μ := μ) (args := args) (T := T') (g := F0 m pc la st) (x := x) (en := en') (rest := rest') hpl C.2.2.2.1 rfl hce hcv hcc hself ⟨hcov, hct, hts _ hcl⟩ pre' (fun y hy => by
    have h1 := hpre _ (by rw [← e2]; exact List.mem_map.mpr ⟨y, hy, rfl⟩)
    obtain ⟨a1, a2, Y, a3, a4⟩ := h1
    exact ⟨a1, a2, Y, hts _ a3, a4 s C.2.2.2.2.2.2.2.2.2.2⟩) T'.vm X'.warmed
  have X2 := X'.noted hw'
  obtain ⟨t2, b1, b2⟩ := kk x h' sz' hQ p e s m args below meth c T'.heap locs' la C hP' hL' hl (T'.setVm w') rfl X2
  refine ⟨t2, go _ (steps.trans ?_), b2⟩
  refine xa_caught (T := T') (w := T'.vm) (w' := w') (g := F0 m pc la st) (meth := meth) (c := c) (tgt := tgt) X'.here X2.here X'.method' X'.code (fun Q E d acts => ?_) b1
  rw [e1, e4, ← htgt]
  exact hsr Q E d acts
end XL
end
section
/-! More rows: array loads with a named value, comparisons of naturals with nought. -/
section XM
variable {l : Launch} {D : va_G} {H0 : Heap} {μ : xa_Mu} {R : Room} {Z : xa_Z} {k n : Nat} {h : xa_H} {sz pc : Nat} {ls : List (Nat × Value)} {st : List Value}
theorem xa_int {x y : Int32} (e : x = y) (kk : xa_X l D H0 μ R Z k n h sz pc ls (.int y :: st)) : xa_X l D H0 μ R Z k n h sz pc ls (.int x :: st) := by subst e; exact kk
theorem xa_heap {h' : xa_H} (e : h = h') (kk : xa_X l D H0 μ R Z k n h' sz pc ls st) : xa_X l D H0 μ R Z k n h sz pc ls st := by subst e; exact kk
theorem xa_ialdE {a N j : Nat} {f : Nat → Int32} {i x : Int32} (hd : decode μ.2.1 pc = .ok (.iaload, 1)) (ha : h a = some (.inl (D.1 100, N, .inl f))) (hi : i = nI j) (hj : j < N) (hN : N < 2 ^ 31) (hx : f j = x) (kk : xa_X l D H0 μ R Z k n h sz (pc + 1) ls (.int x :: st)) : xa_X l D H0 μ R Z k n h sz pc ls (.int i :: .ref a :: st) := xa_iald hd ha hj hi hN (by rw [hx]; exact kk)
theorem xa_laldE {a N j : Nat} {f : Nat → Int64} {i : Int32} {x : Int64} (hd : decode μ.2.1 pc = .ok (.laload, 1)) (ha : h a = some (.inl (D.1 101, N, .inr (.inl f)))) (hi : i = nI j) (hj : j < N) (hN : N < 2 ^ 31) (hx : f j = x) (kk : xa_X l D H0 μ R Z k n h sz (pc + 1) ls (.long x :: st)) : xa_X l D H0 μ R Z k n h sz pc ls (.int i :: .ref a :: st) := xa_lald hd ha hj hi hN (by rw [hx]; exact kk)
theorem xa_zaldE {a N j : Nat} {f : Nat → Int32} {i x : Int32} (hd : decode μ.2.1 pc = .ok (.baload, 1)) (ha : h a = some (.inl (D.1 102, N, .inl f))) (hi : i = nI j) (hj : j < N) (hN : N < 2 ^ 31) (hx : f j = x) (kk : xa_X l D H0 μ R Z k n h sz (pc + 1) ls (.int x :: st)) : xa_X l D H0 μ R Z k n h sz pc ls (.int i :: .ref a :: st) := xa_zald hd ha hj hi hN (by rw [hx]; exact kk)
theorem xa_baldE {a N j : Nat} {f : Nat → Int32} {i x : Int32} (hd : decode μ.2.1 pc = .ok (.baload, 1)) (ha : h a = some (.inl (D.1 104, N, .inl f))) (hi : i = nI j) (hj : j < N) (hN : N < 2 ^ 31) (hx : f j = x) (kk : xa_X l D H0 μ R Z k n h sz (pc + 1) ls (.int x :: st)) : xa_X l D H0 μ R Z k n h sz pc ls (.int i :: .ref a :: st) := xa_bald hd ha hj hi hN (by rw [hx]; exact kk)
theorem xa_qaldE {a N j : Nat} {f : Nat → Option Nat} {i : Int32} {x : Option Nat} (hd : decode μ.2.1 pc = .ok (.aaload, 1)) (ha : h a = some (.inl (D.1 103, N, .inr (.inr (.inr (.inr f)))))) (hi : i = nI j) (hj : j < N) (hN : N < 2 ^ 31) (hx : f j = x) (kk : xa_X l D H0 μ R Z k n h sz (pc + 1) ls (va_rf x :: st)) : xa_X l D H0 μ R Z k n h sz pc ls (.int i :: .ref a :: st) := xa_qald hd ha hj hi hN (by rw [hx]; exact kk)
theorem xa_iastE {a N j : Nat} {f : Nat → Int32} {i x : Int32} (hd : decode μ.2.1 pc = .ok (.iastore, 1)) (ha : h a = some (.inl (D.1 100, N, .inl f))) (hi : i = nI j) (hj : j < N) (hN : N < 2 ^ 31) (kk : xa_X l D H0 μ R Z k n (xa_u h a (.inl (D.1 100, N, .inl (upd f j x)))) sz (pc + 1) ls st) : xa_X l D H0 μ R Z k n h sz pc ls (.int x :: .int i :: .ref a :: st) := xa_iast hd ha hj hi hN kk
theorem xa_if_leN {a : Nat} {off : Int} {tgt : Nat} (hd : decode μ.2.1 pc = .ok (.ifCond .le off, 3)) (ht : (pc : Int) + off = (tgt : Int)) (ha : a < 2 ^ 31) (kt : a = 0 → xa_X l D H0 μ R Z k n h sz tgt ls st) (kf : 0 < a → xa_X l D H0 μ R Z k n h sz (pc + 3) ls st) : xa_X l D H0 μ R Z k n h sz pc ls (.int (nI a) :: st) :=
  xa_if_le hd ht (fun q => kt ((Nat.eq_zero_or_pos a).elim (fun h0 => h0) (fun h0 => absurd q (nI_nle h0 ha)))) (fun q => kf ((Nat.eq_zero_or_pos a).elim (fun h0 => absurd (by rw [h0]; decide) q) (fun h0 => h0)))
theorem xa_if_gtN {a : Nat} {off : Int} {tgt : Nat} (hd : decode μ.2.1 pc = .ok (.ifCond .gt off, 3)) (ht : (pc : Int) + off = (tgt : Int)) (ha : a < 2 ^ 31) (kt : 0 < a → xa_X l D H0 μ R Z k n h sz tgt ls st) (kf : a = 0 → xa_X l D H0 μ R Z k n h sz (pc + 3) ls st) : xa_X l D H0 μ R Z k n h sz pc ls (.int (nI a) :: st) :=
  xa_if_gt hd ht (fun q => kt ((Nat.eq_zero_or_pos a).elim (fun h0 => absurd q (by rw [h0]; decide)) (fun h0 => h0))) (fun q => kf ((Nat.eq_zero_or_pos a).elim (fun h0 => h0) (fun h0 => absurd (by have h1 := nI_lt h0 ha; rw [nI_0] at h1; exact h1) q)))
theorem xa_if_eqN {a : Nat} {off : Int} {tgt : Nat} (hd : decode μ.2.1 pc = .ok (.ifCond .eq off, 3)) (ht : (pc : Int) + off = (tgt : Int)) (ha : a < 2 ^ 31) (kt : a = 0 → xa_X l D H0 μ R Z k n h sz tgt ls st) (kf : 0 < a → xa_X l D H0 μ R Z k n h sz (pc + 3) ls st) : xa_X l D H0 μ R Z k n h sz pc ls (.int (nI a) :: st) :=
  xa_if_eq hd ht (fun q => kt ((Nat.eq_zero_or_pos a).elim (fun h0 => h0) (fun h0 => absurd q (nI_ne0 h0 ha)))) (fun q => kf ((Nat.eq_zero_or_pos a).elim (fun h0 => absurd (by rw [h0]; decide) q) (fun h0 => h0)))
theorem xa_if_neN {a : Nat} {off : Int} {tgt : Nat} (hd : decode μ.2.1 pc = .ok (.ifCond .ne off, 3)) (ht : (pc : Int) + off = (tgt : Int)) (ha : a < 2 ^ 31) (kt : 0 < a → xa_X l D H0 μ R Z k n h sz tgt ls st) (kf : a = 0 → xa_X l D H0 μ R Z k n h sz (pc + 3) ls st) : xa_X l D H0 μ R Z k n h sz pc ls (.int (nI a) :: st) :=
  xa_if_ne hd ht (fun q => kt ((Nat.eq_zero_or_pos a).elim (fun h0 => absurd (by rw [h0]; decide) q) (fun h0 => h0))) (fun q => kf ((Nat.eq_zero_or_pos a).elim (fun h0 => h0) (fun h0 => absurd q (nI_ne0 h0 ha))))
end XM
end
section
/-! Links, printed. -/
set_option maxRecDepth 20000 in
theorem kd_SB : xa_Kd 0 ("StoneBoard", TX_SB, 8) := by
  refine ⟨rfl, ?_, ⟨ty_SB, by decide +kernel⟩, by decide +kernel⟩
  intro w hw
  obtain ⟨k, hk, rfl⟩ := List.mem_map.mp hw
  have hk : k < 8 := List.mem_range.mp hk
  rcases (show k = 0 ∨ k = 1 ∨ k = 2 ∨ k = 3 ∨ k = 4 ∨ k = 5 ∨ k = 6 ∨ k = 7 by omega) with rfl | rfl | rfl | rfl | rfl | rfl | rfl | rfl
  · exact (xa_m2 50 rfl rfl)
  · exact (xa_m2 52 rfl rfl)
  · exact (xa_m2 54 rfl rfl)
  · exact (xa_m2 56 rfl rfl)
  · exact (xa_m2 58 rfl rfl)
  · exact (xa_m2 60 rfl rfl)
  · exact (xa_m2 62 rfl rfl)
  · exact (xa_m2 64 rfl rfl)
set_option maxRecDepth 20000 in
theorem kd_Areas : xa_Kd 1 ("StoneBoard$Areas", TX_Areas, 5) := by
  refine ⟨rfl, ?_, ⟨ty_Areas, by decide +kernel⟩, by decide +kernel⟩
  intro w hw
  obtain ⟨k, hk, rfl⟩ := List.mem_map.mp hw
  have hk : k < 5 := List.mem_range.mp hk
  rcases (show k = 0 ∨ k = 1 ∨ k = 2 ∨ k = 3 ∨ k = 4 by omega) with rfl | rfl | rfl | rfl | rfl
  · exact (xa_m1 72 rfl rfl)
  · exact (xa_m1 74 rfl rfl)
  · exact (xa_m1 76 rfl rfl)
  · exact (xa_m1 78 rfl rfl)
  · exact (xa_m1 80 rfl rfl)
set_option maxRecDepth 20000 in
theorem kd_Chart : xa_Kd 2 ("StoneBoard$Chart", TX_Chart, 7) := by
  refine ⟨rfl, ?_, ⟨ty_Chart, by decide +kernel⟩, by decide +kernel⟩
  intro w hw
  obtain ⟨k, hk, rfl⟩ := List.mem_map.mp hw
  have hk : k < 7 := List.mem_range.mp hk
  rcases (show k = 0 ∨ k = 1 ∨ k = 2 ∨ k = 3 ∨ k = 4 ∨ k = 5 ∨ k = 6 by omega) with rfl | rfl | rfl | rfl | rfl | rfl | rfl
  · exact (xa_m1 141 rfl rfl)
  · exact (xa_m1 143 rfl rfl)
  · exact (xa_m1 145 rfl rfl)
  · exact (xa_m1 147 rfl rfl)
  · exact (xa_m1 149 rfl rfl)
  · exact (xa_m1 151 rfl rfl)
  · exact (xa_m1 153 rfl rfl)
set_option maxRecDepth 20000 in
theorem kd_Grid : xa_Kd 3 ("StoneBoard$Grid", TX_Grid, 2) := by
  refine ⟨rfl, ?_, ⟨ty_Grid, by decide +kernel⟩, by decide +kernel⟩
  intro w hw
  obtain ⟨k, hk, rfl⟩ := List.mem_map.mp hw
  have hk : k < 2 := List.mem_range.mp hk
  rcases (show k = 0 ∨ k = 1 by omega) with rfl | rfl
  · exact (xa_m1 47 rfl rfl)
  · exact (xa_m1 49 rfl rfl)
set_option maxRecDepth 20000 in
theorem kd_History : xa_Kd 4 ("StoneBoard$History", TX_History, 2) := by
  refine ⟨rfl, ?_, ⟨ty_History, by decide +kernel⟩, by decide +kernel⟩
  intro w hw
  obtain ⟨k, hk, rfl⟩ := List.mem_map.mp hw
  have hk : k < 2 := List.mem_range.mp hk
  rcases (show k = 0 ∨ k = 1 by omega) with rfl | rfl
  · exact (xa_m2 6 rfl rfl)
  · exact (xa_m2 8 rfl rfl)
set_option maxRecDepth 20000 in
theorem kd_Life : xa_Kd 5 ("StoneBoard$Life", TX_Life, 7) := by
  refine ⟨rfl, ?_, ⟨ty_Life, by decide +kernel⟩, by decide +kernel⟩
  intro w hw
  obtain ⟨k, hk, rfl⟩ := List.mem_map.mp hw
  have hk : k < 7 := List.mem_range.mp hk
  rcases (show k = 0 ∨ k = 1 ∨ k = 2 ∨ k = 3 ∨ k = 4 ∨ k = 5 ∨ k = 6 by omega) with rfl | rfl | rfl | rfl | rfl | rfl | rfl
  · exact (xa_m2 26 rfl rfl)
  · exact (xa_m2 28 rfl rfl)
  · exact (xa_m2 30 rfl rfl)
  · exact (xa_m2 32 rfl rfl)
  · exact (xa_m2 34 rfl rfl)
  · exact (xa_m2 36 rfl rfl)
  · exact (xa_m2 38 rfl rfl)
set_option maxRecDepth 20000 in
theorem kd_Pos : xa_Kd 6 ("StoneBoard$Position", TX_Pos, 7) := by
  refine ⟨rfl, ?_, ⟨ty_Pos, by decide +kernel⟩, by decide +kernel⟩
  intro w hw
  obtain ⟨k, hk, rfl⟩ := List.mem_map.mp hw
  have hk : k < 7 := List.mem_range.mp hk
  rcases (show k = 0 ∨ k = 1 ∨ k = 2 ∨ k = 3 ∨ k = 4 ∨ k = 5 ∨ k = 6 by omega) with rfl | rfl | rfl | rfl | rfl | rfl | rfl
  · exact (xa_m1 228 rfl rfl)
  · exact (xa_m1 230 rfl rfl)
  · exact (xa_m1 232 rfl rfl)
  · exact (xa_m1 234 rfl rfl)
  · exact (xa_m1 236 rfl rfl)
  · exact (xa_m1 238 rfl rfl)
  · exact (xa_m2 0 rfl rfl)
set_option maxRecDepth 20000 in
theorem kd_Trial : xa_Kd 7 ("StoneBoard$Trial", TX_Trial, 6) := by
  refine ⟨rfl, ?_, ⟨ty_Trial, by decide +kernel⟩, by decide +kernel⟩
  intro w hw
  obtain ⟨k, hk, rfl⟩ := List.mem_map.mp hw
  have hk : k < 6 := List.mem_range.mp hk
  rcases (show k = 0 ∨ k = 1 ∨ k = 2 ∨ k = 3 ∨ k = 4 ∨ k = 5 by omega) with rfl | rfl | rfl | rfl | rfl | rfl
  · exact (xa_m1 174 rfl rfl)
  · exact (xa_m1 176 rfl rfl)
  · exact (xa_m1 178 rfl rfl)
  · exact (xa_m1 180 rfl rfl)
  · exact (xa_m1 182 rfl rfl)
  · exact (xa_m1 184 rfl rfl)
set_option maxRecDepth 20000 in
theorem kd_Ref : xa_Kd 8 ("StoneBoardModel", TX_Ref, 24) := by
  refine ⟨rfl, ?_, ⟨ty_Ref, by decide +kernel⟩, by decide +kernel⟩
  intro w hw
  obtain ⟨k, hk, rfl⟩ := List.mem_map.mp hw
  have hk : k < 24 := List.mem_range.mp hk
  rcases (show k = 0 ∨ k = 1 ∨ k = 2 ∨ k = 3 ∨ k = 4 ∨ k = 5 ∨ k = 6 ∨ k = 7 ∨ k = 8 ∨ k = 9 ∨ k = 10 ∨ k = 11 ∨ k = 12 ∨ k = 13 ∨ k = 14 ∨ k = 15 ∨ k = 16 ∨ k = 17 ∨ k = 18 ∨ k = 19 ∨ k = 20 ∨ k = 21 ∨ k = 22 ∨ k = 23 by omega) with rfl | rfl | rfl | rfl | rfl | rfl | rfl | rfl | rfl | rfl | rfl | rfl | rfl | rfl | rfl | rfl | rfl | rfl | rfl | rfl | rfl | rfl | rfl | rfl
  · exact (xa_m4 49 rfl rfl)
  · exact (xa_m4 51 rfl rfl)
  · exact (xa_m4 53 rfl rfl)
  · exact (xa_m4 55 rfl rfl)
  · exact (xa_m4 57 rfl rfl)
  · exact (xa_m4 59 rfl rfl)
  · exact (xa_m4 61 rfl rfl)
  · exact (xa_m4 63 rfl rfl)
  · exact (xa_m4 65 rfl rfl)
  · exact (xa_m4 67 rfl rfl)
  · exact (xa_m4 69 rfl rfl)
  · exact (xa_m4 71 rfl rfl)
  · exact (xa_m4 73 rfl rfl)
  · exact (xa_m4 75 rfl rfl)
  · exact (xa_m4 77 rfl rfl)
  · exact (xa_m4 79 rfl rfl)
  · exact (xa_m4 81 rfl rfl)
  · exact (xa_m4 83 rfl rfl)
  · exact (xa_m4 85 rfl rfl)
  · exact (xa_m4 87 rfl rfl)
  · exact (xa_m4 89 rfl rfl)
  · exact (xa_m4 91 rfl rfl)
  · exact (xa_m4 93 rfl rfl)
  · exact (xa_m4 95 rfl rfl)
theorem f_Grid_9 : xa_FL "StoneBoard$Grid" 9 3 0 true (.int) := ⟨_, kd_Grid, (by decide), (xa_m1 40 rfl rfl), rfl, (by decide +kernel)⟩
theorem f_Areas_15 : xa_FL "StoneBoard$Areas" 15 3 0 true (.int) := ⟨_, kd_Grid, (by decide), (xa_m1 41 rfl rfl), rfl, (by decide +kernel)⟩
theorem f_Life_19 : xa_FL "StoneBoard$Life" 19 3 0 true (.int) := ⟨_, kd_Grid, (by decide), (xa_m1 42 rfl rfl), rfl, (by decide +kernel)⟩
theorem f_Trial_23 : xa_FL "StoneBoard$Trial" 23 3 0 true (.int) := ⟨_, kd_Grid, (by decide), (xa_m1 43 rfl rfl), rfl, (by decide +kernel)⟩
theorem f_SB_23 : xa_FL "StoneBoard" 23 3 0 true (.int) := ⟨_, kd_Grid, (by decide), (xa_m1 44 rfl rfl), rfl, (by decide +kernel)⟩
theorem f_Chart_28 : xa_FL "StoneBoard$Chart" 28 3 0 true (.int) := ⟨_, kd_Grid, (by decide), (xa_m1 45 rfl rfl), rfl, (by decide +kernel)⟩
theorem f_Grid_15 : xa_FL "StoneBoard$Grid" 15 3 1 true (.array .int) := ⟨_, kd_Grid, (by decide), (xa_m1 46 rfl rfl), rfl, (by decide +kernel)⟩
theorem f_Areas_37 : xa_FL "StoneBoard$Areas" 37 1 0 false (.int) := ⟨_, kd_Areas, (by decide), (xa_m1 65 rfl rfl), rfl, (by decide +kernel)⟩
theorem f_Chart_59 : xa_FL "StoneBoard$Chart" 59 1 0 false (.int) := ⟨_, kd_Areas, (by decide), (xa_m1 66 rfl rfl), rfl, (by decide +kernel)⟩
theorem f_Life_51 : xa_FL "StoneBoard$Life" 51 1 0 false (.int) := ⟨_, kd_Areas, (by decide), (xa_m1 67 rfl rfl), rfl, (by decide +kernel)⟩
theorem f_Areas_9 : xa_FL "StoneBoard$Areas" 9 1 1 true (.object "StoneBoard$Grid") := ⟨_, kd_Areas, (by decide), (xa_m1 68 rfl rfl), rfl, (by decide +kernel)⟩
theorem f_Areas_21 : xa_FL "StoneBoard$Areas" 21 1 2 true (.array .int) := ⟨_, kd_Areas, (by decide), (xa_m1 69 rfl rfl), rfl, (by decide +kernel)⟩
theorem f_Areas_25 : xa_FL "StoneBoard$Areas" 25 1 3 true (.array .int) := ⟨_, kd_Areas, (by decide), (xa_m1 70 rfl rfl), rfl, (by decide +kernel)⟩
theorem f_Areas_28 : xa_FL "StoneBoard$Areas" 28 1 4 true (.array .int) := ⟨_, kd_Areas, (by decide), (xa_m1 71 rfl rfl), rfl, (by decide +kernel)⟩
theorem f_Chart_24 : xa_FL "StoneBoard$Chart" 24 2 0 true (.object "StoneBoard$Areas") := ⟨_, kd_Chart, (by decide), (xa_m1 132 rfl rfl), rfl, (by decide +kernel)⟩
theorem f_Trial_79 : xa_FL "StoneBoard$Trial" 79 2 0 true (.object "StoneBoard$Areas") := ⟨_, kd_Chart, (by decide), (xa_m1 133 rfl rfl), rfl, (by decide +kernel)⟩
theorem f_SB_159 : xa_FL "StoneBoard" 159 2 0 true (.object "StoneBoard$Areas") := ⟨_, kd_Chart, (by decide), (xa_m1 134 rfl rfl), rfl, (by decide +kernel)⟩
theorem f_Chart_9 : xa_FL "StoneBoard$Chart" 9 2 1 true (.object "StoneBoard$Grid") := ⟨_, kd_Chart, (by decide), (xa_m1 135 rfl rfl), rfl, (by decide +kernel)⟩
theorem f_Chart_15 : xa_FL "StoneBoard$Chart" 15 2 2 true (.array .int) := ⟨_, kd_Chart, (by decide), (xa_m1 136 rfl rfl), rfl, (by decide +kernel)⟩
theorem f_Chart_34 : xa_FL "StoneBoard$Chart" 34 2 3 true (.array .int) := ⟨_, kd_Chart, (by decide), (xa_m1 137 rfl rfl), rfl, (by decide +kernel)⟩
theorem f_Chart_37 : xa_FL "StoneBoard$Chart" 37 2 4 true (.array .int) := ⟨_, kd_Chart, (by decide), (xa_m1 138 rfl rfl), rfl, (by decide +kernel)⟩
theorem f_Chart_40 : xa_FL "StoneBoard$Chart" 40 2 5 true (.array .int) := ⟨_, kd_Chart, (by decide), (xa_m1 139 rfl rfl), rfl, (by decide +kernel)⟩
theorem f_Chart_43 : xa_FL "StoneBoard$Chart" 43 2 6 true (.array .int) := ⟨_, kd_Chart, (by decide), (xa_m1 140 rfl rfl), rfl, (by decide +kernel)⟩
theorem f_Trial_35 : xa_FL "StoneBoard$Trial" 35 7 0 true (.array .long) := ⟨_, kd_Trial, (by decide), (xa_m1 165 rfl rfl), rfl, (by decide +kernel)⟩
theorem f_SB_118 : xa_FL "StoneBoard" 118 7 0 true (.array .long) := ⟨_, kd_Trial, (by decide), (xa_m1 166 rfl rfl), rfl, (by decide +kernel)⟩
theorem f_Trial_49 : xa_FL "StoneBoard$Trial" 49 7 1 false (.int) := ⟨_, kd_Trial, (by decide), (xa_m1 167 rfl rfl), rfl, (by decide +kernel)⟩
theorem f_SB_125 : xa_FL "StoneBoard" 125 7 1 false (.int) := ⟨_, kd_Trial, (by decide), (xa_m1 168 rfl rfl), rfl, (by decide +kernel)⟩
theorem f_Trial_56 : xa_FL "StoneBoard$Trial" 56 7 2 false (.int) := ⟨_, kd_Trial, (by decide), (xa_m1 169 rfl rfl), rfl, (by decide +kernel)⟩
theorem f_SB_122 : xa_FL "StoneBoard" 122 7 2 false (.int) := ⟨_, kd_Trial, (by decide), (xa_m1 170 rfl rfl), rfl, (by decide +kernel)⟩
theorem f_Trial_9 : xa_FL "StoneBoard$Trial" 9 7 3 true (.object "StoneBoard$Grid") := ⟨_, kd_Trial, (by decide), (xa_m1 171 rfl rfl), rfl, (by decide +kernel)⟩
theorem f_Trial_15 : xa_FL "StoneBoard$Trial" 15 7 4 true (.array .int) := ⟨_, kd_Trial, (by decide), (xa_m1 172 rfl rfl), rfl, (by decide +kernel)⟩
theorem f_Trial_19 : xa_FL "StoneBoard$Trial" 19 7 5 true (.object "StoneBoard$Chart") := ⟨_, kd_Trial, (by decide), (xa_m1 173 rfl rfl), rfl, (by decide +kernel)⟩
theorem f_Pos_7 : xa_FL "StoneBoard$Position" 7 6 0 true (.object "StoneBoard$Position") := ⟨_, kd_Pos, (by decide), (xa_m1 210 rfl rfl), rfl, (by decide +kernel)⟩
theorem f_History_55 : xa_FL "StoneBoard$History" 55 6 0 true (.object "StoneBoard$Position") := ⟨_, kd_Pos, (by decide), (xa_m1 211 rfl rfl), rfl, (by decide +kernel)⟩
theorem f_Pos_13 : xa_FL "StoneBoard$Position" 13 6 1 true (.object "StoneBoard$Position") := ⟨_, kd_Pos, (by decide), (xa_m1 212 rfl rfl), rfl, (by decide +kernel)⟩
theorem f_History_69 : xa_FL "StoneBoard$History" 69 6 1 true (.object "StoneBoard$Position") := ⟨_, kd_Pos, (by decide), (xa_m1 213 rfl rfl), rfl, (by decide +kernel)⟩
theorem f_Pos_16 : xa_FL "StoneBoard$Position" 16 6 2 true (.array .long) := ⟨_, kd_Pos, (by decide), (xa_m1 214 rfl rfl), rfl, (by decide +kernel)⟩
theorem f_History_31 : xa_FL "StoneBoard$History" 31 6 2 true (.array .long) := ⟨_, kd_Pos, (by decide), (xa_m1 215 rfl rfl), rfl, (by decide +kernel)⟩
theorem f_SB_204 : xa_FL "StoneBoard" 204 6 2 true (.array .long) := ⟨_, kd_Pos, (by decide), (xa_m1 216 rfl rfl), rfl, (by decide +kernel)⟩
theorem f_Pos_20 : xa_FL "StoneBoard$Position" 20 6 3 true (.int) := ⟨_, kd_Pos, (by decide), (xa_m1 217 rfl rfl), rfl, (by decide +kernel)⟩
theorem f_SB_100 : xa_FL "StoneBoard" 100 6 3 true (.int) := ⟨_, kd_Pos, (by decide), (xa_m1 218 rfl rfl), rfl, (by decide +kernel)⟩
theorem f_History_72 : xa_FL "StoneBoard$History" 72 6 3 true (.int) := ⟨_, kd_Pos, (by decide), (xa_m1 219 rfl rfl), rfl, (by decide +kernel)⟩
theorem f_Pos_24 : xa_FL "StoneBoard$Position" 24 6 4 true (.int) := ⟨_, kd_Pos, (by decide), (xa_m1 220 rfl rfl), rfl, (by decide +kernel)⟩
theorem f_History_58 : xa_FL "StoneBoard$History" 58 6 4 true (.int) := ⟨_, kd_Pos, (by decide), (xa_m1 221 rfl rfl), rfl, (by decide +kernel)⟩
theorem f_Pos_27 : xa_FL "StoneBoard$Position" 27 6 5 true (.int) := ⟨_, kd_Pos, (by decide), (xa_m1 222 rfl rfl), rfl, (by decide +kernel)⟩
theorem f_History_48 : xa_FL "StoneBoard$History" 48 6 5 true (.int) := ⟨_, kd_Pos, (by decide), (xa_m1 223 rfl rfl), rfl, (by decide +kernel)⟩
theorem f_SB_150 : xa_FL "StoneBoard" 150 6 5 true (.int) := ⟨_, kd_Pos, (by decide), (xa_m1 224 rfl rfl), rfl, (by decide +kernel)⟩
theorem f_Pos_30 : xa_FL "StoneBoard$Position" 30 6 6 true (.int) := ⟨_, kd_Pos, (by decide), (xa_m1 225 rfl rfl), rfl, (by decide +kernel)⟩
theorem f_History_52 : xa_FL "StoneBoard$History" 52 6 6 true (.int) := ⟨_, kd_Pos, (by decide), (xa_m1 226 rfl rfl), rfl, (by decide +kernel)⟩
theorem f_SB_153 : xa_FL "StoneBoard" 153 6 6 true (.int) := ⟨_, kd_Pos, (by decide), (xa_m1 227 rfl rfl), rfl, (by decide +kernel)⟩
theorem f_History_27 : xa_FL "StoneBoard$History" 27 4 0 false (.object "StoneBoard$Position") := ⟨_, kd_History, (by decide), (xa_m2 3 rfl rfl), rfl, (by decide +kernel)⟩
theorem f_SB_96 : xa_FL "StoneBoard" 96 4 0 false (.object "StoneBoard$Position") := ⟨_, kd_History, (by decide), (xa_m2 4 rfl rfl), rfl, (by decide +kernel)⟩
theorem f_History_13 : xa_FL "StoneBoard$History" 13 4 1 true (.array (.object "StoneBoard$Position")) := ⟨_, kd_History, (by decide), (xa_m2 5 rfl rfl), rfl, (by decide +kernel)⟩
theorem f_Life_9 : xa_FL "StoneBoard$Life" 9 5 0 true (.object "StoneBoard$Grid") := ⟨_, kd_Life, (by decide), (xa_m2 19 rfl rfl), rfl, (by decide +kernel)⟩
theorem f_Life_15 : xa_FL "StoneBoard$Life" 15 5 1 true (.array .int) := ⟨_, kd_Life, (by decide), (xa_m2 20 rfl rfl), rfl, (by decide +kernel)⟩
theorem f_Life_25 : xa_FL "StoneBoard$Life" 25 5 2 true (.array .int) := ⟨_, kd_Life, (by decide), (xa_m2 21 rfl rfl), rfl, (by decide +kernel)⟩
theorem f_Life_33 : xa_FL "StoneBoard$Life" 33 5 3 true (.object "StoneBoard$Areas") := ⟨_, kd_Life, (by decide), (xa_m2 22 rfl rfl), rfl, (by decide +kernel)⟩
theorem f_Life_37 : xa_FL "StoneBoard$Life" 37 5 4 true (.array .boolean) := ⟨_, kd_Life, (by decide), (xa_m2 23 rfl rfl), rfl, (by decide +kernel)⟩
theorem f_Life_41 : xa_FL "StoneBoard$Life" 41 5 5 true (.array .int) := ⟨_, kd_Life, (by decide), (xa_m2 24 rfl rfl), rfl, (by decide +kernel)⟩
theorem f_Life_44 : xa_FL "StoneBoard$Life" 44 5 6 true (.array .int) := ⟨_, kd_Life, (by decide), (xa_m2 25 rfl rfl), rfl, (by decide +kernel)⟩
theorem f_SB_27 : xa_FL "StoneBoard" 27 0 0 true (.int) := ⟨_, kd_SB, (by decide), (xa_m2 42 rfl rfl), rfl, (by decide +kernel)⟩
theorem f_SB_30 : xa_FL "StoneBoard" 30 0 1 true (.object "StoneBoard$Grid") := ⟨_, kd_SB, (by decide), (xa_m2 43 rfl rfl), rfl, (by decide +kernel)⟩
theorem f_SB_34 : xa_FL "StoneBoard" 34 0 2 true (.array .int) := ⟨_, kd_SB, (by decide), (xa_m2 44 rfl rfl), rfl, (by decide +kernel)⟩
theorem f_SB_43 : xa_FL "StoneBoard" 43 0 3 true (.object "StoneBoard$Chart") := ⟨_, kd_SB, (by decide), (xa_m2 45 rfl rfl), rfl, (by decide +kernel)⟩
theorem f_SB_52 : xa_FL "StoneBoard" 52 0 4 true (.object "StoneBoard$Trial") := ⟨_, kd_SB, (by decide), (xa_m2 46 rfl rfl), rfl, (by decide +kernel)⟩
theorem f_SB_59 : xa_FL "StoneBoard" 59 0 5 true (.object "StoneBoard$History") := ⟨_, kd_SB, (by decide), (xa_m2 47 rfl rfl), rfl, (by decide +kernel)⟩
theorem f_SB_66 : xa_FL "StoneBoard" 66 0 6 true (.object "StoneBoard$Life") := ⟨_, kd_SB, (by decide), (xa_m2 48 rfl rfl), rfl, (by decide +kernel)⟩
theorem f_SB_70 : xa_FL "StoneBoard" 70 0 7 false (.int) := ⟨_, kd_SB, (by decide), (xa_m2 49 rfl rfl), rfl, (by decide +kernel)⟩
theorem f_Ref_65 : xa_FL "StoneBoardModel" 65 8 0 false (.int) := ⟨_, kd_Ref, (by decide), (xa_m4 25 rfl rfl), rfl, (by decide +kernel)⟩
theorem f_Ref_59 : xa_FL "StoneBoardModel" 59 8 1 true (.int) := ⟨_, kd_Ref, (by decide), (xa_m4 26 rfl rfl), rfl, (by decide +kernel)⟩
theorem f_Ref_62 : xa_FL "StoneBoardModel" 62 8 2 true (.int) := ⟨_, kd_Ref, (by decide), (xa_m4 27 rfl rfl), rfl, (by decide +kernel)⟩
theorem f_Ref_7 : xa_FL "StoneBoardModel" 7 8 3 true (.array .int) := ⟨_, kd_Ref, (by decide), (xa_m4 28 rfl rfl), rfl, (by decide +kernel)⟩
theorem f_Ref_13 : xa_FL "StoneBoardModel" 13 8 4 true (.array .int) := ⟨_, kd_Ref, (by decide), (xa_m4 29 rfl rfl), rfl, (by decide +kernel)⟩
theorem f_Ref_79 : xa_FL "StoneBoardModel" 79 8 5 false (.int) := ⟨_, kd_Ref, (by decide), (xa_m4 30 rfl rfl), rfl, (by decide +kernel)⟩
theorem f_Ref_93 : xa_FL "StoneBoardModel" 93 8 6 false (.int) := ⟨_, kd_Ref, (by decide), (xa_m4 31 rfl rfl), rfl, (by decide +kernel)⟩
theorem f_Ref_17 : xa_FL "StoneBoardModel" 17 8 7 true (.array .byte) := ⟨_, kd_Ref, (by decide), (xa_m4 32 rfl rfl), rfl, (by decide +kernel)⟩
theorem f_Ref_21 : xa_FL "StoneBoardModel" 21 8 8 true (.array .int) := ⟨_, kd_Ref, (by decide), (xa_m4 33 rfl rfl), rfl, (by decide +kernel)⟩
theorem f_Ref_24 : xa_FL "StoneBoardModel" 24 8 9 true (.array .int) := ⟨_, kd_Ref, (by decide), (xa_m4 34 rfl rfl), rfl, (by decide +kernel)⟩
theorem f_Ref_27 : xa_FL "StoneBoardModel" 27 8 10 true (.array .int) := ⟨_, kd_Ref, (by decide), (xa_m4 35 rfl rfl), rfl, (by decide +kernel)⟩
theorem f_Ref_96 : xa_FL "StoneBoardModel" 96 8 11 false (.int) := ⟨_, kd_Ref, (by decide), (xa_m4 36 rfl rfl), rfl, (by decide +kernel)⟩
theorem f_Ref_30 : xa_FL "StoneBoardModel" 30 8 12 false (.int) := ⟨_, kd_Ref, (by decide), (xa_m4 37 rfl rfl), rfl, (by decide +kernel)⟩
theorem f_Ref_34 : xa_FL "StoneBoardModel" 34 8 13 true (.array .boolean) := ⟨_, kd_Ref, (by decide), (xa_m4 38 rfl rfl), rfl, (by decide +kernel)⟩
theorem f_Ref_38 : xa_FL "StoneBoardModel" 38 8 14 true (.array .int) := ⟨_, kd_Ref, (by decide), (xa_m4 39 rfl rfl), rfl, (by decide +kernel)⟩
theorem f_Ref_68 : xa_FL "StoneBoardModel" 68 8 15 false (.int) := ⟨_, kd_Ref, (by decide), (xa_m4 40 rfl rfl), rfl, (by decide +kernel)⟩
theorem f_Ref_41 : xa_FL "StoneBoardModel" 41 8 16 true (.array .int) := ⟨_, kd_Ref, (by decide), (xa_m4 41 rfl rfl), rfl, (by decide +kernel)⟩
theorem f_Ref_44 : xa_FL "StoneBoardModel" 44 8 17 true (.array .int) := ⟨_, kd_Ref, (by decide), (xa_m4 42 rfl rfl), rfl, (by decide +kernel)⟩
theorem f_Ref_47 : xa_FL "StoneBoardModel" 47 8 18 true (.array .boolean) := ⟨_, kd_Ref, (by decide), (xa_m4 43 rfl rfl), rfl, (by decide +kernel)⟩
theorem f_Ref_50 : xa_FL "StoneBoardModel" 50 8 19 true (.array .boolean) := ⟨_, kd_Ref, (by decide), (xa_m4 44 rfl rfl), rfl, (by decide +kernel)⟩
theorem f_Ref_137 : xa_FL "StoneBoardModel" 137 8 20 false (.int) := ⟨_, kd_Ref, (by decide), (xa_m4 45 rfl rfl), rfl, (by decide +kernel)⟩
theorem f_Ref_149 : xa_FL "StoneBoardModel" 149 8 21 false (.int) := ⟨_, kd_Ref, (by decide), (xa_m4 46 rfl rfl), rfl, (by decide +kernel)⟩
theorem f_Ref_53 : xa_FL "StoneBoardModel" 53 8 22 true (.array .boolean) := ⟨_, kd_Ref, (by decide), (xa_m4 47 rfl rfl), rfl, (by decide +kernel)⟩
theorem f_Ref_56 : xa_FL "StoneBoardModel" 56 8 23 true (.array .boolean) := ⟨_, kd_Ref, (by decide), (xa_m4 48 rfl rfl), rfl, (by decide +kernel)⟩
theorem n_Law_8 : xa_NL "StoneBoardLaw" 8 0 [.int 0, .null, .null, .null, .null, .null, .null, .int 0] := ⟨_, kd_SB, (xa_m1 20 rfl rfl), (xa_m1 21 rfl rfl), (xa_m1 1 rfl rfl), rfl, ty_SB, (by decide +kernel), (by decide +kernel)⟩
theorem n_SB_18 : xa_NL "StoneBoard" 18 3 [.int 0, .null] := ⟨_, kd_Grid, (xa_m1 34 rfl rfl), (xa_m1 35 rfl rfl), (xa_m1 3 rfl rfl), rfl, ty_Grid, (by decide +kernel), (by decide +kernel)⟩
theorem n_SB_38 : xa_NL "StoneBoard" 38 2 [.null, .null, .null, .null, .null, .null, .null] := ⟨_, kd_Chart, (xa_m1 53 rfl rfl), (xa_m1 54 rfl rfl), (xa_m1 4 rfl rfl), rfl, ty_Chart, (by decide +kernel), (by decide +kernel)⟩
theorem n_Chart_19 : xa_NL "StoneBoard$Chart" 19 1 [.int 0, .null, .null, .null, .null] := ⟨_, kd_Areas, (xa_m1 59 rfl rfl), (xa_m1 60 rfl rfl), (xa_m1 5 rfl rfl), rfl, ty_Areas, (by decide +kernel), (by decide +kernel)⟩
theorem n_SB_47 : xa_NL "StoneBoard" 47 7 [.null, .int 0, .int 0, .null, .null, .null] := ⟨_, kd_Trial, (xa_m1 156 rfl rfl), (xa_m1 157 rfl rfl), (xa_m1 7 rfl rfl), rfl, ty_Trial, (by decide +kernel), (by decide +kernel)⟩
theorem n_SB_56 : xa_NL "StoneBoard" 56 4 [.null, .null] := ⟨_, kd_History, (xa_m1 188 rfl rfl), (xa_m1 189 rfl rfl), (xa_m1 9 rfl rfl), rfl, ty_History, (by decide +kernel), (by decide +kernel)⟩
theorem n_History_11 : xa_NL "StoneBoard$History" 11 6 [.null, .null, .null, .int 0, .int 0, .int 0, .int 0] := ⟨_, kd_Pos, (xa_m1 194 rfl rfl), (xa_m1 205 rfl rfl), (xa_m1 10 rfl rfl), rfl, ty_Pos, (by decide +kernel), (by decide +kernel)⟩
theorem n_SB_63 : xa_NL "StoneBoard" 63 5 [.null, .null, .null, .null, .null, .null, .null] := ⟨_, kd_Life, (xa_m2 11 rfl rfl), (xa_m2 12 rfl rfl), (xa_m1 11 rfl rfl), rfl, ty_Life, (by decide +kernel), (by decide +kernel)⟩
theorem n_Life_28 : xa_NL "StoneBoard$Life" 28 1 [.int 0, .null, .null, .null, .null] := ⟨_, kd_Areas, (xa_m2 17 rfl rfl), (xa_m1 60 rfl rfl), (xa_m1 5 rfl rfl), rfl, ty_Areas, (by decide +kernel), (by decide +kernel)⟩
theorem n_Law_78 : xa_NL "StoneBoardLaw" 78 8 [.int 0, .int 0, .int 0, .null, .null, .int 0, .int 0, .null, .null, .null, .null, .int 0, .int 0, .null, .null, .int 0, .null, .null, .null, .null, .int 0, .int 0, .null, .null] := ⟨_, kd_Ref, (xa_m4 18 rfl rfl), (xa_m4 19 rfl rfl), (xa_m1 12 rfl rfl), rfl, ty_Ref, (by decide +kernel), (by decide +kernel)⟩
theorem w_History_78 : Cond.constantLong "StoneBoard$History" 78 (-7046029254386353131 : Int64) ∈ xa_ws := (xa_m1 204 rfl rfl)
theorem w_Packed_9 : Cond.constantLong "StoneBoard$Packed" 9 (3 : Int64) ∈ xa_ws := (xa_m2 103 rfl rfl)
theorem w_Packed_11 : Cond.constantLong "StoneBoard$Packed" 11 (-1 : Int64) ∈ xa_ws := (xa_m2 104 rfl rfl)
theorem w_Ref_16 : Cond.constant "StoneBoardModel" 16 (169169 : Int32) ∈ xa_ws := (xa_m4 24 rfl rfl)
theorem w_arr_i : Cond.arrayClass .int ∈ xa_ws := (xa_m1 52 rfl rfl)
theorem w_arr_l : Cond.arrayClass .long ∈ xa_ws := (xa_m1 187 rfl rfl)
theorem w_arr_z : Cond.arrayClass .boolean ∈ xa_ws := (xa_m2 41 rfl rfl)
theorem w_arr_b : Cond.arrayClass .byte ∈ xa_ws := (xa_m4 98 rfl rfl)
theorem w_cl_pos : Cond.classLink "StoneBoard$History" 11 xa_pos ∈ xa_ws := (xa_m1 194 rfl rfl)
theorem w_arr_q : Cond.arrayOver (.object xa_pos) ∈ xa_ws := (xa_m1 195 rfl rfl)
theorem w_oi : Cond.instanceMethod Lib.objectInit ∈ xa_ws := (xa_m1 26 rfl rfl)
theorem w_oc : Cond.code Lib.objectInit ⟨#[0xb1]⟩ 1 none ∈ xa_ws := (xa_m1 27 rfl rfl)
end
section
/-! Methods, printed. -/
def M_SB_init : xa_Mu := (⟨"StoneBoard", "<init>", "(I)V"⟩, prog_1_method_1_code, 5, none, [])
theorem b_SB_init : xa_LB M_SB_init 1 := ⟨(xa_m1 24 rfl rfl), (xa_m1 1 rfl rfl), (by decide +kernel), (by decide +kernel), (by decide +kernel)⟩
def M_Math_min : xa_Mu := (⟨"java/lang/Math", "min", "(II)I"⟩, prog_17_method_69_code, 2, (some .int), [])
theorem b_Math_min : xa_LB M_Math_min 2 := ⟨(xa_m1 30 rfl rfl), (xa_m1 2 rfl rfl), (by decide +kernel), (by decide +kernel), (by decide +kernel)⟩
def M_Math_max : xa_Mu := (⟨"java/lang/Math", "max", "(II)I"⟩, prog_17_method_65_code, 2, (some .int), [])
theorem b_Math_max : xa_LB M_Math_max 2 := ⟨(xa_m1 33 rfl rfl), (xa_m1 2 rfl rfl), (by decide +kernel), (by decide +kernel), (by decide +kernel)⟩
def M_Grid_init : xa_Mu := (⟨"StoneBoard$Grid", "<init>", "(I)V"⟩, prog_4_method_1_code, 6, none, [])
theorem b_Grid_init : xa_LB M_Grid_init 1 := ⟨(xa_m1 38 rfl rfl), (xa_m1 3 rfl rfl), (by decide +kernel), (by decide +kernel), (by decide +kernel)⟩
def M_Chart_init : xa_Mu := (⟨"StoneBoard$Chart", "<init>", "(LStoneBoard$Grid;[I)V"⟩, prog_3_method_1_code, 3, none, [])
theorem b_Chart_init : xa_LB M_Chart_init 2 := ⟨(xa_m1 57 rfl rfl), (xa_m1 4 rfl rfl), (by decide +kernel), (by decide +kernel), (by decide +kernel)⟩
def M_Areas_init : xa_Mu := (⟨"StoneBoard$Areas", "<init>", "(LStoneBoard$Grid;)V"⟩, prog_2_method_1_code, 2, none, [])
theorem b_Areas_init : xa_LB M_Areas_init 1 := ⟨(xa_m1 63 rfl rfl), (xa_m1 5 rfl rfl), (by decide +kernel), (by decide +kernel), (by decide +kernel)⟩
def M_Chart_draw : xa_Mu := (⟨"StoneBoard$Chart", "draw", "()V"⟩, prog_3_method_2_code, 2, none, [])
theorem b_Chart_draw : xa_LB M_Chart_draw 0 := ⟨(xa_m1 86 rfl rfl), (xa_m1 4 rfl rfl), (by decide +kernel), (by decide +kernel), (by decide +kernel)⟩
def M_Areas_split : xa_Mu := (⟨"StoneBoard$Areas", "split", "([I)V"⟩, prog_2_method_2_code, 4, none, [])
theorem b_Areas_split : xa_LB M_Areas_split 1 := ⟨(xa_m1 90 rfl rfl), (xa_m1 5 rfl rfl), (by decide +kernel), (by decide +kernel), (by decide +kernel)⟩
def M_Arrays_fill : xa_Mu := (⟨"java/util/Arrays", "fill", "([II)V"⟩, prog_21_method_103_code, 4, none, [])
theorem b_Arrays_fill : xa_LB M_Arrays_fill 2 := ⟨(xa_m1 93 rfl rfl), (xa_m1 6 rfl rfl), (by decide +kernel), (by decide +kernel), (by decide +kernel)⟩
def M_Areas_spread : xa_Mu := (⟨"StoneBoard$Areas", "spread", "(II[I)I"⟩, prog_2_method_3_code, 8, (some .int), [])
theorem b_Areas_spread : xa_LB M_Areas_spread 3 := ⟨(xa_m1 97 rfl rfl), (xa_m1 5 rfl rfl), (by decide +kernel), (by decide +kernel), (by decide +kernel)⟩
def M_Grid_neighbour : xa_Mu := (⟨"StoneBoard$Grid", "neighbour", "(II)I"⟩, prog_4_method_2_code, 3, (some .int), [])
theorem b_Grid_neighbour : xa_LB M_Grid_neighbour 2 := ⟨(xa_m1 101 rfl rfl), (xa_m1 3 rfl rfl), (by decide +kernel), (by decide +kernel), (by decide +kernel)⟩
def M_Chart_isFree : xa_Mu := (⟨"StoneBoard$Chart", "isFree", "(I)Z"⟩, prog_3_method_3_code, 2, (some .boolean), [])
theorem b_Chart_isFree : xa_LB M_Chart_isFree 1 := ⟨(xa_m1 106 rfl rfl), (xa_m1 4 rfl rfl), (by decide +kernel), (by decide +kernel), (by decide +kernel)⟩
def M_Areas_leastOf : xa_Mu := (⟨"StoneBoard$Areas", "leastOf", "(I)I"⟩, prog_2_method_6_code, 2, (some .int), [])
theorem b_Areas_leastOf : xa_LB M_Areas_leastOf 1 := ⟨(xa_m1 110 rfl rfl), (xa_m1 5 rfl rfl), (by decide +kernel), (by decide +kernel), (by decide +kernel)⟩
def M_Chart_findHolder : xa_Mu := (⟨"StoneBoard$Chart", "findHolder", "(I)I"⟩, prog_3_method_4_code, 6, (some .int), [])
theorem b_Chart_findHolder : xa_LB M_Chart_findHolder 1 := ⟨(xa_m1 114 rfl rfl), (xa_m1 4 rfl rfl), (by decide +kernel), (by decide +kernel), (by decide +kernel)⟩
def M_Areas_sizeOf : xa_Mu := (⟨"StoneBoard$Areas", "sizeOf", "(I)I"⟩, prog_2_method_5_code, 2, (some .int), [])
theorem b_Areas_sizeOf : xa_LB M_Areas_sizeOf 1 := ⟨(xa_m1 118 rfl rfl), (xa_m1 5 rfl rfl), (by decide +kernel), (by decide +kernel), (by decide +kernel)⟩
def M_Areas_pointOf : xa_Mu := (⟨"StoneBoard$Areas", "pointOf", "(II)I"⟩, prog_2_method_7_code, 3, (some .int), [])
theorem b_Areas_pointOf : xa_LB M_Areas_pointOf 2 := ⟨(xa_m1 122 rfl rfl), (xa_m1 5 rfl rfl), (by decide +kernel), (by decide +kernel), (by decide +kernel)⟩
def M_SB_otherSide : xa_Mu := (⟨"StoneBoard", "otherSide", "(I)I"⟩, prog_1_method_30_code, 1, (some .int), [])
theorem b_SB_otherSide : xa_LB M_SB_otherSide 1 := ⟨(xa_m1 126 rfl rfl), (xa_m1 1 rfl rfl), (by decide +kernel), (by decide +kernel), (by decide +kernel)⟩
def M_Chart_countBreaths : xa_Mu := (⟨"StoneBoard$Chart", "countBreaths", "(I)V"⟩, prog_3_method_5_code, 7, none, [])
theorem b_Chart_countBreaths : xa_LB M_Chart_countBreaths 1 := ⟨(xa_m1 130 rfl rfl), (xa_m1 4 rfl rfl), (by decide +kernel), (by decide +kernel), (by decide +kernel)⟩
def M_Trial_init : xa_Mu := (⟨"StoneBoard$Trial", "<init>", "(LStoneBoard$Grid;[ILStoneBoard$Chart;)V"⟩, prog_9_method_1_code, 4, none, [])
theorem b_Trial_init : xa_LB M_Trial_init 3 := ⟨(xa_m1 160 rfl rfl), (xa_m1 7 rfl rfl), (by decide +kernel), (by decide +kernel), (by decide +kernel)⟩
def M_Packed_freeBoard : xa_Mu := (⟨"StoneBoard$Packed", "freeBoard", "(I)[J"⟩, prog_7_method_2_code, 1, (some (.array .long)), [])
theorem b_Packed_freeBoard : xa_LB M_Packed_freeBoard 1 := ⟨(xa_m1 164 rfl rfl), (xa_m1 8 rfl rfl), (by decide +kernel), (by decide +kernel), (by decide +kernel)⟩
def M_History_init : xa_Mu := (⟨"StoneBoard$History", "<init>", "(I)V"⟩, prog_5_method_1_code, 2, none, [])
theorem b_History_init : xa_LB M_History_init 1 := ⟨(xa_m1 192 rfl rfl), (xa_m1 9 rfl rfl), (by decide +kernel), (by decide +kernel), (by decide +kernel)⟩
def M_History_keep : xa_Mu := (⟨"StoneBoard$History", "keep", "(LStoneBoard$Position;[JIII)V"⟩, prog_5_method_9_code, 7, none, [])
theorem b_History_keep : xa_LB M_History_keep 5 := ⟨(xa_m1 200 rfl rfl), (xa_m1 9 rfl rfl), (by decide +kernel), (by decide +kernel), (by decide +kernel)⟩
def M_History_bucketOf : xa_Mu := (⟨"StoneBoard$History", "bucketOf", "([J)I"⟩, prog_5_method_11_code, 8, (some .int), [])
theorem b_History_bucketOf : xa_LB M_History_bucketOf 1 := ⟨(xa_m1 203 rfl rfl), (xa_m1 9 rfl rfl), (by decide +kernel), (by decide +kernel), (by decide +kernel)⟩
def M_Pos_init : xa_Mu := (⟨"StoneBoard$Position", "<init>", "(LStoneBoard$Position;LStoneBoard$Position;[JIII)V"⟩, prog_8_method_1_code, 7, none, [])
theorem b_Pos_init : xa_LB M_Pos_init 6 := ⟨(xa_m1 208 rfl rfl), (xa_m1 10 rfl rfl), (by decide +kernel), (by decide +kernel), (by decide +kernel)⟩
def M_Life_init : xa_Mu := (⟨"StoneBoard$Life", "<init>", "(LStoneBoard$Grid;[I)V"⟩, prog_6_method_1_code, 3, none, [])
theorem b_Life_init : xa_LB M_Life_init 2 := ⟨(xa_m2 15 rfl rfl), (xa_m1 11 rfl rfl), (by decide +kernel), (by decide +kernel), (by decide +kernel)⟩
def M_SB_size : xa_Mu := (⟨"StoneBoard", "size", "()I"⟩, prog_1_method_2_code, 1, (some .int), [])
theorem b_SB_size : xa_LB M_SB_size 0 := ⟨(xa_m2 70 rfl rfl), (xa_m1 1 rfl rfl), (by decide +kernel), (by decide +kernel), (by decide +kernel)⟩
def M_SB_turn : xa_Mu := (⟨"StoneBoard", "turn", "()I"⟩, prog_1_method_6_code, 1, (some .int), [])
theorem b_SB_turn : xa_LB M_SB_turn 0 := ⟨(xa_m2 74 rfl rfl), (xa_m1 1 rfl rfl), (by decide +kernel), (by decide +kernel), (by decide +kernel)⟩
def M_SB_allowed : xa_Mu := (⟨"StoneBoard", "allowed", "()I"⟩, prog_1_method_9_code, 3, (some .int), [])
theorem b_SB_allowed : xa_LB M_SB_allowed 0 := ⟨(xa_m2 79 rfl rfl), (xa_m1 1 rfl rfl), (by decide +kernel), (by decide +kernel), (by decide +kernel)⟩
def M_SB_judgeMove : xa_Mu := (⟨"StoneBoard", "judgeMove", "(I)I"⟩, prog_1_method_27_code, 2, (some .int), [])
theorem b_SB_judgeMove : xa_LB M_SB_judgeMove 1 := ⟨(xa_m2 83 rfl rfl), (xa_m1 1 rfl rfl), (by decide +kernel), (by decide +kernel), (by decide +kernel)⟩
def M_History_hasEnded : xa_Mu := (⟨"StoneBoard$History", "hasEnded", "()Z"⟩, prog_5_method_6_code, 1, (some .boolean), [])
theorem b_History_hasEnded : xa_LB M_History_hasEnded 0 := ⟨(xa_m2 87 rfl rfl), (xa_m1 9 rfl rfl), (by decide +kernel), (by decide +kernel), (by decide +kernel)⟩
def M_SB_findBoardBehind : xa_Mu := (⟨"StoneBoard", "findBoardBehind", "(I)LStoneBoard$Position;"⟩, prog_1_method_28_code, 2, (some (.object "StoneBoard$Position")), [])
theorem b_SB_findBoardBehind : xa_LB M_SB_findBoardBehind 1 := ⟨(xa_m2 91 rfl rfl), (xa_m1 1 rfl rfl), (by decide +kernel), (by decide +kernel), (by decide +kernel)⟩
def M_Trial_attempt : xa_Mu := (⟨"StoneBoard$Trial", "attempt", "([JII)V"⟩, prog_9_method_2_code, 4, none, [])
theorem b_Trial_attempt : xa_LB M_Trial_attempt 3 := ⟨(xa_m2 96 rfl rfl), (xa_m1 7 rfl rfl), (by decide +kernel), (by decide +kernel), (by decide +kernel)⟩
def M_Packed_setKind : xa_Mu := (⟨"StoneBoard$Packed", "setKind", "([JII)V"⟩, prog_7_method_4_code, 5, none, [])
theorem b_Packed_setKind : xa_LB M_Packed_setKind 3 := ⟨(xa_m2 102 rfl rfl), (xa_m1 8 rfl rfl), (by decide +kernel), (by decide +kernel), (by decide +kernel)⟩
def M_Trial_takeClosedStrings : xa_Mu := (⟨"StoneBoard$Trial", "takeClosedStrings", "(II)V"⟩, prog_9_method_3_code, 5, none, [])
theorem b_Trial_takeClosedStrings : xa_LB M_Trial_takeClosedStrings 2 := ⟨(xa_m2 109 rfl rfl), (xa_m1 7 rfl rfl), (by decide +kernel), (by decide +kernel), (by decide +kernel)⟩
def M_Trial_isLastBreathOf : xa_Mu := (⟨"StoneBoard$Trial", "isLastBreathOf", "(I)Z"⟩, prog_9_method_6_code, 2, (some .boolean), [])
theorem b_Trial_isLastBreathOf : xa_LB M_Trial_isLastBreathOf 1 := ⟨(xa_m2 114 rfl rfl), (xa_m1 7 rfl rfl), (by decide +kernel), (by decide +kernel), (by decide +kernel)⟩
def M_Areas_areaAt : xa_Mu := (⟨"StoneBoard$Areas", "areaAt", "(I)I"⟩, prog_2_method_4_code, 2, (some .int), [])
theorem b_Areas_areaAt : xa_LB M_Areas_areaAt 1 := ⟨(xa_m2 118 rfl rfl), (xa_m1 5 rfl rfl), (by decide +kernel), (by decide +kernel), (by decide +kernel)⟩
def M_Chart_breathsOf : xa_Mu := (⟨"StoneBoard$Chart", "breathsOf", "(I)I"⟩, prog_3_method_6_code, 2, (some .int), [])
theorem b_Chart_breathsOf : xa_LB M_Chart_breathsOf 1 := ⟨(xa_m2 122 rfl rfl), (xa_m1 4 rfl rfl), (by decide +kernel), (by decide +kernel), (by decide +kernel)⟩
def M_Packed_kindAt : xa_Mu := (⟨"StoneBoard$Packed", "kindAt", "([JI)I"⟩, prog_7_method_3_code, 3, (some .int), [])
theorem b_Packed_kindAt : xa_LB M_Packed_kindAt 2 := ⟨(xa_m2 125 rfl rfl), (xa_m1 8 rfl rfl), (by decide +kernel), (by decide +kernel), (by decide +kernel)⟩
def M_Trial_takeString : xa_Mu := (⟨"StoneBoard$Trial", "takeString", "(I)V"⟩, prog_9_method_4_code, 3, none, [])
theorem b_Trial_takeString : xa_LB M_Trial_takeString 1 := ⟨(xa_m2 129 rfl rfl), (xa_m1 7 rfl rfl), (by decide +kernel), (by decide +kernel), (by decide +kernel)⟩
def M_Trial_findsBreath : xa_Mu := (⟨"StoneBoard$Trial", "findsBreath", "(II)Z"⟩, prog_9_method_5_code, 5, (some .boolean), [])
theorem b_Trial_findsBreath : xa_LB M_Trial_findsBreath 2 := ⟨(xa_m2 135 rfl rfl), (xa_m1 7 rfl rfl), (by decide +kernel), (by decide +kernel), (by decide +kernel)⟩
def M_History_find : xa_Mu := (⟨"StoneBoard$History", "find", "([J)LStoneBoard$Position;"⟩, prog_5_method_7_code, 3, (some (.object "StoneBoard$Position")), [])
theorem b_History_find : xa_LB M_History_find 1 := ⟨(xa_m2 139 rfl rfl), (xa_m1 9 rfl rfl), (by decide +kernel), (by decide +kernel), (by decide +kernel)⟩
def M_Pos_hasBoard : xa_Mu := (⟨"StoneBoard$Position", "hasBoard", "([J)Z"⟩, prog_8_method_2_code, 3, (some .boolean), [])
theorem b_Pos_hasBoard : xa_LB M_Pos_hasBoard 1 := ⟨(xa_m2 143 rfl rfl), (xa_m1 10 rfl rfl), (by decide +kernel), (by decide +kernel), (by decide +kernel)⟩
def M_SB_moves : xa_Mu := (⟨"StoneBoard", "moves", "()I"⟩, prog_1_method_12_code, 1, (some .int), [])
theorem b_SB_moves : xa_LB M_SB_moves 0 := ⟨(xa_m2 147 rfl rfl), (xa_m1 1 rfl rfl), (by decide +kernel), (by decide +kernel), (by decide +kernel)⟩
def M_Law_cell : xa_Mu := (⟨"StoneBoardLaw", "cell", "([II)I"⟩, method_2_code, 2, (some .int), [])
theorem b_Law_cell : xa_LB M_Law_cell 2 := ⟨(xa_m2 150 rfl rfl), (xa_m1 0 rfl rfl), (by decide +kernel), (by decide +kernel), (by decide +kernel)⟩
def M_Law_at : xa_Mu := (⟨"StoneBoardLaw", "at", "(LStoneBoard;I[J)I"⟩, method_3_code, 4, (some .int), [(0, 9, 12, 13)])
def M_SB_at : xa_Mu := (⟨"StoneBoard", "at", "(I)I"⟩, prog_1_method_3_code, 2, (some .int), [])
theorem b_SB_at : xa_LB M_SB_at 1 := ⟨(xa_m2 158 rfl rfl), (xa_m1 1 rfl rfl), (by decide +kernel), (by decide +kernel), (by decide +kernel)⟩
def M_SB_checkPoint : xa_Mu := (⟨"StoneBoard", "checkPoint", "(I)V"⟩, prog_1_method_22_code, 2, none, [])
theorem b_SB_checkPoint : xa_LB M_SB_checkPoint 1 := ⟨(xa_m2 162 rfl rfl), (xa_m1 1 rfl rfl), (by decide +kernel), (by decide +kernel), (by decide +kernel)⟩
def M_Law_put : xa_Mu := (⟨"StoneBoardLaw", "put", "(LStoneBoard;II[J)I"⟩, method_4_code, 5, (some .int), [(0, 17, 20, 13), (0, 17, 24, 19), (0, 17, 28, 21)])
def M_SB_put : xa_Mu := (⟨"StoneBoard", "put", "(II)Z"⟩, prog_1_method_4_code, 4, (some .boolean), [])
theorem b_SB_put : xa_LB M_SB_put 2 := ⟨(xa_m2 234 rfl rfl), (xa_m1 1 rfl rfl), (by decide +kernel), (by decide +kernel), (by decide +kernel)⟩
def M_SB_checkKind : xa_Mu := (⟨"StoneBoard", "checkKind", "(I)V"⟩, prog_1_method_24_code, 1, none, [])
theorem b_SB_checkKind : xa_LB M_SB_checkKind 1 := ⟨(xa_m2 237 rfl rfl), (xa_m1 1 rfl rfl), (by decide +kernel), (by decide +kernel), (by decide +kernel)⟩
def M_SB_checkNoMoveYet : xa_Mu := (⟨"StoneBoard", "checkNoMoveYet", "()V"⟩, prog_1_method_25_code, 1, none, [])
theorem b_SB_checkNoMoveYet : xa_LB M_SB_checkNoMoveYet 0 := ⟨(xa_m3 16 rfl rfl), (xa_m1 1 rfl rfl), (by decide +kernel), (by decide +kernel), (by decide +kernel)⟩
def M_Chart_hasStringWithoutBreath : xa_Mu := (⟨"StoneBoard$Chart", "hasStringWithoutBreath", "()Z"⟩, prog_3_method_9_code, 2, (some .boolean), [])
theorem b_Chart_hasStringWithoutBreath : xa_LB M_Chart_hasStringWithoutBreath 0 := ⟨(xa_m3 36 rfl rfl), (xa_m1 4 rfl rfl), (by decide +kernel), (by decide +kernel), (by decide +kernel)⟩
def M_History_beginWith : xa_Mu := (⟨"StoneBoard$History", "beginWith", "(II)V"⟩, prog_5_method_2_code, 4, none, [])
theorem b_History_beginWith : xa_LB M_History_beginWith 2 := ⟨(xa_m3 40 rfl rfl), (xa_m1 9 rfl rfl), (by decide +kernel), (by decide +kernel), (by decide +kernel)⟩
def M_History_takeOutOfBucket : xa_Mu := (⟨"StoneBoard$History", "takeOutOfBucket", "(LStoneBoard$Position;)V"⟩, prog_5_method_10_code, 2, none, [])
theorem b_History_takeOutOfBucket : xa_LB M_History_takeOutOfBucket 1 := ⟨(xa_m3 52 rfl rfl), (xa_m1 9 rfl rfl), (by decide +kernel), (by decide +kernel), (by decide +kernel)⟩
def M_Law_first : xa_Mu := (⟨"StoneBoardLaw", "first", "(LStoneBoard;I)I"⟩, method_5_code, 3, (some .int), [(0, 5, 8, 19), (0, 5, 11, 21)])
def M_SB_first : xa_Mu := (⟨"StoneBoard", "first", "(I)V"⟩, prog_1_method_5_code, 2, none, [])
theorem b_SB_first : xa_LB M_SB_first 1 := ⟨(xa_m3 59 rfl rfl), (xa_m1 1 rfl rfl), (by decide +kernel), (by decide +kernel), (by decide +kernel)⟩
def M_SB_checkSide : xa_Mu := (⟨"StoneBoard", "checkSide", "(I)V"⟩, prog_1_method_23_code, 1, none, [])
theorem b_SB_checkSide : xa_LB M_SB_checkSide 1 := ⟨(xa_m3 62 rfl rfl), (xa_m1 1 rfl rfl), (by decide +kernel), (by decide +kernel), (by decide +kernel)⟩
def M_Law_play : xa_Mu := (⟨"StoneBoardLaw", "play", "(LStoneBoard;I[J)I"⟩, method_6_code, 4, (some .int), [(0, 9, 12, 13), (0, 9, 15, 21)])
def M_SB_play : xa_Mu := (⟨"StoneBoard", "play", "(I)I"⟩, prog_1_method_7_code, 2, (some .int), [])
theorem b_SB_play : xa_LB M_SB_play 1 := ⟨(xa_m3 69 rfl rfl), (xa_m1 1 rfl rfl), (by decide +kernel), (by decide +kernel), (by decide +kernel)⟩
def M_SB_checkRoomForMove : xa_Mu := (⟨"StoneBoard", "checkRoomForMove", "()V"⟩, prog_1_method_26_code, 1, none, [])
theorem b_SB_checkRoomForMove : xa_LB M_SB_checkRoomForMove 0 := ⟨(xa_m3 73 rfl rfl), (xa_m1 1 rfl rfl), (by decide +kernel), (by decide +kernel), (by decide +kernel)⟩
def M_History_addMove : xa_Mu := (⟨"StoneBoard$History", "addMove", "(I[JII)V"⟩, prog_5_method_3_code, 7, none, [])
theorem b_History_addMove : xa_LB M_History_addMove 4 := ⟨(xa_m3 77 rfl rfl), (xa_m1 9 rfl rfl), (by decide +kernel), (by decide +kernel), (by decide +kernel)⟩
def M_SB_showLatestBoard : xa_Mu := (⟨"StoneBoard", "showLatestBoard", "()V"⟩, prog_1_method_29_code, 1, none, [])
theorem b_SB_showLatestBoard : xa_LB M_SB_showLatestBoard 0 := ⟨(xa_m3 81 rfl rfl), (xa_m1 1 rfl rfl), (by decide +kernel), (by decide +kernel), (by decide +kernel)⟩
def M_Packed_unpack : xa_Mu := (⟨"StoneBoard$Packed", "unpack", "([J[I)V"⟩, prog_7_method_5_code, 3, none, [])
theorem b_Packed_unpack : xa_LB M_Packed_unpack 2 := ⟨(xa_m3 84 rfl rfl), (xa_m1 8 rfl rfl), (by decide +kernel), (by decide +kernel), (by decide +kernel)⟩
def M_Law_why : xa_Mu := (⟨"StoneBoardLaw", "why", "(LStoneBoard;I[J)I"⟩, method_7_code, 4, (some .int), [(0, 9, 12, 13)])
def M_SB_why : xa_Mu := (⟨"StoneBoard", "why", "(I)I"⟩, prog_1_method_8_code, 2, (some .int), [])
theorem b_SB_why : xa_LB M_SB_why 1 := ⟨(xa_m3 92 rfl rfl), (xa_m1 1 rfl rfl), (by decide +kernel), (by decide +kernel), (by decide +kernel)⟩
def M_Law_pass : xa_Mu := (⟨"StoneBoardLaw", "pass", "(LStoneBoard;[J)I"⟩, method_8_code, 3, (some .int), [(0, 15, 18, 21)])
def M_SB_pass : xa_Mu := (⟨"StoneBoard", "pass", "()Z"⟩, prog_1_method_10_code, 1, (some .boolean), [])
theorem b_SB_pass : xa_LB M_SB_pass 0 := ⟨(xa_m3 99 rfl rfl), (xa_m1 1 rfl rfl), (by decide +kernel), (by decide +kernel), (by decide +kernel)⟩
def M_History_addPass : xa_Mu := (⟨"StoneBoard$History", "addPass", "()V"⟩, prog_5_method_4_code, 1, none, [])
theorem b_History_addPass : xa_LB M_History_addPass 0 := ⟨(xa_m3 103 rfl rfl), (xa_m1 9 rfl rfl), (by decide +kernel), (by decide +kernel), (by decide +kernel)⟩
def M_Law_back : xa_Mu := (⟨"StoneBoardLaw", "back", "(LStoneBoard;[J)I"⟩, method_9_code, 3, (some .int), [(0, 8, 11, 21)])
def M_SB_back : xa_Mu := (⟨"StoneBoard", "back", "()I"⟩, prog_1_method_11_code, 1, (some .int), [])
theorem b_SB_back : xa_LB M_SB_back 0 := ⟨(xa_m3 110 rfl rfl), (xa_m1 1 rfl rfl), (by decide +kernel), (by decide +kernel), (by decide +kernel)⟩
def M_History_dropLatest : xa_Mu := (⟨"StoneBoard$History", "dropLatest", "()V"⟩, prog_5_method_5_code, 1, none, [])
theorem b_History_dropLatest : xa_LB M_History_dropLatest 0 := ⟨(xa_m3 114 rfl rfl), (xa_m1 9 rfl rfl), (by decide +kernel), (by decide +kernel), (by decide +kernel)⟩
def M_Law_move : xa_Mu := (⟨"StoneBoardLaw", "move", "(LStoneBoard;I[J)I"⟩, method_10_code, 4, (some .int), [(0, 9, 12, 13)])
def M_SB_move : xa_Mu := (⟨"StoneBoard", "move", "(I)I"⟩, prog_1_method_13_code, 2, (some .int), [])
theorem b_SB_move : xa_LB M_SB_move 1 := ⟨(xa_m3 121 rfl rfl), (xa_m1 1 rfl rfl), (by decide +kernel), (by decide +kernel), (by decide +kernel)⟩
def M_History_pointOfMove : xa_Mu := (⟨"StoneBoard$History", "pointOfMove", "(I)I"⟩, prog_5_method_8_code, 3, (some .int), [])
theorem b_History_pointOfMove : xa_LB M_History_pointOfMove 1 := ⟨(xa_m3 125 rfl rfl), (xa_m1 9 rfl rfl), (by decide +kernel), (by decide +kernel), (by decide +kernel)⟩
def M_Law_taken : xa_Mu := (⟨"StoneBoardLaw", "taken", "(LStoneBoard;I[J)I"⟩, method_11_code, 4, (some .int), [(0, 9, 12, 19)])
def M_SB_taken : xa_Mu := (⟨"StoneBoard", "taken", "(I)I"⟩, prog_1_method_14_code, 2, (some .int), [])
theorem b_SB_taken : xa_LB M_SB_taken 1 := ⟨(xa_m3 132 rfl rfl), (xa_m1 1 rfl rfl), (by decide +kernel), (by decide +kernel), (by decide +kernel)⟩
def M_Law_string : xa_Mu := (⟨"StoneBoardLaw", "string", "(LStoneBoard;II[J)I"⟩, method_12_code, 5, (some .int), [(0, 10, 13, 13), (0, 10, 17, 19)])
def M_SB_string : xa_Mu := (⟨"StoneBoard", "string", "(II)I"⟩, prog_1_method_15_code, 4, (some .int), [])
theorem b_SB_string : xa_LB M_SB_string 2 := ⟨(xa_m3 139 rfl rfl), (xa_m1 1 rfl rfl), (by decide +kernel), (by decide +kernel), (by decide +kernel)⟩
def M_Chart_leastBreathOf : xa_Mu := (⟨"StoneBoard$Chart", "leastBreathOf", "(I)I"⟩, prog_3_method_7_code, 2, (some .int), [])
theorem b_Chart_leastBreathOf : xa_LB M_Chart_leastBreathOf 1 := ⟨(xa_m3 147 rfl rfl), (xa_m1 4 rfl rfl), (by decide +kernel), (by decide +kernel), (by decide +kernel)⟩
def M_Law_strings : xa_Mu := (⟨"StoneBoardLaw", "strings", "(LStoneBoard;I[J)I"⟩, method_13_code, 4, (some .int), [(0, 9, 12, 19)])
def M_SB_strings : xa_Mu := (⟨"StoneBoard", "strings", "(I)I"⟩, prog_1_method_16_code, 2, (some .int), [])
theorem b_SB_strings : xa_LB M_SB_strings 1 := ⟨(xa_m3 154 rfl rfl), (xa_m1 1 rfl rfl), (by decide +kernel), (by decide +kernel), (by decide +kernel)⟩
def M_Chart_countStrings : xa_Mu := (⟨"StoneBoard$Chart", "countStrings", "(I)I"⟩, prog_3_method_10_code, 4, (some .int), [])
theorem b_Chart_countStrings : xa_LB M_Chart_countStrings 1 := ⟨(xa_m3 158 rfl rfl), (xa_m1 4 rfl rfl), (by decide +kernel), (by decide +kernel), (by decide +kernel)⟩
def M_Law_ground : xa_Mu := (⟨"StoneBoardLaw", "ground", "(LStoneBoard;I[J)I"⟩, method_14_code, 4, (some .int), [(0, 9, 12, 19)])
def M_SB_ground : xa_Mu := (⟨"StoneBoard", "ground", "(I)I"⟩, prog_1_method_17_code, 2, (some .int), [])
theorem b_SB_ground : xa_LB M_SB_ground 1 := ⟨(xa_m3 165 rfl rfl), (xa_m1 1 rfl rfl), (by decide +kernel), (by decide +kernel), (by decide +kernel)⟩
def M_Chart_countGround : xa_Mu := (⟨"StoneBoard$Chart", "countGround", "(I)I"⟩, prog_3_method_11_code, 4, (some .int), [])
theorem b_Chart_countGround : xa_LB M_Chart_countGround 1 := ⟨(xa_m3 169 rfl rfl), (xa_m1 4 rfl rfl), (by decide +kernel), (by decide +kernel), (by decide +kernel)⟩
def M_Law_owner : xa_Mu := (⟨"StoneBoardLaw", "owner", "(LStoneBoard;I[J)I"⟩, method_15_code, 4, (some .int), [(0, 9, 12, 13)])
def M_SB_owner : xa_Mu := (⟨"StoneBoard", "owner", "(I)I"⟩, prog_1_method_18_code, 2, (some .int), [])
theorem b_SB_owner : xa_LB M_SB_owner 1 := ⟨(xa_m3 176 rfl rfl), (xa_m1 1 rfl rfl), (by decide +kernel), (by decide +kernel), (by decide +kernel)⟩
def M_Chart_holderOf : xa_Mu := (⟨"StoneBoard$Chart", "holderOf", "(I)I"⟩, prog_3_method_8_code, 2, (some .int), [])
theorem b_Chart_holderOf : xa_LB M_Chart_holderOf 1 := ⟨(xa_m3 180 rfl rfl), (xa_m1 4 rfl rfl), (by decide +kernel), (by decide +kernel), (by decide +kernel)⟩
def M_Law_alive : xa_Mu := (⟨"StoneBoardLaw", "alive", "(LStoneBoard;I[J)I"⟩, method_16_code, 4, (some .int), [(0, 16, 19, 13)])
def M_SB_alive : xa_Mu := (⟨"StoneBoard", "alive", "(I)Z"⟩, prog_1_method_19_code, 2, (some .boolean), [])
theorem b_SB_alive : xa_LB M_SB_alive 1 := ⟨(xa_m3 187 rfl rfl), (xa_m1 1 rfl rfl), (by decide +kernel), (by decide +kernel), (by decide +kernel)⟩
def M_Life_judge : xa_Mu := (⟨"StoneBoard$Life", "judge", "(I)V"⟩, prog_6_method_2_code, 3, none, [])
theorem b_Life_judge : xa_LB M_Life_judge 1 := ⟨(xa_m3 191 rfl rfl), (xa_m1 11 rfl rfl), (by decide +kernel), (by decide +kernel), (by decide +kernel)⟩
def M_Life_noteStringsOf : xa_Mu := (⟨"StoneBoard$Life", "noteStringsOf", "(I)V"⟩, prog_6_method_6_code, 6, none, [])
theorem b_Life_noteStringsOf : xa_LB M_Life_noteStringsOf 1 := ⟨(xa_m3 196 rfl rfl), (xa_m1 11 rfl rfl), (by decide +kernel), (by decide +kernel), (by decide +kernel)⟩
def M_Life_kindOf : xa_Mu := (⟨"StoneBoard$Life", "kindOf", "(I)I"⟩, prog_6_method_5_code, 2, (some .int), [])
theorem b_Life_kindOf : xa_LB M_Life_kindOf 1 := ⟨(xa_m3 202 rfl rfl), (xa_m1 11 rfl rfl), (by decide +kernel), (by decide +kernel), (by decide +kernel)⟩
def M_Life_isNoted : xa_Mu := (⟨"StoneBoard$Life", "isNoted", "(III)Z"⟩, prog_6_method_7_code, 5, (some .boolean), [])
theorem b_Life_isNoted : xa_LB M_Life_isNoted 3 := ⟨(xa_m3 207 rfl rfl), (xa_m1 11 rfl rfl), (by decide +kernel), (by decide +kernel), (by decide +kernel)⟩
def M_Life_belongs : xa_Mu := (⟨"StoneBoard$Life", "belongs", "(II)Z"⟩, prog_6_method_8_code, 4, (some .boolean), [])
theorem b_Life_belongs : xa_LB M_Life_belongs 2 := ⟨(xa_m3 211 rfl rfl), (xa_m1 11 rfl rfl), (by decide +kernel), (by decide +kernel), (by decide +kernel)⟩
def M_Life_isBeside : xa_Mu := (⟨"StoneBoard$Life", "isBeside", "(II)Z"⟩, prog_6_method_9_code, 5, (some .boolean), [])
theorem b_Life_isBeside : xa_LB M_Life_isBeside 2 := ⟨(xa_m3 217 rfl rfl), (xa_m1 11 rfl rfl), (by decide +kernel), (by decide +kernel), (by decide +kernel)⟩
def M_Life_letStringsFall : xa_Mu := (⟨"StoneBoard$Life", "letStringsFall", "()Z"⟩, prog_6_method_10_code, 3, (some .boolean), [])
theorem b_Life_letStringsFall : xa_LB M_Life_letStringsFall 0 := ⟨(xa_m3 221 rfl rfl), (xa_m1 11 rfl rfl), (by decide +kernel), (by decide +kernel), (by decide +kernel)⟩
def M_Life_countRegionsOfStrings : xa_Mu := (⟨"StoneBoard$Life", "countRegionsOfStrings", "()V"⟩, prog_6_method_11_code, 2, none, [])
theorem b_Life_countRegionsOfStrings : xa_LB M_Life_countRegionsOfStrings 0 := ⟨(xa_m3 225 rfl rfl), (xa_m1 11 rfl rfl), (by decide +kernel), (by decide +kernel), (by decide +kernel)⟩
def M_Life_letRegionsFall : xa_Mu := (⟨"StoneBoard$Life", "letRegionsFall", "()V"⟩, prog_6_method_12_code, 2, none, [])
theorem b_Life_letRegionsFall : xa_LB M_Life_letRegionsFall 0 := ⟨(xa_m3 230 rfl rfl), (xa_m1 11 rfl rfl), (by decide +kernel), (by decide +kernel), (by decide +kernel)⟩
def M_Life_isBesideFallenString : xa_Mu := (⟨"StoneBoard$Life", "isBesideFallenString", "(I)Z"⟩, prog_6_method_13_code, 4, (some .boolean), [])
theorem b_Life_isBesideFallenString : xa_LB M_Life_isBesideFallenString 1 := ⟨(xa_m3 234 rfl rfl), (xa_m1 11 rfl rfl), (by decide +kernel), (by decide +kernel), (by decide +kernel)⟩
def M_Life_standsAt : xa_Mu := (⟨"StoneBoard$Life", "standsAt", "(I)Z"⟩, prog_6_method_3_code, 2, (some .boolean), [])
theorem b_Life_standsAt : xa_LB M_Life_standsAt 1 := ⟨(xa_m3 238 rfl rfl), (xa_m1 11 rfl rfl), (by decide +kernel), (by decide +kernel), (by decide +kernel)⟩
def M_Law_safe : xa_Mu := (⟨"StoneBoardLaw", "safe", "(LStoneBoard;I[J)I"⟩, method_17_code, 4, (some .int), [(0, 9, 12, 19)])
def M_SB_safe : xa_Mu := (⟨"StoneBoard", "safe", "(I)I"⟩, prog_1_method_20_code, 2, (some .int), [])
theorem b_SB_safe : xa_LB M_SB_safe 1 := ⟨(xa_m4 6 rfl rfl), (xa_m1 1 rfl rfl), (by decide +kernel), (by decide +kernel), (by decide +kernel)⟩
def M_Life_countSafe : xa_Mu := (⟨"StoneBoard$Life", "countSafe", "()I"⟩, prog_6_method_4_code, 4, (some .int), [])
theorem b_Life_countSafe : xa_LB M_Life_countSafe 0 := ⟨(xa_m4 10 rfl rfl), (xa_m1 11 rfl rfl), (by decide +kernel), (by decide +kernel), (by decide +kernel)⟩
def M_Law_ago : xa_Mu := (⟨"StoneBoardLaw", "ago", "(LStoneBoard;I[J)I"⟩, method_18_code, 4, (some .int), [(0, 9, 12, 13)])
def M_SB_ago : xa_Mu := (⟨"StoneBoard", "ago", "(I)I"⟩, prog_1_method_21_code, 3, (some .int), [])
theorem b_SB_ago : xa_LB M_SB_ago 1 := ⟨(xa_m4 17 rfl rfl), (xa_m1 1 rfl rfl), (by decide +kernel), (by decide +kernel), (by decide +kernel)⟩
def M_Ref_init : xa_Mu := (⟨"StoneBoardModel", "<init>", "(I)V"⟩, prog_11_method_1_code, 2, none, [])
theorem b_Ref_init : xa_LB M_Ref_init 1 := ⟨(xa_m4 22 rfl rfl), (xa_m1 12 rfl rfl), (by decide +kernel), (by decide +kernel), (by decide +kernel)⟩
def M_Ref_thrown : xa_Mu := (⟨"StoneBoardModel", "thrown", "()I"⟩, prog_11_method_2_code, 1, (some .int), [])
theorem b_Ref_thrown : xa_LB M_Ref_thrown 0 := ⟨(xa_m4 102 rfl rfl), (xa_m1 12 rfl rfl), (by decide +kernel), (by decide +kernel), (by decide +kernel)⟩
def M_Ref_size : xa_Mu := (⟨"StoneBoardModel", "size", "()I"⟩, prog_11_method_3_code, 1, (some .int), [])
theorem b_Ref_size : xa_LB M_Ref_size 0 := ⟨(xa_m4 106 rfl rfl), (xa_m1 12 rfl rfl), (by decide +kernel), (by decide +kernel), (by decide +kernel)⟩
def M_Ref_at : xa_Mu := (⟨"StoneBoardModel", "at", "(I)I"⟩, prog_11_method_17_code, 2, (some .int), [])
theorem b_Ref_at : xa_LB M_Ref_at 1 := ⟨(xa_m4 110 rfl rfl), (xa_m1 12 rfl rfl), (by decide +kernel), (by decide +kernel), (by decide +kernel)⟩
def M_Ref_noPoint : xa_Mu := (⟨"StoneBoardModel", "noPoint", "(I)Z"⟩, prog_11_method_16_code, 2, (some .boolean), [])
theorem b_Ref_noPoint : xa_LB M_Ref_noPoint 1 := ⟨(xa_m4 114 rfl rfl), (xa_m1 12 rfl rfl), (by decide +kernel), (by decide +kernel), (by decide +kernel)⟩
def M_Ref_put : xa_Mu := (⟨"StoneBoardModel", "put", "(II)Z"⟩, prog_11_method_19_code, 5, (some .boolean), [])
theorem b_Ref_put : xa_LB M_Ref_put 2 := ⟨(xa_m4 118 rfl rfl), (xa_m1 12 rfl rfl), (by decide +kernel), (by decide +kernel), (by decide +kernel)⟩
def M_Ref_areBreathing : xa_Mu := (⟨"StoneBoardModel", "areBreathing", "([I)Z"⟩, prog_11_method_18_code, 4, (some .boolean), [])
theorem b_Ref_areBreathing : xa_LB M_Ref_areBreathing 1 := ⟨(xa_m4 122 rfl rfl), (xa_m1 12 rfl rfl), (by decide +kernel), (by decide +kernel), (by decide +kernel)⟩
def M_Ref_gather : xa_Mu := (⟨"StoneBoardModel", "gather", "([II)V"⟩, prog_11_method_5_code, 6, none, [])
theorem b_Ref_gather : xa_LB M_Ref_gather 2 := ⟨(xa_m4 126 rfl rfl), (xa_m1 12 rfl rfl), (by decide +kernel), (by decide +kernel), (by decide +kernel)⟩
def M_Ref_beside : xa_Mu := (⟨"StoneBoardModel", "beside", "(II)I"⟩, prog_11_method_4_code, 5, (some .int), [])
theorem b_Ref_beside : xa_LB M_Ref_beside 2 := ⟨(xa_m4 130 rfl rfl), (xa_m1 12 rfl rfl), (by decide +kernel), (by decide +kernel), (by decide +kernel)⟩
def M_Ref_breaths : xa_Mu := (⟨"StoneBoardModel", "breaths", "([I)I"⟩, prog_11_method_7_code, 4, (some .int), [])
theorem b_Ref_breaths : xa_LB M_Ref_breaths 1 := ⟨(xa_m4 134 rfl rfl), (xa_m1 12 rfl rfl), (by decide +kernel), (by decide +kernel), (by decide +kernel)⟩
def M_Ref_isBreath : xa_Mu := (⟨"StoneBoardModel", "isBreath", "([II)Z"⟩, prog_11_method_6_code, 6, (some .boolean), [])
theorem b_Ref_isBreath : xa_LB M_Ref_isBreath 2 := ⟨(xa_m4 138 rfl rfl), (xa_m1 12 rfl rfl), (by decide +kernel), (by decide +kernel), (by decide +kernel)⟩
def M_Ref_keep : xa_Mu := (⟨"StoneBoardModel", "keep", "(I)V"⟩, prog_11_method_11_code, 3, none, [])
theorem b_Ref_keep : xa_LB M_Ref_keep 1 := ⟨(xa_m4 142 rfl rfl), (xa_m1 12 rfl rfl), (by decide +kernel), (by decide +kernel), (by decide +kernel)⟩
def M_Ref_first : xa_Mu := (⟨"StoneBoardModel", "first", "(I)V"⟩, prog_11_method_20_code, 2, none, [])
theorem b_Ref_first : xa_LB M_Ref_first 1 := ⟨(xa_m4 146 rfl rfl), (xa_m1 12 rfl rfl), (by decide +kernel), (by decide +kernel), (by decide +kernel)⟩
def M_Ref_turn : xa_Mu := (⟨"StoneBoardModel", "turn", "()I"⟩, prog_11_method_21_code, 1, (some .int), [])
theorem b_Ref_turn : xa_LB M_Ref_turn 0 := ⟨(xa_m4 150 rfl rfl), (xa_m1 12 rfl rfl), (by decide +kernel), (by decide +kernel), (by decide +kernel)⟩
def M_Ref_turnNow : xa_Mu := (⟨"StoneBoardModel", "turnNow", "()I"⟩, prog_11_method_14_code, 1, (some .int), [])
theorem b_Ref_turnNow : xa_LB M_Ref_turnNow 0 := ⟨(xa_m4 154 rfl rfl), (xa_m1 12 rfl rfl), (by decide +kernel), (by decide +kernel), (by decide +kernel)⟩
def M_Ref_play : xa_Mu := (⟨"StoneBoardModel", "play", "(I)I"⟩, prog_11_method_22_code, 4, (some .int), [])
theorem b_Ref_play : xa_LB M_Ref_play 1 := ⟨(xa_m4 158 rfl rfl), (xa_m1 12 rfl rfl), (by decide +kernel), (by decide +kernel), (by decide +kernel)⟩
def M_Ref_whyNot : xa_Mu := (⟨"StoneBoardModel", "whyNot", "(I)I"⟩, prog_11_method_15_code, 2, (some .int), [])
theorem b_Ref_whyNot : xa_LB M_Ref_whyNot 1 := ⟨(xa_m4 162 rfl rfl), (xa_m1 12 rfl rfl), (by decide +kernel), (by decide +kernel), (by decide +kernel)⟩
def M_Ref_isEnded : xa_Mu := (⟨"StoneBoardModel", "isEnded", "()Z"⟩, prog_11_method_13_code, 1, (some .boolean), [])
theorem b_Ref_isEnded : xa_LB M_Ref_isEnded 0 := ⟨(xa_m4 166 rfl rfl), (xa_m1 12 rfl rfl), (by decide +kernel), (by decide +kernel), (by decide +kernel)⟩
def M_Ref_attempt : xa_Mu := (⟨"StoneBoardModel", "attempt", "(II)V"⟩, prog_11_method_9_code, 7, none, [])
theorem b_Ref_attempt : xa_LB M_Ref_attempt 2 := ⟨(xa_m4 170 rfl rfl), (xa_m1 12 rfl rfl), (by decide +kernel), (by decide +kernel), (by decide +kernel)⟩
def M_Ref_takeOff : xa_Mu := (⟨"StoneBoardModel", "takeOff", "([I)I"⟩, prog_11_method_8_code, 3, (some .int), [])
theorem b_Ref_takeOff : xa_LB M_Ref_takeOff 1 := ⟨(xa_m4 174 rfl rfl), (xa_m1 12 rfl rfl), (by decide +kernel), (by decide +kernel), (by decide +kernel)⟩
def M_Ref_latest : xa_Mu := (⟨"StoneBoardModel", "latest", "()I"⟩, prog_11_method_12_code, 2, (some .int), [])
theorem b_Ref_latest : xa_LB M_Ref_latest 0 := ⟨(xa_m4 178 rfl rfl), (xa_m1 12 rfl rfl), (by decide +kernel), (by decide +kernel), (by decide +kernel)⟩
def M_Ref_isTrial : xa_Mu := (⟨"StoneBoardModel", "isTrial", "(I)Z"⟩, prog_11_method_10_code, 4, (some .boolean), [])
theorem b_Ref_isTrial : xa_LB M_Ref_isTrial 1 := ⟨(xa_m4 182 rfl rfl), (xa_m1 12 rfl rfl), (by decide +kernel), (by decide +kernel), (by decide +kernel)⟩
def M_Ref_why : xa_Mu := (⟨"StoneBoardModel", "why", "(I)I"⟩, prog_11_method_23_code, 2, (some .int), [])
theorem b_Ref_why : xa_LB M_Ref_why 1 := ⟨(xa_m4 186 rfl rfl), (xa_m1 12 rfl rfl), (by decide +kernel), (by decide +kernel), (by decide +kernel)⟩
def M_Ref_allowed : xa_Mu := (⟨"StoneBoardModel", "allowed", "()I"⟩, prog_11_method_24_code, 3, (some .int), [])
theorem b_Ref_allowed : xa_LB M_Ref_allowed 0 := ⟨(xa_m4 190 rfl rfl), (xa_m1 12 rfl rfl), (by decide +kernel), (by decide +kernel), (by decide +kernel)⟩
def M_Ref_pass : xa_Mu := (⟨"StoneBoardModel", "pass", "()Z"⟩, prog_11_method_25_code, 1, (some .boolean), [])
theorem b_Ref_pass : xa_LB M_Ref_pass 0 := ⟨(xa_m4 194 rfl rfl), (xa_m1 12 rfl rfl), (by decide +kernel), (by decide +kernel), (by decide +kernel)⟩
def M_Ref_back : xa_Mu := (⟨"StoneBoardModel", "back", "()I"⟩, prog_11_method_26_code, 2, (some .int), [])
theorem b_Ref_back : xa_LB M_Ref_back 0 := ⟨(xa_m4 198 rfl rfl), (xa_m1 12 rfl rfl), (by decide +kernel), (by decide +kernel), (by decide +kernel)⟩
def M_Ref_moves : xa_Mu := (⟨"StoneBoardModel", "moves", "()I"⟩, prog_11_method_27_code, 1, (some .int), [])
theorem b_Ref_moves : xa_LB M_Ref_moves 0 := ⟨(xa_m4 202 rfl rfl), (xa_m1 12 rfl rfl), (by decide +kernel), (by decide +kernel), (by decide +kernel)⟩
def M_Ref_move : xa_Mu := (⟨"StoneBoardModel", "move", "(I)I"⟩, prog_11_method_28_code, 2, (some .int), [])
theorem b_Ref_move : xa_LB M_Ref_move 1 := ⟨(xa_m4 206 rfl rfl), (xa_m1 12 rfl rfl), (by decide +kernel), (by decide +kernel), (by decide +kernel)⟩
def M_Ref_taken : xa_Mu := (⟨"StoneBoardModel", "taken", "(I)I"⟩, prog_11_method_30_code, 4, (some .int), [])
theorem b_Ref_taken : xa_LB M_Ref_taken 1 := ⟨(xa_m4 210 rfl rfl), (xa_m1 12 rfl rfl), (by decide +kernel), (by decide +kernel), (by decide +kernel)⟩
def M_Ref_noSide : xa_Mu := (⟨"StoneBoardModel", "noSide", "(II)Z"⟩, prog_11_method_29_code, 3, (some .boolean), [])
theorem b_Ref_noSide : xa_LB M_Ref_noSide 2 := ⟨(xa_m4 214 rfl rfl), (xa_m1 12 rfl rfl), (by decide +kernel), (by decide +kernel), (by decide +kernel)⟩
def M_Ref_string : xa_Mu := (⟨"StoneBoardModel", "string", "(II)I"⟩, prog_11_method_31_code, 4, (some .int), [])
theorem b_Ref_string : xa_LB M_Ref_string 2 := ⟨(xa_m4 218 rfl rfl), (xa_m1 12 rfl rfl), (by decide +kernel), (by decide +kernel), (by decide +kernel)⟩
def M_Ref_strings : xa_Mu := (⟨"StoneBoardModel", "strings", "(I)I"⟩, prog_11_method_33_code, 2, (some .int), [])
theorem b_Ref_strings : xa_LB M_Ref_strings 1 := ⟨(xa_m4 222 rfl rfl), (xa_m1 12 rfl rfl), (by decide +kernel), (by decide +kernel), (by decide +kernel)⟩
def M_Ref_number : xa_Mu := (⟨"StoneBoardModel", "number", "(I)V"⟩, prog_11_method_32_code, 4, none, [])
theorem b_Ref_number : xa_LB M_Ref_number 1 := ⟨(xa_m4 226 rfl rfl), (xa_m1 12 rfl rfl), (by decide +kernel), (by decide +kernel), (by decide +kernel)⟩
def M_Ref_ground : xa_Mu := (⟨"StoneBoardModel", "ground", "(I)I"⟩, prog_11_method_36_code, 4, (some .int), [])
theorem b_Ref_ground : xa_LB M_Ref_ground 1 := ⟨(xa_m4 230 rfl rfl), (xa_m1 12 rfl rfl), (by decide +kernel), (by decide +kernel), (by decide +kernel)⟩
def M_Ref_ownerOf : xa_Mu := (⟨"StoneBoardModel", "ownerOf", "(I)I"⟩, prog_11_method_35_code, 3, (some .int), [])
theorem b_Ref_ownerOf : xa_LB M_Ref_ownerOf 1 := ⟨(xa_m4 234 rfl rfl), (xa_m1 12 rfl rfl), (by decide +kernel), (by decide +kernel), (by decide +kernel)⟩
def M_Ref_met : xa_Mu := (⟨"StoneBoardModel", "met", "(I)I"⟩, prog_11_method_34_code, 6, (some .int), [])
theorem b_Ref_met : xa_LB M_Ref_met 1 := ⟨(xa_m4 238 rfl rfl), (xa_m1 12 rfl rfl), (by decide +kernel), (by decide +kernel), (by decide +kernel)⟩
def M_Ref_owner : xa_Mu := (⟨"StoneBoardModel", "owner", "(I)I"⟩, prog_11_method_37_code, 2, (some .int), [])
theorem b_Ref_owner : xa_LB M_Ref_owner 1 := ⟨(xa_m5 2 rfl rfl), (xa_m1 12 rfl rfl), (by decide +kernel), (by decide +kernel), (by decide +kernel)⟩
def M_Ref_alive : xa_Mu := (⟨"StoneBoardModel", "alive", "(I)Z"⟩, prog_11_method_45_code, 2, (some .boolean), [])
theorem b_Ref_alive : xa_LB M_Ref_alive 1 := ⟨(xa_m5 6 rfl rfl), (xa_m1 12 rfl rfl), (by decide +kernel), (by decide +kernel), (by decide +kernel)⟩
def M_Ref_judge : xa_Mu := (⟨"StoneBoardModel", "judge", "(I)V"⟩, prog_11_method_44_code, 4, none, [])
theorem b_Ref_judge : xa_LB M_Ref_judge 1 := ⟨(xa_m5 10 rfl rfl), (xa_m1 12 rfl rfl), (by decide +kernel), (by decide +kernel), (by decide +kernel)⟩
def M_Ref_divide : xa_Mu := (⟨"StoneBoardModel", "divide", "(I)V"⟩, prog_11_method_38_code, 3, none, [])
theorem b_Ref_divide : xa_LB M_Ref_divide 1 := ⟨(xa_m5 14 rfl rfl), (xa_m1 12 rfl rfl), (by decide +kernel), (by decide +kernel), (by decide +kernel)⟩
def M_Ref_spread : xa_Mu := (⟨"StoneBoardModel", "spread", "(II)V"⟩, prog_11_method_39_code, 6, none, [])
theorem b_Ref_spread : xa_LB M_Ref_spread 2 := ⟨(xa_m5 18 rfl rfl), (xa_m1 12 rfl rfl), (by decide +kernel), (by decide +kernel), (by decide +kernel)⟩
def M_Ref_regionsOf : xa_Mu := (⟨"StoneBoardModel", "regionsOf", "(I)I"⟩, prog_11_method_42_code, 4, (some .int), [])
theorem b_Ref_regionsOf : xa_LB M_Ref_regionsOf 1 := ⟨(xa_m5 22 rfl rfl), (xa_m1 12 rfl rfl), (by decide +kernel), (by decide +kernel), (by decide +kernel)⟩
def M_Ref_belongs : xa_Mu := (⟨"StoneBoardModel", "belongs", "(II)Z"⟩, prog_11_method_41_code, 5, (some .boolean), [])
theorem b_Ref_belongs : xa_LB M_Ref_belongs 2 := ⟨(xa_m5 26 rfl rfl), (xa_m1 12 rfl rfl), (by decide +kernel), (by decide +kernel), (by decide +kernel)⟩
def M_Ref_isBeside : xa_Mu := (⟨"StoneBoardModel", "isBeside", "(II)Z"⟩, prog_11_method_40_code, 6, (some .boolean), [])
theorem b_Ref_isBeside : xa_LB M_Ref_isBeside 2 := ⟨(xa_m5 30 rfl rfl), (xa_m1 12 rfl rfl), (by decide +kernel), (by decide +kernel), (by decide +kernel)⟩
def M_Ref_fellRegions : xa_Mu := (⟨"StoneBoardModel", "fellRegions", "()V"⟩, prog_11_method_43_code, 4, none, [])
theorem b_Ref_fellRegions : xa_LB M_Ref_fellRegions 0 := ⟨(xa_m5 34 rfl rfl), (xa_m1 12 rfl rfl), (by decide +kernel), (by decide +kernel), (by decide +kernel)⟩
def M_Ref_safe : xa_Mu := (⟨"StoneBoardModel", "safe", "(I)I"⟩, prog_11_method_46_code, 5, (some .int), [])
theorem b_Ref_safe : xa_LB M_Ref_safe 1 := ⟨(xa_m5 38 rfl rfl), (xa_m1 12 rfl rfl), (by decide +kernel), (by decide +kernel), (by decide +kernel)⟩
def M_Ref_ago : xa_Mu := (⟨"StoneBoardModel", "ago", "(I)I"⟩, prog_11_method_47_code, 3, (some .int), [])
theorem b_Ref_ago : xa_LB M_Ref_ago 1 := ⟨(xa_m5 42 rfl rfl), (xa_m1 12 rfl rfl), (by decide +kernel), (by decide +kernel), (by decide +kernel)⟩
theorem k_Law_76 : xa_LI "StoneBoardLaw" 76 M_SB_init 1 := ⟨b_SB_init, (xa_m1 22 rfl rfl), (xa_m1 23 rfl rfl), rfl, rfl⟩
theorem k_SB_1 : Cond.methodLink "StoneBoard" 1 Lib.objectInit ∈ xa_ws := (xa_m1 25 rfl rfl)
theorem k_SB_9 : xa_LS "StoneBoard" 9 M_Math_min 2 := ⟨b_Math_min, (xa_m1 28 rfl rfl), (xa_m1 29 rfl rfl)⟩
theorem k_SB_15 : xa_LS "StoneBoard" 15 M_Math_max 2 := ⟨b_Math_max, (xa_m1 31 rfl rfl), (xa_m1 32 rfl rfl)⟩
theorem k_SB_20 : xa_LI "StoneBoard" 20 M_Grid_init 1 := ⟨b_Grid_init, (xa_m1 36 rfl rfl), (xa_m1 37 rfl rfl), rfl, rfl⟩
theorem k_Grid_3 : Cond.methodLink "StoneBoard$Grid" 3 Lib.objectInit ∈ xa_ws := (xa_m1 39 rfl rfl)
theorem k_SB_40 : xa_LI "StoneBoard" 40 M_Chart_init 2 := ⟨b_Chart_init, (xa_m1 55 rfl rfl), (xa_m1 56 rfl rfl), rfl, rfl⟩
theorem k_Chart_3 : Cond.methodLink "StoneBoard$Chart" 3 Lib.objectInit ∈ xa_ws := (xa_m1 58 rfl rfl)
theorem k_Chart_21 : xa_LI "StoneBoard$Chart" 21 M_Areas_init 1 := ⟨b_Areas_init, (xa_m1 61 rfl rfl), (xa_m1 62 rfl rfl), rfl, rfl⟩
theorem k_Areas_3 : Cond.methodLink "StoneBoard$Areas" 3 Lib.objectInit ∈ xa_ws := (xa_m1 64 rfl rfl)
theorem k_Chart_46 : xa_LV "StoneBoard$Chart" 46 M_Chart_draw 2 0 := ⟨b_Chart_draw, (xa_m1 83 rfl rfl), (xa_m1 84 rfl rfl), (xa_m1 85 rfl rfl), _, rfl, rfl⟩
theorem k_Chart_49 : xa_LV "StoneBoard$Chart" 49 M_Areas_split 1 1 := ⟨b_Areas_split, (xa_m1 87 rfl rfl), (xa_m1 88 rfl rfl), (xa_m1 89 rfl rfl), _, rfl, rfl⟩
theorem k_Areas_31 : xa_LS "StoneBoard$Areas" 31 M_Arrays_fill 2 := ⟨b_Arrays_fill, (xa_m1 91 rfl rfl), (xa_m1 92 rfl rfl)⟩
theorem k_Areas_38 : xa_LV "StoneBoard$Areas" 38 M_Areas_spread 1 3 := ⟨b_Areas_spread, (xa_m1 94 rfl rfl), (xa_m1 96 rfl rfl), (xa_ms 0 rfl rfl), _, rfl, rfl⟩
theorem k_Areas_42 : xa_LV "StoneBoard$Areas" 42 M_Grid_neighbour 3 2 := ⟨b_Grid_neighbour, (xa_m1 98 rfl rfl), (xa_m1 99 rfl rfl), (xa_m1 100 rfl rfl), _, rfl, rfl⟩
theorem k_Chart_53 : xa_LS "StoneBoard$Chart" 53 M_Arrays_fill 2 := ⟨b_Arrays_fill, (xa_m1 102 rfl rfl), (xa_m1 92 rfl rfl)⟩
theorem k_Chart_60 : xa_LV "StoneBoard$Chart" 60 M_Chart_isFree 2 1 := ⟨b_Chart_isFree, (xa_m1 103 rfl rfl), (xa_m1 105 rfl rfl), (xa_ms 1 rfl rfl), _, rfl, rfl⟩
theorem k_Chart_68 : xa_LV "StoneBoard$Chart" 68 M_Areas_leastOf 1 1 := ⟨b_Areas_leastOf, (xa_m1 107 rfl rfl), (xa_m1 108 rfl rfl), (xa_m1 109 rfl rfl), _, rfl, rfl⟩
theorem k_Chart_64 : xa_LV "StoneBoard$Chart" 64 M_Chart_findHolder 2 1 := ⟨b_Chart_findHolder, (xa_m1 111 rfl rfl), (xa_m1 113 rfl rfl), (xa_ms 2 rfl rfl), _, rfl, rfl⟩
theorem k_Chart_75 : xa_LV "StoneBoard$Chart" 75 M_Areas_sizeOf 1 1 := ⟨b_Areas_sizeOf, (xa_m1 115 rfl rfl), (xa_m1 116 rfl rfl), (xa_m1 117 rfl rfl), _, rfl, rfl⟩
theorem k_Chart_78 : xa_LV "StoneBoard$Chart" 78 M_Areas_pointOf 1 2 := ⟨b_Areas_pointOf, (xa_m1 119 rfl rfl), (xa_m1 120 rfl rfl), (xa_m1 121 rfl rfl), _, rfl, rfl⟩
theorem k_Chart_82 : xa_LV "StoneBoard$Chart" 82 M_Grid_neighbour 3 2 := ⟨b_Grid_neighbour, (xa_m1 123 rfl rfl), (xa_m1 99 rfl rfl), (xa_m1 100 rfl rfl), _, rfl, rfl⟩
theorem k_Chart_85 : xa_LSN "StoneBoard$Chart" 85 M_SB_otherSide 1 "StoneBoard" := ⟨b_SB_otherSide, (xa_m1 124 rfl rfl), (xa_m1 125 rfl rfl)⟩
theorem k_Chart_71 : xa_LV "StoneBoard$Chart" 71 M_Chart_countBreaths 2 1 := ⟨b_Chart_countBreaths, (xa_m1 127 rfl rfl), (xa_m1 129 rfl rfl), (xa_ms 3 rfl rfl), _, rfl, rfl⟩
theorem k_Chart_88 : xa_LS "StoneBoard$Chart" 88 M_Math_min 2 := ⟨b_Math_min, (xa_m1 131 rfl rfl), (xa_m1 29 rfl rfl)⟩
theorem k_SB_49 : xa_LI "StoneBoard" 49 M_Trial_init 3 := ⟨b_Trial_init, (xa_m1 158 rfl rfl), (xa_m1 159 rfl rfl), rfl, rfl⟩
theorem k_Trial_3 : Cond.methodLink "StoneBoard$Trial" 3 Lib.objectInit ∈ xa_ws := (xa_m1 161 rfl rfl)
theorem k_Trial_29 : xa_LS "StoneBoard$Trial" 29 M_Packed_freeBoard 1 := ⟨b_Packed_freeBoard, (xa_m1 162 rfl rfl), (xa_m1 163 rfl rfl)⟩
theorem k_SB_58 : xa_LI "StoneBoard" 58 M_History_init 1 := ⟨b_History_init, (xa_m1 190 rfl rfl), (xa_m1 191 rfl rfl), rfl, rfl⟩
theorem k_History_3 : Cond.methodLink "StoneBoard$History" 3 Lib.objectInit ∈ xa_ws := (xa_m1 193 rfl rfl)
theorem k_History_17 : xa_LS "StoneBoard$History" 17 M_Packed_freeBoard 1 := ⟨b_Packed_freeBoard, (xa_m1 196 rfl rfl), (xa_m1 163 rfl rfl)⟩
theorem k_History_23 : xa_LV "StoneBoard$History" 23 M_History_keep 4 5 := ⟨b_History_keep, (xa_m1 197 rfl rfl), (xa_m1 199 rfl rfl), (xa_ms 4 rfl rfl), _, rfl, rfl⟩
theorem k_History_61 : xa_LS "StoneBoard$History" 61 M_History_bucketOf 1 := ⟨b_History_bucketOf, (xa_m1 201 rfl rfl), (xa_m1 202 rfl rfl)⟩
theorem k_History_75 : xa_LI "StoneBoard$History" 75 M_Pos_init 6 := ⟨b_Pos_init, (xa_m1 206 rfl rfl), (xa_m1 207 rfl rfl), rfl, rfl⟩
theorem k_Pos_1 : Cond.methodLink "StoneBoard$Position" 1 Lib.objectInit ∈ xa_ws := (xa_m1 209 rfl rfl)
theorem k_SB_65 : xa_LI "StoneBoard" 65 M_Life_init 2 := ⟨b_Life_init, (xa_m2 13 rfl rfl), (xa_m2 14 rfl rfl), rfl, rfl⟩
theorem k_Life_3 : Cond.methodLink "StoneBoard$Life" 3 Lib.objectInit ∈ xa_ws := (xa_m2 16 rfl rfl)
theorem k_Life_30 : xa_LI "StoneBoard$Life" 30 M_Areas_init 1 := ⟨b_Areas_init, (xa_m2 18 rfl rfl), (xa_m1 62 rfl rfl), rfl, rfl⟩
theorem k_Law_81 : xa_LV "StoneBoardLaw" 81 M_SB_size 0 0 := ⟨b_SB_size, (xa_m2 67 rfl rfl), (xa_m2 68 rfl rfl), (xa_m2 69 rfl rfl), _, rfl, rfl⟩
theorem k_Law_100 : xa_LV "StoneBoardLaw" 100 M_SB_turn 0 0 := ⟨b_SB_turn, (xa_m2 71 rfl rfl), (xa_m2 72 rfl rfl), (xa_m2 73 rfl rfl), _, rfl, rfl⟩
theorem k_SB_105 : xa_LS "StoneBoard" 105 M_SB_otherSide 1 := ⟨b_SB_otherSide, (xa_m2 75 rfl rfl), (xa_m1 125 rfl rfl)⟩
theorem k_Law_110 : xa_LV "StoneBoardLaw" 110 M_SB_allowed 0 0 := ⟨b_SB_allowed, (xa_m2 76 rfl rfl), (xa_m2 77 rfl rfl), (xa_m2 78 rfl rfl), _, rfl, rfl⟩
theorem k_SB_112 : xa_LV "StoneBoard" 112 M_SB_judgeMove 0 1 := ⟨b_SB_judgeMove, (xa_m2 80 rfl rfl), (xa_m2 82 rfl rfl), (xa_ms 5 rfl rfl), _, rfl, rfl⟩
theorem k_SB_135 : xa_LV "StoneBoard" 135 M_History_hasEnded 4 0 := ⟨b_History_hasEnded, (xa_m2 84 rfl rfl), (xa_m2 85 rfl rfl), (xa_m2 86 rfl rfl), _, rfl, rfl⟩
theorem k_SB_200 : xa_LV "StoneBoard" 200 M_SB_findBoardBehind 0 1 := ⟨b_SB_findBoardBehind, (xa_m2 88 rfl rfl), (xa_m2 90 rfl rfl), (xa_ms 6 rfl rfl), _, rfl, rfl⟩
theorem k_SB_205 : xa_LV "StoneBoard" 205 M_SB_turn 0 0 := ⟨b_SB_turn, (xa_m2 92 rfl rfl), (xa_m2 72 rfl rfl), (xa_m2 73 rfl rfl), _, rfl, rfl⟩
theorem k_SB_208 : xa_LV "StoneBoard" 208 M_Trial_attempt 7 3 := ⟨b_Trial_attempt, (xa_m2 93 rfl rfl), (xa_m2 94 rfl rfl), (xa_m2 95 rfl rfl), _, rfl, rfl⟩
theorem k_Trial_45 : xa_LS "StoneBoard$Trial" 45 M_Packed_setKind 3 := ⟨b_Packed_setKind, (xa_m2 100 rfl rfl), (xa_m2 101 rfl rfl)⟩
theorem k_Trial_52 : xa_LSN "StoneBoard$Trial" 52 M_SB_otherSide 1 "StoneBoard" := ⟨b_SB_otherSide, (xa_m2 105 rfl rfl), (xa_m1 125 rfl rfl)⟩
theorem k_Trial_59 : xa_LV "StoneBoard$Trial" 59 M_Trial_takeClosedStrings 7 2 := ⟨b_Trial_takeClosedStrings, (xa_m2 106 rfl rfl), (xa_m2 108 rfl rfl), (xa_ms 7 rfl rfl), _, rfl, rfl⟩
theorem k_Trial_67 : xa_LV "StoneBoard$Trial" 67 M_Grid_neighbour 3 2 := ⟨b_Grid_neighbour, (xa_m2 110 rfl rfl), (xa_m1 99 rfl rfl), (xa_m1 100 rfl rfl), _, rfl, rfl⟩
theorem k_Trial_71 : xa_LV "StoneBoard$Trial" 71 M_Trial_isLastBreathOf 7 1 := ⟨b_Trial_isLastBreathOf, (xa_m2 111 rfl rfl), (xa_m2 113 rfl rfl), (xa_ms 8 rfl rfl), _, rfl, rfl⟩
theorem k_Trial_85 : xa_LV "StoneBoard$Trial" 85 M_Areas_areaAt 1 1 := ⟨b_Areas_areaAt, (xa_m2 115 rfl rfl), (xa_m2 116 rfl rfl), (xa_m2 117 rfl rfl), _, rfl, rfl⟩
theorem k_Trial_100 : xa_LV "StoneBoard$Trial" 100 M_Chart_breathsOf 2 1 := ⟨b_Chart_breathsOf, (xa_m2 119 rfl rfl), (xa_m2 120 rfl rfl), (xa_m2 121 rfl rfl), _, rfl, rfl⟩
theorem k_Trial_75 : xa_LS "StoneBoard$Trial" 75 M_Packed_kindAt 2 := ⟨b_Packed_kindAt, (xa_m2 123 rfl rfl), (xa_m2 124 rfl rfl)⟩
theorem k_Trial_90 : xa_LV "StoneBoard$Trial" 90 M_Trial_takeString 7 1 := ⟨b_Trial_takeString, (xa_m2 126 rfl rfl), (xa_m2 128 rfl rfl), (xa_ms 9 rfl rfl), _, rfl, rfl⟩
theorem k_Trial_94 : xa_LV "StoneBoard$Trial" 94 M_Areas_sizeOf 1 1 := ⟨b_Areas_sizeOf, (xa_m2 130 rfl rfl), (xa_m1 116 rfl rfl), (xa_m1 117 rfl rfl), _, rfl, rfl⟩
theorem k_Trial_97 : xa_LV "StoneBoard$Trial" 97 M_Areas_pointOf 1 2 := ⟨b_Areas_pointOf, (xa_m2 131 rfl rfl), (xa_m1 120 rfl rfl), (xa_m1 121 rfl rfl), _, rfl, rfl⟩
theorem k_Trial_63 : xa_LV "StoneBoard$Trial" 63 M_Trial_findsBreath 7 2 := ⟨b_Trial_findsBreath, (xa_m2 132 rfl rfl), (xa_m2 134 rfl rfl), (xa_ms 10 rfl rfl), _, rfl, rfl⟩
theorem k_SB_212 : xa_LV "StoneBoard" 212 M_History_find 4 1 := ⟨b_History_find, (xa_m2 136 rfl rfl), (xa_m2 137 rfl rfl), (xa_m2 138 rfl rfl), _, rfl, rfl⟩
theorem k_History_65 : xa_LV "StoneBoard$History" 65 M_Pos_hasBoard 6 1 := ⟨b_Pos_hasBoard, (xa_m2 140 rfl rfl), (xa_m2 141 rfl rfl), (xa_m2 142 rfl rfl), _, rfl, rfl⟩
theorem k_Law_121 : xa_LV "StoneBoardLaw" 121 M_SB_moves 0 0 := ⟨b_SB_moves, (xa_m2 144 rfl rfl), (xa_m2 145 rfl rfl), (xa_m2 146 rfl rfl), _, rfl, rfl⟩
theorem k_Law_70 : xa_LS "StoneBoardLaw" 70 M_Law_cell 2 := ⟨b_Law_cell, (xa_m2 148 rfl rfl), (xa_m2 149 rfl rfl)⟩
theorem k_Law_7 : xa_LV "StoneBoardLaw" 7 M_SB_at 0 1 := ⟨b_SB_at, (xa_m2 155 rfl rfl), (xa_m2 156 rfl rfl), (xa_m2 157 rfl rfl), _, rfl, rfl⟩
theorem k_SB_73 : xa_LV "StoneBoard" 73 M_SB_checkPoint 0 1 := ⟨b_SB_checkPoint, (xa_m2 159 rfl rfl), (xa_m2 161 rfl rfl), (xa_ms 11 rfl rfl), _, rfl, rfl⟩
theorem k_Law_15 : xa_LV "StoneBoardLaw" 15 M_SB_put 0 2 := ⟨b_SB_put, (xa_m2 231 rfl rfl), (xa_m2 232 rfl rfl), (xa_m2 233 rfl rfl), _, rfl, rfl⟩
theorem k_SB_76 : xa_LS "StoneBoard" 76 M_SB_checkKind 1 := ⟨b_SB_checkKind, (xa_m2 235 rfl rfl), (xa_m2 236 rfl rfl)⟩
theorem k_SB_79 : xa_LV "StoneBoard" 79 M_SB_checkNoMoveYet 0 0 := ⟨b_SB_checkNoMoveYet, (xa_m3 13 rfl rfl), (xa_m3 15 rfl rfl), (xa_ms 13 rfl rfl), _, rfl, rfl⟩
theorem k_SB_82 : xa_LV "StoneBoard" 82 M_Chart_draw 2 0 := ⟨b_Chart_draw, (xa_m3 32 rfl rfl), (xa_m1 84 rfl rfl), (xa_m1 85 rfl rfl), _, rfl, rfl⟩
theorem k_SB_85 : xa_LV "StoneBoard" 85 M_Chart_hasStringWithoutBreath 2 0 := ⟨b_Chart_hasStringWithoutBreath, (xa_m3 33 rfl rfl), (xa_m3 34 rfl rfl), (xa_m3 35 rfl rfl), _, rfl, rfl⟩
theorem k_SB_89 : xa_LV "StoneBoard" 89 M_History_beginWith 4 2 := ⟨b_History_beginWith, (xa_m3 37 rfl rfl), (xa_m3 38 rfl rfl), (xa_m3 39 rfl rfl), _, rfl, rfl⟩
theorem k_History_40 : xa_LS "StoneBoard$History" 40 M_Packed_setKind 3 := ⟨b_Packed_setKind, (xa_m3 48 rfl rfl), (xa_m2 101 rfl rfl)⟩
theorem k_History_44 : xa_LV "StoneBoard$History" 44 M_History_takeOutOfBucket 4 1 := ⟨b_History_takeOutOfBucket, (xa_m3 49 rfl rfl), (xa_m3 51 rfl rfl), (xa_ms 14 rfl rfl), _, rfl, rfl⟩
theorem k_Law_23 : xa_LV "StoneBoardLaw" 23 M_SB_first 0 1 := ⟨b_SB_first, (xa_m3 56 rfl rfl), (xa_m3 57 rfl rfl), (xa_m3 58 rfl rfl), _, rfl, rfl⟩
theorem k_SB_93 : xa_LS "StoneBoard" 93 M_SB_checkSide 1 := ⟨b_SB_checkSide, (xa_m3 60 rfl rfl), (xa_m3 61 rfl rfl)⟩
theorem k_Law_27 : xa_LV "StoneBoardLaw" 27 M_SB_play 0 1 := ⟨b_SB_play, (xa_m3 66 rfl rfl), (xa_m3 67 rfl rfl), (xa_m3 68 rfl rfl), _, rfl, rfl⟩
theorem k_SB_109 : xa_LV "StoneBoard" 109 M_SB_checkRoomForMove 0 0 := ⟨b_SB_checkRoomForMove, (xa_m3 70 rfl rfl), (xa_m3 72 rfl rfl), (xa_ms 15 rfl rfl), _, rfl, rfl⟩
theorem k_SB_128 : xa_LV "StoneBoard" 128 M_History_addMove 4 4 := ⟨b_History_addMove, (xa_m3 74 rfl rfl), (xa_m3 75 rfl rfl), (xa_m3 76 rfl rfl), _, rfl, rfl⟩
theorem k_SB_132 : xa_LV "StoneBoard" 132 M_SB_showLatestBoard 0 0 := ⟨b_SB_showLatestBoard, (xa_m3 78 rfl rfl), (xa_m3 80 rfl rfl), (xa_ms 16 rfl rfl), _, rfl, rfl⟩
theorem k_SB_216 : xa_LS "StoneBoard" 216 M_Packed_unpack 2 := ⟨b_Packed_unpack, (xa_m3 82 rfl rfl), (xa_m3 83 rfl rfl)⟩
theorem k_Packed_13 : xa_LS "StoneBoard$Packed" 13 M_Packed_kindAt 2 := ⟨b_Packed_kindAt, (xa_m3 85 rfl rfl), (xa_m2 124 rfl rfl)⟩
theorem k_Law_30 : xa_LV "StoneBoardLaw" 30 M_SB_why 0 1 := ⟨b_SB_why, (xa_m3 89 rfl rfl), (xa_m3 90 rfl rfl), (xa_m3 91 rfl rfl), _, rfl, rfl⟩
theorem k_Law_33 : xa_LV "StoneBoardLaw" 33 M_SB_pass 0 0 := ⟨b_SB_pass, (xa_m3 96 rfl rfl), (xa_m3 97 rfl rfl), (xa_m3 98 rfl rfl), _, rfl, rfl⟩
theorem k_SB_138 : xa_LV "StoneBoard" 138 M_History_addPass 4 0 := ⟨b_History_addPass, (xa_m3 100 rfl rfl), (xa_m3 101 rfl rfl), (xa_m3 102 rfl rfl), _, rfl, rfl⟩
theorem k_Law_37 : xa_LV "StoneBoardLaw" 37 M_SB_back 0 0 := ⟨b_SB_back, (xa_m3 107 rfl rfl), (xa_m3 108 rfl rfl), (xa_m3 109 rfl rfl), _, rfl, rfl⟩
theorem k_SB_141 : xa_LV "StoneBoard" 141 M_History_dropLatest 4 0 := ⟨b_History_dropLatest, (xa_m3 111 rfl rfl), (xa_m3 112 rfl rfl), (xa_m3 113 rfl rfl), _, rfl, rfl⟩
theorem k_Law_41 : xa_LV "StoneBoardLaw" 41 M_SB_move 0 1 := ⟨b_SB_move, (xa_m3 118 rfl rfl), (xa_m3 119 rfl rfl), (xa_m3 120 rfl rfl), _, rfl, rfl⟩
theorem k_SB_147 : xa_LV "StoneBoard" 147 M_History_pointOfMove 4 1 := ⟨b_History_pointOfMove, (xa_m3 122 rfl rfl), (xa_m3 123 rfl rfl), (xa_m3 124 rfl rfl), _, rfl, rfl⟩
theorem k_Law_44 : xa_LV "StoneBoardLaw" 44 M_SB_taken 0 1 := ⟨b_SB_taken, (xa_m3 129 rfl rfl), (xa_m3 130 rfl rfl), (xa_m3 131 rfl rfl), _, rfl, rfl⟩
theorem k_Law_47 : xa_LV "StoneBoardLaw" 47 M_SB_string 0 2 := ⟨b_SB_string, (xa_m3 136 rfl rfl), (xa_m3 137 rfl rfl), (xa_m3 138 rfl rfl), _, rfl, rfl⟩
theorem k_SB_163 : xa_LV "StoneBoard" 163 M_Areas_areaAt 1 1 := ⟨b_Areas_areaAt, (xa_m3 140 rfl rfl), (xa_m2 116 rfl rfl), (xa_m2 117 rfl rfl), _, rfl, rfl⟩
theorem k_SB_168 : xa_LV "StoneBoard" 168 M_Areas_sizeOf 1 1 := ⟨b_Areas_sizeOf, (xa_m3 141 rfl rfl), (xa_m1 116 rfl rfl), (xa_m1 117 rfl rfl), _, rfl, rfl⟩
theorem k_SB_171 : xa_LV "StoneBoard" 171 M_Chart_breathsOf 2 1 := ⟨b_Chart_breathsOf, (xa_m3 142 rfl rfl), (xa_m2 120 rfl rfl), (xa_m2 121 rfl rfl), _, rfl, rfl⟩
theorem k_SB_174 : xa_LV "StoneBoard" 174 M_Areas_leastOf 1 1 := ⟨b_Areas_leastOf, (xa_m3 143 rfl rfl), (xa_m1 108 rfl rfl), (xa_m1 109 rfl rfl), _, rfl, rfl⟩
theorem k_SB_177 : xa_LV "StoneBoard" 177 M_Chart_leastBreathOf 2 1 := ⟨b_Chart_leastBreathOf, (xa_m3 144 rfl rfl), (xa_m3 145 rfl rfl), (xa_m3 146 rfl rfl), _, rfl, rfl⟩
theorem k_Law_51 : xa_LV "StoneBoardLaw" 51 M_SB_strings 0 1 := ⟨b_SB_strings, (xa_m3 151 rfl rfl), (xa_m3 152 rfl rfl), (xa_m3 153 rfl rfl), _, rfl, rfl⟩
theorem k_SB_180 : xa_LV "StoneBoard" 180 M_Chart_countStrings 2 1 := ⟨b_Chart_countStrings, (xa_m3 155 rfl rfl), (xa_m3 156 rfl rfl), (xa_m3 157 rfl rfl), _, rfl, rfl⟩
theorem k_Law_54 : xa_LV "StoneBoardLaw" 54 M_SB_ground 0 1 := ⟨b_SB_ground, (xa_m3 162 rfl rfl), (xa_m3 163 rfl rfl), (xa_m3 164 rfl rfl), _, rfl, rfl⟩
theorem k_SB_183 : xa_LV "StoneBoard" 183 M_Chart_countGround 2 1 := ⟨b_Chart_countGround, (xa_m3 166 rfl rfl), (xa_m3 167 rfl rfl), (xa_m3 168 rfl rfl), _, rfl, rfl⟩
theorem k_Law_57 : xa_LV "StoneBoardLaw" 57 M_SB_owner 0 1 := ⟨b_SB_owner, (xa_m3 173 rfl rfl), (xa_m3 174 rfl rfl), (xa_m3 175 rfl rfl), _, rfl, rfl⟩
theorem k_SB_186 : xa_LV "StoneBoard" 186 M_Chart_holderOf 2 1 := ⟨b_Chart_holderOf, (xa_m3 177 rfl rfl), (xa_m3 178 rfl rfl), (xa_m3 179 rfl rfl), _, rfl, rfl⟩
theorem k_Law_60 : xa_LV "StoneBoardLaw" 60 M_SB_alive 0 1 := ⟨b_SB_alive, (xa_m3 184 rfl rfl), (xa_m3 185 rfl rfl), (xa_m3 186 rfl rfl), _, rfl, rfl⟩
theorem k_SB_189 : xa_LV "StoneBoard" 189 M_Life_judge 5 1 := ⟨b_Life_judge, (xa_m3 188 rfl rfl), (xa_m3 189 rfl rfl), (xa_m3 190 rfl rfl), _, rfl, rfl⟩
theorem k_Life_47 : xa_LV "StoneBoard$Life" 47 M_Areas_split 1 1 := ⟨b_Areas_split, (xa_m3 192 rfl rfl), (xa_m1 88 rfl rfl), (xa_m1 89 rfl rfl), _, rfl, rfl⟩
theorem k_Life_52 : xa_LV "StoneBoard$Life" 52 M_Life_noteStringsOf 5 1 := ⟨b_Life_noteStringsOf, (xa_m3 193 rfl rfl), (xa_m3 195 rfl rfl), (xa_ms 17 rfl rfl), _, rfl, rfl⟩
theorem k_Life_73 : xa_LV "StoneBoard$Life" 73 M_Areas_leastOf 1 1 := ⟨b_Areas_leastOf, (xa_m3 197 rfl rfl), (xa_m1 108 rfl rfl), (xa_m1 109 rfl rfl), _, rfl, rfl⟩
theorem k_Life_76 : xa_LV "StoneBoard$Life" 76 M_Grid_neighbour 3 2 := ⟨b_Grid_neighbour, (xa_m3 198 rfl rfl), (xa_m1 99 rfl rfl), (xa_m1 100 rfl rfl), _, rfl, rfl⟩
theorem k_Life_67 : xa_LV "StoneBoard$Life" 67 M_Life_kindOf 5 1 := ⟨b_Life_kindOf, (xa_m3 199 rfl rfl), (xa_m3 201 rfl rfl), (xa_ms 18 rfl rfl), _, rfl, rfl⟩
theorem k_Life_63 : xa_LV "StoneBoard$Life" 63 M_Areas_areaAt 1 1 := ⟨b_Areas_areaAt, (xa_m3 203 rfl rfl), (xa_m2 116 rfl rfl), (xa_m2 117 rfl rfl), _, rfl, rfl⟩
theorem k_Life_80 : xa_LV "StoneBoard$Life" 80 M_Life_isNoted 5 3 := ⟨b_Life_isNoted, (xa_m3 204 rfl rfl), (xa_m3 206 rfl rfl), (xa_ms 19 rfl rfl), _, rfl, rfl⟩
theorem k_Life_84 : xa_LV "StoneBoard$Life" 84 M_Life_belongs 5 2 := ⟨b_Life_belongs, (xa_m3 208 rfl rfl), (xa_m3 210 rfl rfl), (xa_ms 20 rfl rfl), _, rfl, rfl⟩
theorem k_Life_70 : xa_LV "StoneBoard$Life" 70 M_Areas_sizeOf 1 1 := ⟨b_Areas_sizeOf, (xa_m3 212 rfl rfl), (xa_m1 116 rfl rfl), (xa_m1 117 rfl rfl), _, rfl, rfl⟩
theorem k_Life_88 : xa_LV "StoneBoard$Life" 88 M_Areas_pointOf 1 2 := ⟨b_Areas_pointOf, (xa_m3 213 rfl rfl), (xa_m1 120 rfl rfl), (xa_m1 121 rfl rfl), _, rfl, rfl⟩
theorem k_Life_91 : xa_LV "StoneBoard$Life" 91 M_Life_isBeside 5 2 := ⟨b_Life_isBeside, (xa_m3 214 rfl rfl), (xa_m3 216 rfl rfl), (xa_ms 21 rfl rfl), _, rfl, rfl⟩
theorem k_Life_56 : xa_LV "StoneBoard$Life" 56 M_Life_letStringsFall 5 0 := ⟨b_Life_letStringsFall, (xa_m3 218 rfl rfl), (xa_m3 220 rfl rfl), (xa_ms 22 rfl rfl), _, rfl, rfl⟩
theorem k_Life_94 : xa_LV "StoneBoard$Life" 94 M_Life_countRegionsOfStrings 5 0 := ⟨b_Life_countRegionsOfStrings, (xa_m3 222 rfl rfl), (xa_m3 224 rfl rfl), (xa_ms 23 rfl rfl), _, rfl, rfl⟩
theorem k_Life_97 : xa_LS "StoneBoard$Life" 97 M_Arrays_fill 2 := ⟨b_Arrays_fill, (xa_m3 226 rfl rfl), (xa_m1 92 rfl rfl)⟩
theorem k_Life_60 : xa_LV "StoneBoard$Life" 60 M_Life_letRegionsFall 5 0 := ⟨b_Life_letRegionsFall, (xa_m3 227 rfl rfl), (xa_m3 229 rfl rfl), (xa_ms 24 rfl rfl), _, rfl, rfl⟩
theorem k_Life_103 : xa_LV "StoneBoard$Life" 103 M_Life_isBesideFallenString 5 1 := ⟨b_Life_isBesideFallenString, (xa_m3 231 rfl rfl), (xa_m3 233 rfl rfl), (xa_ms 25 rfl rfl), _, rfl, rfl⟩
theorem k_Life_107 : xa_LV "StoneBoard$Life" 107 M_Life_standsAt 5 1 := ⟨b_Life_standsAt, (xa_m3 235 rfl rfl), (xa_m3 236 rfl rfl), (xa_m3 237 rfl rfl), _, rfl, rfl⟩
theorem k_SB_192 : xa_LV "StoneBoard" 192 M_Life_standsAt 5 1 := ⟨b_Life_standsAt, (xa_m3 239 rfl rfl), (xa_m3 236 rfl rfl), (xa_m3 237 rfl rfl), _, rfl, rfl⟩
theorem k_Law_64 : xa_LV "StoneBoardLaw" 64 M_SB_safe 0 1 := ⟨b_SB_safe, (xa_m4 3 rfl rfl), (xa_m4 4 rfl rfl), (xa_m4 5 rfl rfl), _, rfl, rfl⟩
theorem k_SB_196 : xa_LV "StoneBoard" 196 M_Life_countSafe 5 0 := ⟨b_Life_countSafe, (xa_m4 7 rfl rfl), (xa_m4 8 rfl rfl), (xa_m4 9 rfl rfl), _, rfl, rfl⟩
theorem k_Law_67 : xa_LV "StoneBoardLaw" 67 M_SB_ago 0 1 := ⟨b_SB_ago, (xa_m4 14 rfl rfl), (xa_m4 15 rfl rfl), (xa_m4 16 rfl rfl), _, rfl, rfl⟩
theorem k_Law_80 : xa_LI "StoneBoardLaw" 80 M_Ref_init 1 := ⟨b_Ref_init, (xa_m4 20 rfl rfl), (xa_m4 21 rfl rfl), rfl, rfl⟩
theorem k_Ref_1 : Cond.methodLink "StoneBoardModel" 1 Lib.objectInit ∈ xa_ws := (xa_m4 23 rfl rfl)
theorem k_Law_89 : xa_LV "StoneBoardLaw" 89 M_Ref_thrown 8 0 := ⟨b_Ref_thrown, (xa_m4 99 rfl rfl), (xa_m4 100 rfl rfl), (xa_m4 101 rfl rfl), _, rfl, rfl⟩
theorem k_Law_84 : xa_LV "StoneBoardLaw" 84 M_Ref_size 8 0 := ⟨b_Ref_size, (xa_m4 103 rfl rfl), (xa_m4 104 rfl rfl), (xa_m4 105 rfl rfl), _, rfl, rfl⟩
theorem k_Law_88 : xa_LV "StoneBoardLaw" 88 M_Ref_at 8 1 := ⟨b_Ref_at, (xa_m4 107 rfl rfl), (xa_m4 108 rfl rfl), (xa_m4 109 rfl rfl), _, rfl, rfl⟩
theorem k_Ref_118 : xa_LV "StoneBoardModel" 118 M_Ref_noPoint 8 1 := ⟨b_Ref_noPoint, (xa_m4 111 rfl rfl), (xa_m4 113 rfl rfl), (xa_ms 26 rfl rfl), _, rfl, rfl⟩
theorem k_Law_95 : xa_LV "StoneBoardLaw" 95 M_Ref_put 8 2 := ⟨b_Ref_put, (xa_m4 115 rfl rfl), (xa_m4 116 rfl rfl), (xa_m4 117 rfl rfl), _, rfl, rfl⟩
theorem k_Ref_121 : xa_LV "StoneBoardModel" 121 M_Ref_areBreathing 8 1 := ⟨b_Ref_areBreathing, (xa_m4 119 rfl rfl), (xa_m4 121 rfl rfl), (xa_ms 27 rfl rfl), _, rfl, rfl⟩
theorem k_Ref_82 : xa_LV "StoneBoardModel" 82 M_Ref_gather 8 2 := ⟨b_Ref_gather, (xa_m4 123 rfl rfl), (xa_m4 125 rfl rfl), (xa_ms 28 rfl rfl), _, rfl, rfl⟩
theorem k_Ref_71 : xa_LV "StoneBoardModel" 71 M_Ref_beside 8 2 := ⟨b_Ref_beside, (xa_m4 127 rfl rfl), (xa_m4 129 rfl rfl), (xa_ms 29 rfl rfl), _, rfl, rfl⟩
theorem k_Ref_86 : xa_LV "StoneBoardModel" 86 M_Ref_breaths 8 1 := ⟨b_Ref_breaths, (xa_m4 131 rfl rfl), (xa_m4 133 rfl rfl), (xa_ms 30 rfl rfl), _, rfl, rfl⟩
theorem k_Ref_75 : xa_LV "StoneBoardModel" 75 M_Ref_isBreath 8 2 := ⟨b_Ref_isBreath, (xa_m4 135 rfl rfl), (xa_m4 137 rfl rfl), (xa_ms 31 rfl rfl), _, rfl, rfl⟩
theorem k_Ref_125 : xa_LV "StoneBoardModel" 125 M_Ref_keep 8 1 := ⟨b_Ref_keep, (xa_m4 139 rfl rfl), (xa_m4 141 rfl rfl), (xa_ms 32 rfl rfl), _, rfl, rfl⟩
theorem k_Law_99 : xa_LV "StoneBoardLaw" 99 M_Ref_first 8 1 := ⟨b_Ref_first, (xa_m4 143 rfl rfl), (xa_m4 144 rfl rfl), (xa_m4 145 rfl rfl), _, rfl, rfl⟩
theorem k_Law_103 : xa_LV "StoneBoardLaw" 103 M_Ref_turn 8 0 := ⟨b_Ref_turn, (xa_m4 147 rfl rfl), (xa_m4 148 rfl rfl), (xa_m4 149 rfl rfl), _, rfl, rfl⟩
theorem k_Ref_107 : xa_LV "StoneBoardModel" 107 M_Ref_turnNow 8 0 := ⟨b_Ref_turnNow, (xa_m4 151 rfl rfl), (xa_m4 153 rfl rfl), (xa_ms 33 rfl rfl), _, rfl, rfl⟩
theorem k_Law_106 : xa_LV "StoneBoardLaw" 106 M_Ref_play 8 1 := ⟨b_Ref_play, (xa_m4 155 rfl rfl), (xa_m4 156 rfl rfl), (xa_m4 157 rfl rfl), _, rfl, rfl⟩
theorem k_Ref_129 : xa_LV "StoneBoardModel" 129 M_Ref_whyNot 8 1 := ⟨b_Ref_whyNot, (xa_m4 159 rfl rfl), (xa_m4 161 rfl rfl), (xa_ms 34 rfl rfl), _, rfl, rfl⟩
theorem k_Ref_103 : xa_LV "StoneBoardModel" 103 M_Ref_isEnded 8 0 := ⟨b_Ref_isEnded, (xa_m4 163 rfl rfl), (xa_m4 165 rfl rfl), (xa_ms 35 rfl rfl), _, rfl, rfl⟩
theorem k_Ref_111 : xa_LV "StoneBoardModel" 111 M_Ref_attempt 8 2 := ⟨b_Ref_attempt, (xa_m4 167 rfl rfl), (xa_m4 169 rfl rfl), (xa_ms 36 rfl rfl), _, rfl, rfl⟩
theorem k_Ref_90 : xa_LV "StoneBoardModel" 90 M_Ref_takeOff 8 1 := ⟨b_Ref_takeOff, (xa_m4 171 rfl rfl), (xa_m4 173 rfl rfl), (xa_ms 37 rfl rfl), _, rfl, rfl⟩
theorem k_Ref_115 : xa_LV "StoneBoardModel" 115 M_Ref_latest 8 0 := ⟨b_Ref_latest, (xa_m4 175 rfl rfl), (xa_m4 177 rfl rfl), (xa_ms 38 rfl rfl), _, rfl, rfl⟩
theorem k_Ref_99 : xa_LV "StoneBoardModel" 99 M_Ref_isTrial 8 1 := ⟨b_Ref_isTrial, (xa_m4 179 rfl rfl), (xa_m4 181 rfl rfl), (xa_ms 39 rfl rfl), _, rfl, rfl⟩
theorem k_Law_109 : xa_LV "StoneBoardLaw" 109 M_Ref_why 8 1 := ⟨b_Ref_why, (xa_m4 183 rfl rfl), (xa_m4 184 rfl rfl), (xa_m4 185 rfl rfl), _, rfl, rfl⟩
theorem k_Law_113 : xa_LV "StoneBoardLaw" 113 M_Ref_allowed 8 0 := ⟨b_Ref_allowed, (xa_m4 187 rfl rfl), (xa_m4 188 rfl rfl), (xa_m4 189 rfl rfl), _, rfl, rfl⟩
theorem k_Law_117 : xa_LV "StoneBoardLaw" 117 M_Ref_pass 8 0 := ⟨b_Ref_pass, (xa_m4 191 rfl rfl), (xa_m4 192 rfl rfl), (xa_m4 193 rfl rfl), _, rfl, rfl⟩
theorem k_Law_120 : xa_LV "StoneBoardLaw" 120 M_Ref_back 8 0 := ⟨b_Ref_back, (xa_m4 195 rfl rfl), (xa_m4 196 rfl rfl), (xa_m4 197 rfl rfl), _, rfl, rfl⟩
theorem k_Law_124 : xa_LV "StoneBoardLaw" 124 M_Ref_moves 8 0 := ⟨b_Ref_moves, (xa_m4 199 rfl rfl), (xa_m4 200 rfl rfl), (xa_m4 201 rfl rfl), _, rfl, rfl⟩
theorem k_Law_127 : xa_LV "StoneBoardLaw" 127 M_Ref_move 8 1 := ⟨b_Ref_move, (xa_m4 203 rfl rfl), (xa_m4 204 rfl rfl), (xa_m4 205 rfl rfl), _, rfl, rfl⟩
theorem k_Law_130 : xa_LV "StoneBoardLaw" 130 M_Ref_taken 8 1 := ⟨b_Ref_taken, (xa_m4 207 rfl rfl), (xa_m4 208 rfl rfl), (xa_m4 209 rfl rfl), _, rfl, rfl⟩
theorem k_Ref_133 : xa_LV "StoneBoardModel" 133 M_Ref_noSide 8 2 := ⟨b_Ref_noSide, (xa_m4 211 rfl rfl), (xa_m4 213 rfl rfl), (xa_ms 40 rfl rfl), _, rfl, rfl⟩
theorem k_Law_133 : xa_LV "StoneBoardLaw" 133 M_Ref_string 8 2 := ⟨b_Ref_string, (xa_m4 215 rfl rfl), (xa_m4 216 rfl rfl), (xa_m4 217 rfl rfl), _, rfl, rfl⟩
theorem k_Law_136 : xa_LV "StoneBoardLaw" 136 M_Ref_strings 8 1 := ⟨b_Ref_strings, (xa_m4 219 rfl rfl), (xa_m4 220 rfl rfl), (xa_m4 221 rfl rfl), _, rfl, rfl⟩
theorem k_Ref_140 : xa_LV "StoneBoardModel" 140 M_Ref_number 8 1 := ⟨b_Ref_number, (xa_m4 223 rfl rfl), (xa_m4 225 rfl rfl), (xa_ms 41 rfl rfl), _, rfl, rfl⟩
theorem k_Law_139 : xa_LV "StoneBoardLaw" 139 M_Ref_ground 8 1 := ⟨b_Ref_ground, (xa_m4 227 rfl rfl), (xa_m4 228 rfl rfl), (xa_m4 229 rfl rfl), _, rfl, rfl⟩
theorem k_Ref_146 : xa_LV "StoneBoardModel" 146 M_Ref_ownerOf 8 1 := ⟨b_Ref_ownerOf, (xa_m4 231 rfl rfl), (xa_m4 233 rfl rfl), (xa_ms 42 rfl rfl), _, rfl, rfl⟩
theorem k_Ref_143 : xa_LV "StoneBoardModel" 143 M_Ref_met 8 1 := ⟨b_Ref_met, (xa_m4 235 rfl rfl), (xa_m4 237 rfl rfl), (xa_ms 43 rfl rfl), _, rfl, rfl⟩
theorem k_Law_142 : xa_LV "StoneBoardLaw" 142 M_Ref_owner 8 1 := ⟨b_Ref_owner, (xa_m4 239 rfl rfl), (xa_m5 0 rfl rfl), (xa_m5 1 rfl rfl), _, rfl, rfl⟩
theorem k_Law_145 : xa_LV "StoneBoardLaw" 145 M_Ref_alive 8 1 := ⟨b_Ref_alive, (xa_m5 3 rfl rfl), (xa_m5 4 rfl rfl), (xa_m5 5 rfl rfl), _, rfl, rfl⟩
theorem k_Ref_170 : xa_LV "StoneBoardModel" 170 M_Ref_judge 8 1 := ⟨b_Ref_judge, (xa_m5 7 rfl rfl), (xa_m5 9 rfl rfl), (xa_ms 44 rfl rfl), _, rfl, rfl⟩
theorem k_Ref_161 : xa_LV "StoneBoardModel" 161 M_Ref_divide 8 1 := ⟨b_Ref_divide, (xa_m5 11 rfl rfl), (xa_m5 13 rfl rfl), (xa_ms 45 rfl rfl), _, rfl, rfl⟩
theorem k_Ref_152 : xa_LV "StoneBoardModel" 152 M_Ref_spread 8 2 := ⟨b_Ref_spread, (xa_m5 15 rfl rfl), (xa_m5 17 rfl rfl), (xa_ms 46 rfl rfl), _, rfl, rfl⟩
theorem k_Ref_164 : xa_LV "StoneBoardModel" 164 M_Ref_regionsOf 8 1 := ⟨b_Ref_regionsOf, (xa_m5 19 rfl rfl), (xa_m5 21 rfl rfl), (xa_ms 47 rfl rfl), _, rfl, rfl⟩
theorem k_Ref_158 : xa_LV "StoneBoardModel" 158 M_Ref_belongs 8 2 := ⟨b_Ref_belongs, (xa_m5 23 rfl rfl), (xa_m5 25 rfl rfl), (xa_ms 48 rfl rfl), _, rfl, rfl⟩
theorem k_Ref_155 : xa_LV "StoneBoardModel" 155 M_Ref_isBeside 8 2 := ⟨b_Ref_isBeside, (xa_m5 27 rfl rfl), (xa_m5 29 rfl rfl), (xa_ms 49 rfl rfl), _, rfl, rfl⟩
theorem k_Ref_167 : xa_LV "StoneBoardModel" 167 M_Ref_fellRegions 8 0 := ⟨b_Ref_fellRegions, (xa_m5 31 rfl rfl), (xa_m5 33 rfl rfl), (xa_ms 50 rfl rfl), _, rfl, rfl⟩
theorem k_Law_148 : xa_LV "StoneBoardLaw" 148 M_Ref_safe 8 1 := ⟨b_Ref_safe, (xa_m5 35 rfl rfl), (xa_m5 36 rfl rfl), (xa_m5 37 rfl rfl), _, rfl, rfl⟩
theorem k_Law_151 : xa_LV "StoneBoardLaw" 151 M_Ref_ago 8 1 := ⟨b_Ref_ago, (xa_m5 39 rfl rfl), (xa_m5 40 rfl rfl), (xa_m5 41 rfl rfl), _, rfl, rfl⟩
end
section
/-! Decode rows, printed. -/
theorem d_Grid_init_0 : decode M_Grid_init.2.1 0 = .ok (.aload_n 0, 1) := by decide +kernel
theorem d_Grid_init_1 : decode M_Grid_init.2.1 1 = .ok (.invokespecial 3, 3) := by decide +kernel
theorem d_Grid_init_4 : decode M_Grid_init.2.1 4 = .ok (.aload_n 0, 1) := by decide +kernel
theorem d_Grid_init_5 : decode M_Grid_init.2.1 5 = .ok (.iload_n 1, 1) := by decide +kernel
theorem d_Grid_init_6 : decode M_Grid_init.2.1 6 = .ok (.iload_n 1, 1) := by decide +kernel
theorem d_Grid_init_7 : decode M_Grid_init.2.1 7 = .ok (.imul, 1) := by decide +kernel
theorem d_Grid_init_8 : decode M_Grid_init.2.1 8 = .ok (.putfield 9, 3) := by decide +kernel
theorem d_Grid_init_11 : decode M_Grid_init.2.1 11 = .ok (.aload_n 0, 1) := by decide +kernel
theorem d_Grid_init_12 : decode M_Grid_init.2.1 12 = .ok (.iconst 4, 1) := by decide +kernel
theorem d_Grid_init_13 : decode M_Grid_init.2.1 13 = .ok (.aload_n 0, 1) := by decide +kernel
theorem d_Grid_init_14 : decode M_Grid_init.2.1 14 = .ok (.getfield 9, 3) := by decide +kernel
theorem d_Grid_init_17 : decode M_Grid_init.2.1 17 = .ok (.imul, 1) := by decide +kernel
theorem d_Grid_init_18 : decode M_Grid_init.2.1 18 = .ok (.newarray .int, 2) := by decide +kernel
theorem d_Grid_init_20 : decode M_Grid_init.2.1 20 = .ok (.putfield 15, 3) := by decide +kernel
theorem d_Grid_init_23 : decode M_Grid_init.2.1 23 = .ok (.iconst 0, 1) := by decide +kernel
theorem d_Grid_init_24 : decode M_Grid_init.2.1 24 = .ok (.istore_n 2, 1) := by decide +kernel
theorem d_Grid_init_25 : decode M_Grid_init.2.1 25 = .ok (.iload_n 2, 1) := by decide +kernel
theorem d_Grid_init_26 : decode M_Grid_init.2.1 26 = .ok (.iload_n 1, 1) := by decide +kernel
theorem d_Grid_init_27 : decode M_Grid_init.2.1 27 = .ok (.if_icmp .ge 123, 3) := by decide +kernel
theorem d_Grid_init_30 : decode M_Grid_init.2.1 30 = .ok (.iconst 0, 1) := by decide +kernel
theorem d_Grid_init_31 : decode M_Grid_init.2.1 31 = .ok (.istore_n 3, 1) := by decide +kernel
theorem d_Grid_init_32 : decode M_Grid_init.2.1 32 = .ok (.iload_n 3, 1) := by decide +kernel
theorem d_Grid_init_33 : decode M_Grid_init.2.1 33 = .ok (.iload_n 1, 1) := by decide +kernel
theorem d_Grid_init_34 : decode M_Grid_init.2.1 34 = .ok (.if_icmp .ge 110, 3) := by decide +kernel
theorem d_Grid_init_37 : decode M_Grid_init.2.1 37 = .ok (.iload_n 1, 1) := by decide +kernel
theorem d_Grid_init_38 : decode M_Grid_init.2.1 38 = .ok (.iload_n 2, 1) := by decide +kernel
theorem d_Grid_init_39 : decode M_Grid_init.2.1 39 = .ok (.imul, 1) := by decide +kernel
theorem d_Grid_init_40 : decode M_Grid_init.2.1 40 = .ok (.iload_n 3, 1) := by decide +kernel
theorem d_Grid_init_41 : decode M_Grid_init.2.1 41 = .ok (.iadd, 1) := by decide +kernel
theorem d_Grid_init_42 : decode M_Grid_init.2.1 42 = .ok (.istore 4, 2) := by decide +kernel
theorem d_Grid_init_44 : decode M_Grid_init.2.1 44 = .ok (.iconst 4, 1) := by decide +kernel
theorem d_Grid_init_45 : decode M_Grid_init.2.1 45 = .ok (.iload 4, 2) := by decide +kernel
theorem d_Grid_init_47 : decode M_Grid_init.2.1 47 = .ok (.imul, 1) := by decide +kernel
theorem d_Grid_init_48 : decode M_Grid_init.2.1 48 = .ok (.istore 5, 2) := by decide +kernel
theorem d_Grid_init_50 : decode M_Grid_init.2.1 50 = .ok (.aload_n 0, 1) := by decide +kernel
theorem d_Grid_init_51 : decode M_Grid_init.2.1 51 = .ok (.getfield 15, 3) := by decide +kernel
theorem d_Grid_init_54 : decode M_Grid_init.2.1 54 = .ok (.iload 5, 2) := by decide +kernel
theorem d_Grid_init_56 : decode M_Grid_init.2.1 56 = .ok (.iload_n 2, 1) := by decide +kernel
theorem d_Grid_init_57 : decode M_Grid_init.2.1 57 = .ok (.ifCond .le 10, 3) := by decide +kernel
theorem d_Grid_init_60 : decode M_Grid_init.2.1 60 = .ok (.iload 4, 2) := by decide +kernel
theorem d_Grid_init_62 : decode M_Grid_init.2.1 62 = .ok (.iload_n 1, 1) := by decide +kernel
theorem d_Grid_init_63 : decode M_Grid_init.2.1 63 = .ok (.isub, 1) := by decide +kernel
theorem d_Grid_init_64 : decode M_Grid_init.2.1 64 = .ok (.goto 4, 3) := by decide +kernel
theorem d_Grid_init_67 : decode M_Grid_init.2.1 67 = .ok (.iconst (-1), 1) := by decide +kernel
theorem d_Grid_init_68 : decode M_Grid_init.2.1 68 = .ok (.iastore, 1) := by decide +kernel
theorem d_Grid_init_69 : decode M_Grid_init.2.1 69 = .ok (.aload_n 0, 1) := by decide +kernel
theorem d_Grid_init_70 : decode M_Grid_init.2.1 70 = .ok (.getfield 15, 3) := by decide +kernel
theorem d_Grid_init_73 : decode M_Grid_init.2.1 73 = .ok (.iload 5, 2) := by decide +kernel
theorem d_Grid_init_75 : decode M_Grid_init.2.1 75 = .ok (.iconst 1, 1) := by decide +kernel
theorem d_Grid_init_76 : decode M_Grid_init.2.1 76 = .ok (.iadd, 1) := by decide +kernel
theorem d_Grid_init_77 : decode M_Grid_init.2.1 77 = .ok (.iload_n 3, 1) := by decide +kernel
theorem d_Grid_init_78 : decode M_Grid_init.2.1 78 = .ok (.ifCond .le 10, 3) := by decide +kernel
theorem d_Grid_init_81 : decode M_Grid_init.2.1 81 = .ok (.iload 4, 2) := by decide +kernel
theorem d_Grid_init_83 : decode M_Grid_init.2.1 83 = .ok (.iconst 1, 1) := by decide +kernel
theorem d_Grid_init_84 : decode M_Grid_init.2.1 84 = .ok (.isub, 1) := by decide +kernel
theorem d_Grid_init_85 : decode M_Grid_init.2.1 85 = .ok (.goto 4, 3) := by decide +kernel
theorem d_Grid_init_88 : decode M_Grid_init.2.1 88 = .ok (.iconst (-1), 1) := by decide +kernel
theorem d_Grid_init_89 : decode M_Grid_init.2.1 89 = .ok (.iastore, 1) := by decide +kernel
theorem d_Grid_init_90 : decode M_Grid_init.2.1 90 = .ok (.aload_n 0, 1) := by decide +kernel
theorem d_Grid_init_91 : decode M_Grid_init.2.1 91 = .ok (.getfield 15, 3) := by decide +kernel
theorem d_Grid_init_94 : decode M_Grid_init.2.1 94 = .ok (.iload 5, 2) := by decide +kernel
theorem d_Grid_init_96 : decode M_Grid_init.2.1 96 = .ok (.iconst 2, 1) := by decide +kernel
theorem d_Grid_init_97 : decode M_Grid_init.2.1 97 = .ok (.iadd, 1) := by decide +kernel
theorem d_Grid_init_98 : decode M_Grid_init.2.1 98 = .ok (.iload_n 3, 1) := by decide +kernel
theorem d_Grid_init_99 : decode M_Grid_init.2.1 99 = .ok (.iload_n 1, 1) := by decide +kernel
theorem d_Grid_init_100 : decode M_Grid_init.2.1 100 = .ok (.iconst 1, 1) := by decide +kernel
theorem d_Grid_init_101 : decode M_Grid_init.2.1 101 = .ok (.isub, 1) := by decide +kernel
theorem d_Grid_init_102 : decode M_Grid_init.2.1 102 = .ok (.if_icmp .ge 10, 3) := by decide +kernel
theorem d_Grid_init_105 : decode M_Grid_init.2.1 105 = .ok (.iload 4, 2) := by decide +kernel
theorem d_Grid_init_107 : decode M_Grid_init.2.1 107 = .ok (.iconst 1, 1) := by decide +kernel
theorem d_Grid_init_108 : decode M_Grid_init.2.1 108 = .ok (.iadd, 1) := by decide +kernel
theorem d_Grid_init_109 : decode M_Grid_init.2.1 109 = .ok (.goto 4, 3) := by decide +kernel
theorem d_Grid_init_112 : decode M_Grid_init.2.1 112 = .ok (.iconst (-1), 1) := by decide +kernel
theorem d_Grid_init_113 : decode M_Grid_init.2.1 113 = .ok (.iastore, 1) := by decide +kernel
theorem d_Grid_init_114 : decode M_Grid_init.2.1 114 = .ok (.aload_n 0, 1) := by decide +kernel
theorem d_Grid_init_115 : decode M_Grid_init.2.1 115 = .ok (.getfield 15, 3) := by decide +kernel
theorem d_Grid_init_118 : decode M_Grid_init.2.1 118 = .ok (.iload 5, 2) := by decide +kernel
theorem d_Grid_init_120 : decode M_Grid_init.2.1 120 = .ok (.iconst 3, 1) := by decide +kernel
theorem d_Grid_init_121 : decode M_Grid_init.2.1 121 = .ok (.iadd, 1) := by decide +kernel
theorem d_Grid_init_122 : decode M_Grid_init.2.1 122 = .ok (.iload_n 2, 1) := by decide +kernel
theorem d_Grid_init_123 : decode M_Grid_init.2.1 123 = .ok (.iload_n 1, 1) := by decide +kernel
theorem d_Grid_init_124 : decode M_Grid_init.2.1 124 = .ok (.iconst 1, 1) := by decide +kernel
theorem d_Grid_init_125 : decode M_Grid_init.2.1 125 = .ok (.isub, 1) := by decide +kernel
theorem d_Grid_init_126 : decode M_Grid_init.2.1 126 = .ok (.if_icmp .ge 10, 3) := by decide +kernel
theorem d_Grid_init_129 : decode M_Grid_init.2.1 129 = .ok (.iload 4, 2) := by decide +kernel
theorem d_Grid_init_131 : decode M_Grid_init.2.1 131 = .ok (.iload_n 1, 1) := by decide +kernel
theorem d_Grid_init_132 : decode M_Grid_init.2.1 132 = .ok (.iadd, 1) := by decide +kernel
theorem d_Grid_init_133 : decode M_Grid_init.2.1 133 = .ok (.goto 4, 3) := by decide +kernel
theorem d_Grid_init_136 : decode M_Grid_init.2.1 136 = .ok (.iconst (-1), 1) := by decide +kernel
theorem d_Grid_init_137 : decode M_Grid_init.2.1 137 = .ok (.iastore, 1) := by decide +kernel
theorem d_Grid_init_138 : decode M_Grid_init.2.1 138 = .ok (.iinc 3 1, 3) := by decide +kernel
theorem d_Grid_init_141 : decode M_Grid_init.2.1 141 = .ok (.goto (-109), 3) := by decide +kernel
theorem d_Grid_init_144 : decode M_Grid_init.2.1 144 = .ok (.iinc 2 1, 3) := by decide +kernel
theorem d_Grid_init_147 : decode M_Grid_init.2.1 147 = .ok (.goto (-122), 3) := by decide +kernel
theorem d_Grid_init_150 : decode M_Grid_init.2.1 150 = .ok (.return_, 1) := by decide +kernel
theorem d_Areas_init_0 : decode M_Areas_init.2.1 0 = .ok (.aload_n 0, 1) := by decide +kernel
theorem d_Areas_init_1 : decode M_Areas_init.2.1 1 = .ok (.invokespecial 3, 3) := by decide +kernel
theorem d_Areas_init_4 : decode M_Areas_init.2.1 4 = .ok (.aload_n 0, 1) := by decide +kernel
theorem d_Areas_init_5 : decode M_Areas_init.2.1 5 = .ok (.aload_n 1, 1) := by decide +kernel
theorem d_Areas_init_6 : decode M_Areas_init.2.1 6 = .ok (.putfield 9, 3) := by decide +kernel
theorem d_Areas_init_9 : decode M_Areas_init.2.1 9 = .ok (.aload_n 0, 1) := by decide +kernel
theorem d_Areas_init_10 : decode M_Areas_init.2.1 10 = .ok (.aload_n 1, 1) := by decide +kernel
theorem d_Areas_init_11 : decode M_Areas_init.2.1 11 = .ok (.getfield 15, 3) := by decide +kernel
theorem d_Areas_init_14 : decode M_Areas_init.2.1 14 = .ok (.newarray .int, 2) := by decide +kernel
theorem d_Areas_init_16 : decode M_Areas_init.2.1 16 = .ok (.putfield 21, 3) := by decide +kernel
theorem d_Areas_init_19 : decode M_Areas_init.2.1 19 = .ok (.aload_n 0, 1) := by decide +kernel
theorem d_Areas_init_20 : decode M_Areas_init.2.1 20 = .ok (.aload_n 1, 1) := by decide +kernel
theorem d_Areas_init_21 : decode M_Areas_init.2.1 21 = .ok (.getfield 15, 3) := by decide +kernel
theorem d_Areas_init_24 : decode M_Areas_init.2.1 24 = .ok (.newarray .int, 2) := by decide +kernel
theorem d_Areas_init_26 : decode M_Areas_init.2.1 26 = .ok (.putfield 25, 3) := by decide +kernel
theorem d_Areas_init_29 : decode M_Areas_init.2.1 29 = .ok (.aload_n 0, 1) := by decide +kernel
theorem d_Areas_init_30 : decode M_Areas_init.2.1 30 = .ok (.aload_n 1, 1) := by decide +kernel
theorem d_Areas_init_31 : decode M_Areas_init.2.1 31 = .ok (.getfield 15, 3) := by decide +kernel
theorem d_Areas_init_34 : decode M_Areas_init.2.1 34 = .ok (.iconst 1, 1) := by decide +kernel
theorem d_Areas_init_35 : decode M_Areas_init.2.1 35 = .ok (.iadd, 1) := by decide +kernel
theorem d_Areas_init_36 : decode M_Areas_init.2.1 36 = .ok (.newarray .int, 2) := by decide +kernel
theorem d_Areas_init_38 : decode M_Areas_init.2.1 38 = .ok (.putfield 28, 3) := by decide +kernel
theorem d_Areas_init_41 : decode M_Areas_init.2.1 41 = .ok (.return_, 1) := by decide +kernel
theorem d_Areas_split_0 : decode M_Areas_split.2.1 0 = .ok (.aload_n 0, 1) := by decide +kernel
theorem d_Areas_split_1 : decode M_Areas_split.2.1 1 = .ok (.getfield 21, 3) := by decide +kernel
theorem d_Areas_split_4 : decode M_Areas_split.2.1 4 = .ok (.iconst (-1), 1) := by decide +kernel
theorem d_Areas_split_5 : decode M_Areas_split.2.1 5 = .ok (.invokestatic 31, 3) := by decide +kernel
theorem d_Areas_split_8 : decode M_Areas_split.2.1 8 = .ok (.aload_n 0, 1) := by decide +kernel
theorem d_Areas_split_9 : decode M_Areas_split.2.1 9 = .ok (.iconst 0, 1) := by decide +kernel
theorem d_Areas_split_10 : decode M_Areas_split.2.1 10 = .ok (.putfield 37, 3) := by decide +kernel
theorem d_Areas_split_13 : decode M_Areas_split.2.1 13 = .ok (.iconst 0, 1) := by decide +kernel
theorem d_Areas_split_14 : decode M_Areas_split.2.1 14 = .ok (.istore_n 2, 1) := by decide +kernel
theorem d_Areas_split_15 : decode M_Areas_split.2.1 15 = .ok (.iconst 0, 1) := by decide +kernel
theorem d_Areas_split_16 : decode M_Areas_split.2.1 16 = .ok (.istore_n 3, 1) := by decide +kernel
theorem d_Areas_split_17 : decode M_Areas_split.2.1 17 = .ok (.iload_n 3, 1) := by decide +kernel
theorem d_Areas_split_18 : decode M_Areas_split.2.1 18 = .ok (.aload_n 0, 1) := by decide +kernel
theorem d_Areas_split_19 : decode M_Areas_split.2.1 19 = .ok (.getfield 9, 3) := by decide +kernel
theorem d_Areas_split_22 : decode M_Areas_split.2.1 22 = .ok (.getfield 15, 3) := by decide +kernel
theorem d_Areas_split_25 : decode M_Areas_split.2.1 25 = .ok (.if_icmp .ge 47, 3) := by decide +kernel
theorem d_Areas_split_28 : decode M_Areas_split.2.1 28 = .ok (.aload_n 0, 1) := by decide +kernel
theorem d_Areas_split_29 : decode M_Areas_split.2.1 29 = .ok (.getfield 21, 3) := by decide +kernel
theorem d_Areas_split_32 : decode M_Areas_split.2.1 32 = .ok (.iload_n 3, 1) := by decide +kernel
theorem d_Areas_split_33 : decode M_Areas_split.2.1 33 = .ok (.iaload, 1) := by decide +kernel
theorem d_Areas_split_34 : decode M_Areas_split.2.1 34 = .ok (.iconst (-1), 1) := by decide +kernel
theorem d_Areas_split_35 : decode M_Areas_split.2.1 35 = .ok (.if_icmp .ne 31, 3) := by decide +kernel
theorem d_Areas_split_38 : decode M_Areas_split.2.1 38 = .ok (.aload_n 0, 1) := by decide +kernel
theorem d_Areas_split_39 : decode M_Areas_split.2.1 39 = .ok (.getfield 28, 3) := by decide +kernel
theorem d_Areas_split_42 : decode M_Areas_split.2.1 42 = .ok (.aload_n 0, 1) := by decide +kernel
theorem d_Areas_split_43 : decode M_Areas_split.2.1 43 = .ok (.getfield 37, 3) := by decide +kernel
theorem d_Areas_split_46 : decode M_Areas_split.2.1 46 = .ok (.iload_n 2, 1) := by decide +kernel
theorem d_Areas_split_47 : decode M_Areas_split.2.1 47 = .ok (.iastore, 1) := by decide +kernel
theorem d_Areas_split_48 : decode M_Areas_split.2.1 48 = .ok (.aload_n 0, 1) := by decide +kernel
theorem d_Areas_split_49 : decode M_Areas_split.2.1 49 = .ok (.iload_n 3, 1) := by decide +kernel
theorem d_Areas_split_50 : decode M_Areas_split.2.1 50 = .ok (.iload_n 2, 1) := by decide +kernel
theorem d_Areas_split_51 : decode M_Areas_split.2.1 51 = .ok (.aload_n 1, 1) := by decide +kernel
theorem d_Areas_split_52 : decode M_Areas_split.2.1 52 = .ok (.invokevirtual 38, 3) := by decide +kernel
theorem d_Areas_split_55 : decode M_Areas_split.2.1 55 = .ok (.istore_n 2, 1) := by decide +kernel
theorem d_Areas_split_56 : decode M_Areas_split.2.1 56 = .ok (.aload_n 0, 1) := by decide +kernel
theorem d_Areas_split_57 : decode M_Areas_split.2.1 57 = .ok (.dup, 1) := by decide +kernel
theorem d_Areas_split_58 : decode M_Areas_split.2.1 58 = .ok (.getfield 37, 3) := by decide +kernel
theorem d_Areas_split_61 : decode M_Areas_split.2.1 61 = .ok (.iconst 1, 1) := by decide +kernel
theorem d_Areas_split_62 : decode M_Areas_split.2.1 62 = .ok (.iadd, 1) := by decide +kernel
theorem d_Areas_split_63 : decode M_Areas_split.2.1 63 = .ok (.putfield 37, 3) := by decide +kernel
theorem d_Areas_split_66 : decode M_Areas_split.2.1 66 = .ok (.iinc 3 1, 3) := by decide +kernel
theorem d_Areas_split_69 : decode M_Areas_split.2.1 69 = .ok (.goto (-52), 3) := by decide +kernel
theorem d_Areas_split_72 : decode M_Areas_split.2.1 72 = .ok (.aload_n 0, 1) := by decide +kernel
theorem d_Areas_split_73 : decode M_Areas_split.2.1 73 = .ok (.getfield 28, 3) := by decide +kernel
theorem d_Areas_split_76 : decode M_Areas_split.2.1 76 = .ok (.aload_n 0, 1) := by decide +kernel
theorem d_Areas_split_77 : decode M_Areas_split.2.1 77 = .ok (.getfield 37, 3) := by decide +kernel
theorem d_Areas_split_80 : decode M_Areas_split.2.1 80 = .ok (.iload_n 2, 1) := by decide +kernel
theorem d_Areas_split_81 : decode M_Areas_split.2.1 81 = .ok (.iastore, 1) := by decide +kernel
theorem d_Areas_split_82 : decode M_Areas_split.2.1 82 = .ok (.return_, 1) := by decide +kernel
theorem d_Arrays_fill_0 : decode M_Arrays_fill.2.1 0 = .ok (.iconst 0, 1) := by decide +kernel
theorem d_Arrays_fill_1 : decode M_Arrays_fill.2.1 1 = .ok (.istore_n 2, 1) := by decide +kernel
theorem d_Arrays_fill_2 : decode M_Arrays_fill.2.1 2 = .ok (.aload_n 0, 1) := by decide +kernel
theorem d_Arrays_fill_3 : decode M_Arrays_fill.2.1 3 = .ok (.arraylength, 1) := by decide +kernel
theorem d_Arrays_fill_4 : decode M_Arrays_fill.2.1 4 = .ok (.istore_n 3, 1) := by decide +kernel
theorem d_Arrays_fill_5 : decode M_Arrays_fill.2.1 5 = .ok (.iload_n 2, 1) := by decide +kernel
theorem d_Arrays_fill_6 : decode M_Arrays_fill.2.1 6 = .ok (.iload_n 3, 1) := by decide +kernel
theorem d_Arrays_fill_7 : decode M_Arrays_fill.2.1 7 = .ok (.if_icmp .ge 13, 3) := by decide +kernel
theorem d_Arrays_fill_10 : decode M_Arrays_fill.2.1 10 = .ok (.aload_n 0, 1) := by decide +kernel
theorem d_Arrays_fill_11 : decode M_Arrays_fill.2.1 11 = .ok (.iload_n 2, 1) := by decide +kernel
theorem d_Arrays_fill_12 : decode M_Arrays_fill.2.1 12 = .ok (.iload_n 1, 1) := by decide +kernel
theorem d_Arrays_fill_13 : decode M_Arrays_fill.2.1 13 = .ok (.iastore, 1) := by decide +kernel
theorem d_Arrays_fill_14 : decode M_Arrays_fill.2.1 14 = .ok (.iinc 2 1, 3) := by decide +kernel
theorem d_Arrays_fill_17 : decode M_Arrays_fill.2.1 17 = .ok (.goto (-12), 3) := by decide +kernel
theorem d_Arrays_fill_20 : decode M_Arrays_fill.2.1 20 = .ok (.return_, 1) := by decide +kernel
theorem d_Areas_spread_0 : decode M_Areas_spread.2.1 0 = .ok (.aload_n 0, 1) := by decide +kernel
theorem d_Areas_spread_1 : decode M_Areas_spread.2.1 1 = .ok (.getfield 21, 3) := by decide +kernel
theorem d_Areas_spread_4 : decode M_Areas_spread.2.1 4 = .ok (.iload_n 1, 1) := by decide +kernel
theorem d_Areas_spread_5 : decode M_Areas_spread.2.1 5 = .ok (.aload_n 0, 1) := by decide +kernel
theorem d_Areas_spread_6 : decode M_Areas_spread.2.1 6 = .ok (.getfield 37, 3) := by decide +kernel
theorem d_Areas_spread_9 : decode M_Areas_spread.2.1 9 = .ok (.iastore, 1) := by decide +kernel
theorem d_Areas_spread_10 : decode M_Areas_spread.2.1 10 = .ok (.aload_n 0, 1) := by decide +kernel
theorem d_Areas_spread_11 : decode M_Areas_spread.2.1 11 = .ok (.getfield 25, 3) := by decide +kernel
theorem d_Areas_spread_14 : decode M_Areas_spread.2.1 14 = .ok (.iload_n 2, 1) := by decide +kernel
theorem d_Areas_spread_15 : decode M_Areas_spread.2.1 15 = .ok (.iload_n 1, 1) := by decide +kernel
theorem d_Areas_spread_16 : decode M_Areas_spread.2.1 16 = .ok (.iastore, 1) := by decide +kernel
theorem d_Areas_spread_17 : decode M_Areas_spread.2.1 17 = .ok (.iload_n 2, 1) := by decide +kernel
theorem d_Areas_spread_18 : decode M_Areas_spread.2.1 18 = .ok (.iconst 1, 1) := by decide +kernel
theorem d_Areas_spread_19 : decode M_Areas_spread.2.1 19 = .ok (.iadd, 1) := by decide +kernel
theorem d_Areas_spread_20 : decode M_Areas_spread.2.1 20 = .ok (.istore 4, 2) := by decide +kernel
theorem d_Areas_spread_22 : decode M_Areas_spread.2.1 22 = .ok (.iload_n 2, 1) := by decide +kernel
theorem d_Areas_spread_23 : decode M_Areas_spread.2.1 23 = .ok (.istore 5, 2) := by decide +kernel
theorem d_Areas_spread_25 : decode M_Areas_spread.2.1 25 = .ok (.iload 5, 2) := by decide +kernel
theorem d_Areas_spread_27 : decode M_Areas_spread.2.1 27 = .ok (.iload 4, 2) := by decide +kernel
theorem d_Areas_spread_29 : decode M_Areas_spread.2.1 29 = .ok (.if_icmp .ge 104, 3) := by decide +kernel
theorem d_Areas_spread_32 : decode M_Areas_spread.2.1 32 = .ok (.iload 5, 2) := by decide +kernel
theorem d_Areas_spread_34 : decode M_Areas_spread.2.1 34 = .ok (.aload_n 0, 1) := by decide +kernel
theorem d_Areas_spread_35 : decode M_Areas_spread.2.1 35 = .ok (.getfield 9, 3) := by decide +kernel
theorem d_Areas_spread_38 : decode M_Areas_spread.2.1 38 = .ok (.getfield 15, 3) := by decide +kernel
theorem d_Areas_spread_41 : decode M_Areas_spread.2.1 41 = .ok (.if_icmp .ge 92, 3) := by decide +kernel
theorem d_Areas_spread_44 : decode M_Areas_spread.2.1 44 = .ok (.iconst 0, 1) := by decide +kernel
theorem d_Areas_spread_45 : decode M_Areas_spread.2.1 45 = .ok (.istore 6, 2) := by decide +kernel
theorem d_Areas_spread_47 : decode M_Areas_spread.2.1 47 = .ok (.iload 6, 2) := by decide +kernel
theorem d_Areas_spread_49 : decode M_Areas_spread.2.1 49 = .ok (.iconst 4, 1) := by decide +kernel
theorem d_Areas_spread_50 : decode M_Areas_spread.2.1 50 = .ok (.if_icmp .ge 77, 3) := by decide +kernel
theorem d_Areas_spread_53 : decode M_Areas_spread.2.1 53 = .ok (.aload_n 0, 1) := by decide +kernel
theorem d_Areas_spread_54 : decode M_Areas_spread.2.1 54 = .ok (.getfield 9, 3) := by decide +kernel
theorem d_Areas_spread_57 : decode M_Areas_spread.2.1 57 = .ok (.aload_n 0, 1) := by decide +kernel
theorem d_Areas_spread_58 : decode M_Areas_spread.2.1 58 = .ok (.getfield 25, 3) := by decide +kernel
theorem d_Areas_spread_61 : decode M_Areas_spread.2.1 61 = .ok (.iload 5, 2) := by decide +kernel
theorem d_Areas_spread_63 : decode M_Areas_spread.2.1 63 = .ok (.iaload, 1) := by decide +kernel
theorem d_Areas_spread_64 : decode M_Areas_spread.2.1 64 = .ok (.iload 6, 2) := by decide +kernel
theorem d_Areas_spread_66 : decode M_Areas_spread.2.1 66 = .ok (.invokevirtual 42, 3) := by decide +kernel
theorem d_Areas_spread_69 : decode M_Areas_spread.2.1 69 = .ok (.istore 7, 2) := by decide +kernel
theorem d_Areas_spread_71 : decode M_Areas_spread.2.1 71 = .ok (.iload 7, 2) := by decide +kernel
theorem d_Areas_spread_73 : decode M_Areas_spread.2.1 73 = .ok (.iconst (-1), 1) := by decide +kernel
theorem d_Areas_spread_74 : decode M_Areas_spread.2.1 74 = .ok (.if_icmp .eq 47, 3) := by decide +kernel
theorem d_Areas_spread_77 : decode M_Areas_spread.2.1 77 = .ok (.aload_n 0, 1) := by decide +kernel
theorem d_Areas_spread_78 : decode M_Areas_spread.2.1 78 = .ok (.getfield 21, 3) := by decide +kernel
theorem d_Areas_spread_81 : decode M_Areas_spread.2.1 81 = .ok (.iload 7, 2) := by decide +kernel
theorem d_Areas_spread_83 : decode M_Areas_spread.2.1 83 = .ok (.iaload, 1) := by decide +kernel
theorem d_Areas_spread_84 : decode M_Areas_spread.2.1 84 = .ok (.iconst (-1), 1) := by decide +kernel
theorem d_Areas_spread_85 : decode M_Areas_spread.2.1 85 = .ok (.if_icmp .ne 36, 3) := by decide +kernel
theorem d_Areas_spread_88 : decode M_Areas_spread.2.1 88 = .ok (.aload_n 3, 1) := by decide +kernel
theorem d_Areas_spread_89 : decode M_Areas_spread.2.1 89 = .ok (.iload 7, 2) := by decide +kernel
theorem d_Areas_spread_91 : decode M_Areas_spread.2.1 91 = .ok (.iaload, 1) := by decide +kernel
theorem d_Areas_spread_92 : decode M_Areas_spread.2.1 92 = .ok (.aload_n 3, 1) := by decide +kernel
theorem d_Areas_spread_93 : decode M_Areas_spread.2.1 93 = .ok (.iload_n 1, 1) := by decide +kernel
theorem d_Areas_spread_94 : decode M_Areas_spread.2.1 94 = .ok (.iaload, 1) := by decide +kernel
theorem d_Areas_spread_95 : decode M_Areas_spread.2.1 95 = .ok (.if_icmp .ne 26, 3) := by decide +kernel
theorem d_Areas_spread_98 : decode M_Areas_spread.2.1 98 = .ok (.aload_n 0, 1) := by decide +kernel
theorem d_Areas_spread_99 : decode M_Areas_spread.2.1 99 = .ok (.getfield 21, 3) := by decide +kernel
theorem d_Areas_spread_102 : decode M_Areas_spread.2.1 102 = .ok (.iload 7, 2) := by decide +kernel
theorem d_Areas_spread_104 : decode M_Areas_spread.2.1 104 = .ok (.aload_n 0, 1) := by decide +kernel
theorem d_Areas_spread_105 : decode M_Areas_spread.2.1 105 = .ok (.getfield 37, 3) := by decide +kernel
theorem d_Areas_spread_108 : decode M_Areas_spread.2.1 108 = .ok (.iastore, 1) := by decide +kernel
theorem d_Areas_spread_109 : decode M_Areas_spread.2.1 109 = .ok (.aload_n 0, 1) := by decide +kernel
theorem d_Areas_spread_110 : decode M_Areas_spread.2.1 110 = .ok (.getfield 25, 3) := by decide +kernel
theorem d_Areas_spread_113 : decode M_Areas_spread.2.1 113 = .ok (.iload 4, 2) := by decide +kernel
theorem d_Areas_spread_115 : decode M_Areas_spread.2.1 115 = .ok (.iload 7, 2) := by decide +kernel
theorem d_Areas_spread_117 : decode M_Areas_spread.2.1 117 = .ok (.iastore, 1) := by decide +kernel
theorem d_Areas_spread_118 : decode M_Areas_spread.2.1 118 = .ok (.iinc 4 1, 3) := by decide +kernel
theorem d_Areas_spread_121 : decode M_Areas_spread.2.1 121 = .ok (.iinc 6 1, 3) := by decide +kernel
theorem d_Areas_spread_124 : decode M_Areas_spread.2.1 124 = .ok (.goto (-77), 3) := by decide +kernel
theorem d_Areas_spread_127 : decode M_Areas_spread.2.1 127 = .ok (.iinc 5 1, 3) := by decide +kernel
theorem d_Areas_spread_130 : decode M_Areas_spread.2.1 130 = .ok (.goto (-105), 3) := by decide +kernel
theorem d_Areas_spread_133 : decode M_Areas_spread.2.1 133 = .ok (.iload 4, 2) := by decide +kernel
theorem d_Areas_spread_135 : decode M_Areas_spread.2.1 135 = .ok (.ireturn, 1) := by decide +kernel
theorem d_Grid_neighbour_0 : decode M_Grid_neighbour.2.1 0 = .ok (.aload_n 0, 1) := by decide +kernel
theorem d_Grid_neighbour_1 : decode M_Grid_neighbour.2.1 1 = .ok (.getfield 15, 3) := by decide +kernel
theorem d_Grid_neighbour_4 : decode M_Grid_neighbour.2.1 4 = .ok (.iconst 4, 1) := by decide +kernel
theorem d_Grid_neighbour_5 : decode M_Grid_neighbour.2.1 5 = .ok (.iload_n 1, 1) := by decide +kernel
theorem d_Grid_neighbour_6 : decode M_Grid_neighbour.2.1 6 = .ok (.imul, 1) := by decide +kernel
theorem d_Grid_neighbour_7 : decode M_Grid_neighbour.2.1 7 = .ok (.iload_n 2, 1) := by decide +kernel
theorem d_Grid_neighbour_8 : decode M_Grid_neighbour.2.1 8 = .ok (.iadd, 1) := by decide +kernel
theorem d_Grid_neighbour_9 : decode M_Grid_neighbour.2.1 9 = .ok (.iaload, 1) := by decide +kernel
theorem d_Grid_neighbour_10 : decode M_Grid_neighbour.2.1 10 = .ok (.ireturn, 1) := by decide +kernel
theorem d_Areas_leastOf_0 : decode M_Areas_leastOf.2.1 0 = .ok (.aload_n 0, 1) := by decide +kernel
theorem d_Areas_leastOf_1 : decode M_Areas_leastOf.2.1 1 = .ok (.getfield 25, 3) := by decide +kernel
theorem d_Areas_leastOf_4 : decode M_Areas_leastOf.2.1 4 = .ok (.aload_n 0, 1) := by decide +kernel
theorem d_Areas_leastOf_5 : decode M_Areas_leastOf.2.1 5 = .ok (.getfield 28, 3) := by decide +kernel
theorem d_Areas_leastOf_8 : decode M_Areas_leastOf.2.1 8 = .ok (.iload_n 1, 1) := by decide +kernel
theorem d_Areas_leastOf_9 : decode M_Areas_leastOf.2.1 9 = .ok (.iaload, 1) := by decide +kernel
theorem d_Areas_leastOf_10 : decode M_Areas_leastOf.2.1 10 = .ok (.iaload, 1) := by decide +kernel
theorem d_Areas_leastOf_11 : decode M_Areas_leastOf.2.1 11 = .ok (.ireturn, 1) := by decide +kernel
theorem d_Areas_sizeOf_0 : decode M_Areas_sizeOf.2.1 0 = .ok (.aload_n 0, 1) := by decide +kernel
theorem d_Areas_sizeOf_1 : decode M_Areas_sizeOf.2.1 1 = .ok (.getfield 28, 3) := by decide +kernel
theorem d_Areas_sizeOf_4 : decode M_Areas_sizeOf.2.1 4 = .ok (.iload_n 1, 1) := by decide +kernel
theorem d_Areas_sizeOf_5 : decode M_Areas_sizeOf.2.1 5 = .ok (.iconst 1, 1) := by decide +kernel
theorem d_Areas_sizeOf_6 : decode M_Areas_sizeOf.2.1 6 = .ok (.iadd, 1) := by decide +kernel
theorem d_Areas_sizeOf_7 : decode M_Areas_sizeOf.2.1 7 = .ok (.iaload, 1) := by decide +kernel
theorem d_Areas_sizeOf_8 : decode M_Areas_sizeOf.2.1 8 = .ok (.aload_n 0, 1) := by decide +kernel
theorem d_Areas_sizeOf_9 : decode M_Areas_sizeOf.2.1 9 = .ok (.getfield 28, 3) := by decide +kernel
theorem d_Areas_sizeOf_12 : decode M_Areas_sizeOf.2.1 12 = .ok (.iload_n 1, 1) := by decide +kernel
theorem d_Areas_sizeOf_13 : decode M_Areas_sizeOf.2.1 13 = .ok (.iaload, 1) := by decide +kernel
theorem d_Areas_sizeOf_14 : decode M_Areas_sizeOf.2.1 14 = .ok (.isub, 1) := by decide +kernel
theorem d_Areas_sizeOf_15 : decode M_Areas_sizeOf.2.1 15 = .ok (.ireturn, 1) := by decide +kernel
theorem d_Areas_pointOf_0 : decode M_Areas_pointOf.2.1 0 = .ok (.aload_n 0, 1) := by decide +kernel
theorem d_Areas_pointOf_1 : decode M_Areas_pointOf.2.1 1 = .ok (.getfield 25, 3) := by decide +kernel
theorem d_Areas_pointOf_4 : decode M_Areas_pointOf.2.1 4 = .ok (.aload_n 0, 1) := by decide +kernel
theorem d_Areas_pointOf_5 : decode M_Areas_pointOf.2.1 5 = .ok (.getfield 28, 3) := by decide +kernel
theorem d_Areas_pointOf_8 : decode M_Areas_pointOf.2.1 8 = .ok (.iload_n 1, 1) := by decide +kernel
theorem d_Areas_pointOf_9 : decode M_Areas_pointOf.2.1 9 = .ok (.iaload, 1) := by decide +kernel
theorem d_Areas_pointOf_10 : decode M_Areas_pointOf.2.1 10 = .ok (.iload_n 2, 1) := by decide +kernel
theorem d_Areas_pointOf_11 : decode M_Areas_pointOf.2.1 11 = .ok (.iadd, 1) := by decide +kernel
theorem d_Areas_pointOf_12 : decode M_Areas_pointOf.2.1 12 = .ok (.iaload, 1) := by decide +kernel
theorem d_Areas_pointOf_13 : decode M_Areas_pointOf.2.1 13 = .ok (.ireturn, 1) := by decide +kernel
theorem d_Packed_freeBoard_0 : decode M_Packed_freeBoard.2.1 0 = .ok (.iload_n 0, 1) := by decide +kernel
theorem d_Packed_freeBoard_1 : decode M_Packed_freeBoard.2.1 1 = .ok (.bipush 32, 2) := by decide +kernel
theorem d_Packed_freeBoard_3 : decode M_Packed_freeBoard.2.1 3 = .ok (.iadd, 1) := by decide +kernel
theorem d_Packed_freeBoard_4 : decode M_Packed_freeBoard.2.1 4 = .ok (.iconst 1, 1) := by decide +kernel
theorem d_Packed_freeBoard_5 : decode M_Packed_freeBoard.2.1 5 = .ok (.isub, 1) := by decide +kernel
theorem d_Packed_freeBoard_6 : decode M_Packed_freeBoard.2.1 6 = .ok (.bipush 32, 2) := by decide +kernel
theorem d_Packed_freeBoard_8 : decode M_Packed_freeBoard.2.1 8 = .ok (.idiv, 1) := by decide +kernel
theorem d_Packed_freeBoard_9 : decode M_Packed_freeBoard.2.1 9 = .ok (.newarray .long, 2) := by decide +kernel
theorem d_Packed_freeBoard_11 : decode M_Packed_freeBoard.2.1 11 = .ok (.areturn, 1) := by decide +kernel
theorem d_Pos_init_0 : decode M_Pos_init.2.1 0 = .ok (.aload_n 0, 1) := by decide +kernel
theorem d_Pos_init_1 : decode M_Pos_init.2.1 1 = .ok (.invokespecial 1, 3) := by decide +kernel
theorem d_Pos_init_4 : decode M_Pos_init.2.1 4 = .ok (.aload_n 0, 1) := by decide +kernel
theorem d_Pos_init_5 : decode M_Pos_init.2.1 5 = .ok (.aload_n 1, 1) := by decide +kernel
theorem d_Pos_init_6 : decode M_Pos_init.2.1 6 = .ok (.putfield 7, 3) := by decide +kernel
theorem d_Pos_init_9 : decode M_Pos_init.2.1 9 = .ok (.aload_n 0, 1) := by decide +kernel
theorem d_Pos_init_10 : decode M_Pos_init.2.1 10 = .ok (.aload_n 2, 1) := by decide +kernel
theorem d_Pos_init_11 : decode M_Pos_init.2.1 11 = .ok (.putfield 13, 3) := by decide +kernel
theorem d_Pos_init_14 : decode M_Pos_init.2.1 14 = .ok (.aload_n 0, 1) := by decide +kernel
theorem d_Pos_init_15 : decode M_Pos_init.2.1 15 = .ok (.aload_n 3, 1) := by decide +kernel
theorem d_Pos_init_16 : decode M_Pos_init.2.1 16 = .ok (.putfield 16, 3) := by decide +kernel
theorem d_Pos_init_19 : decode M_Pos_init.2.1 19 = .ok (.aload_n 0, 1) := by decide +kernel
theorem d_Pos_init_20 : decode M_Pos_init.2.1 20 = .ok (.aload_n 1, 1) := by decide +kernel
theorem d_Pos_init_21 : decode M_Pos_init.2.1 21 = .ok (.ifnonnull 7, 3) := by decide +kernel
theorem d_Pos_init_24 : decode M_Pos_init.2.1 24 = .ok (.iconst 0, 1) := by decide +kernel
theorem d_Pos_init_25 : decode M_Pos_init.2.1 25 = .ok (.goto 9, 3) := by decide +kernel
theorem d_Pos_init_28 : decode M_Pos_init.2.1 28 = .ok (.aload_n 1, 1) := by decide +kernel
theorem d_Pos_init_29 : decode M_Pos_init.2.1 29 = .ok (.getfield 20, 3) := by decide +kernel
theorem d_Pos_init_32 : decode M_Pos_init.2.1 32 = .ok (.iconst 1, 1) := by decide +kernel
theorem d_Pos_init_33 : decode M_Pos_init.2.1 33 = .ok (.iadd, 1) := by decide +kernel
theorem d_Pos_init_34 : decode M_Pos_init.2.1 34 = .ok (.putfield 20, 3) := by decide +kernel
theorem d_Pos_init_37 : decode M_Pos_init.2.1 37 = .ok (.aload_n 0, 1) := by decide +kernel
theorem d_Pos_init_38 : decode M_Pos_init.2.1 38 = .ok (.iload 4, 2) := by decide +kernel
theorem d_Pos_init_40 : decode M_Pos_init.2.1 40 = .ok (.putfield 24, 3) := by decide +kernel
theorem d_Pos_init_43 : decode M_Pos_init.2.1 43 = .ok (.aload_n 0, 1) := by decide +kernel
theorem d_Pos_init_44 : decode M_Pos_init.2.1 44 = .ok (.iload 5, 2) := by decide +kernel
theorem d_Pos_init_46 : decode M_Pos_init.2.1 46 = .ok (.putfield 27, 3) := by decide +kernel
theorem d_Pos_init_49 : decode M_Pos_init.2.1 49 = .ok (.aload_n 0, 1) := by decide +kernel
theorem d_Pos_init_50 : decode M_Pos_init.2.1 50 = .ok (.iload 6, 2) := by decide +kernel
theorem d_Pos_init_52 : decode M_Pos_init.2.1 52 = .ok (.putfield 30, 3) := by decide +kernel
theorem d_Pos_init_55 : decode M_Pos_init.2.1 55 = .ok (.return_, 1) := by decide +kernel
theorem d_Packed_setKind_0 : decode M_Packed_setKind.2.1 0 = .ok (.iload_n 1, 1) := by decide +kernel
theorem d_Packed_setKind_1 : decode M_Packed_setKind.2.1 1 = .ok (.bipush 32, 2) := by decide +kernel
theorem d_Packed_setKind_3 : decode M_Packed_setKind.2.1 3 = .ok (.idiv, 1) := by decide +kernel
theorem d_Packed_setKind_4 : decode M_Packed_setKind.2.1 4 = .ok (.istore_n 3, 1) := by decide +kernel
theorem d_Packed_setKind_5 : decode M_Packed_setKind.2.1 5 = .ok (.iconst 2, 1) := by decide +kernel
theorem d_Packed_setKind_6 : decode M_Packed_setKind.2.1 6 = .ok (.iload_n 1, 1) := by decide +kernel
theorem d_Packed_setKind_7 : decode M_Packed_setKind.2.1 7 = .ok (.bipush 32, 2) := by decide +kernel
theorem d_Packed_setKind_9 : decode M_Packed_setKind.2.1 9 = .ok (.irem, 1) := by decide +kernel
theorem d_Packed_setKind_10 : decode M_Packed_setKind.2.1 10 = .ok (.imul, 1) := by decide +kernel
theorem d_Packed_setKind_11 : decode M_Packed_setKind.2.1 11 = .ok (.istore 4, 2) := by decide +kernel
theorem d_Packed_setKind_13 : decode M_Packed_setKind.2.1 13 = .ok (.aload_n 0, 1) := by decide +kernel
theorem d_Packed_setKind_14 : decode M_Packed_setKind.2.1 14 = .ok (.iload_n 3, 1) := by decide +kernel
theorem d_Packed_setKind_15 : decode M_Packed_setKind.2.1 15 = .ok (.aload_n 0, 1) := by decide +kernel
theorem d_Packed_setKind_16 : decode M_Packed_setKind.2.1 16 = .ok (.iload_n 3, 1) := by decide +kernel
theorem d_Packed_setKind_17 : decode M_Packed_setKind.2.1 17 = .ok (.laload, 1) := by decide +kernel
theorem d_Packed_setKind_18 : decode M_Packed_setKind.2.1 18 = .ok (.ldc2_w 9, 3) := by decide +kernel
theorem d_Packed_setKind_21 : decode M_Packed_setKind.2.1 21 = .ok (.iload 4, 2) := by decide +kernel
theorem d_Packed_setKind_23 : decode M_Packed_setKind.2.1 23 = .ok (.lshl, 1) := by decide +kernel
theorem d_Packed_setKind_24 : decode M_Packed_setKind.2.1 24 = .ok (.ldc2_w 11, 3) := by decide +kernel
theorem d_Packed_setKind_27 : decode M_Packed_setKind.2.1 27 = .ok (.lxor, 1) := by decide +kernel
theorem d_Packed_setKind_28 : decode M_Packed_setKind.2.1 28 = .ok (.land, 1) := by decide +kernel
theorem d_Packed_setKind_29 : decode M_Packed_setKind.2.1 29 = .ok (.iload_n 2, 1) := by decide +kernel
theorem d_Packed_setKind_30 : decode M_Packed_setKind.2.1 30 = .ok (.i2l, 1) := by decide +kernel
theorem d_Packed_setKind_31 : decode M_Packed_setKind.2.1 31 = .ok (.iload 4, 2) := by decide +kernel
theorem d_Packed_setKind_33 : decode M_Packed_setKind.2.1 33 = .ok (.lshl, 1) := by decide +kernel
theorem d_Packed_setKind_34 : decode M_Packed_setKind.2.1 34 = .ok (.lor, 1) := by decide +kernel
theorem d_Packed_setKind_35 : decode M_Packed_setKind.2.1 35 = .ok (.lastore, 1) := by decide +kernel
theorem d_Packed_setKind_36 : decode M_Packed_setKind.2.1 36 = .ok (.return_, 1) := by decide +kernel
theorem d_Areas_areaAt_0 : decode M_Areas_areaAt.2.1 0 = .ok (.aload_n 0, 1) := by decide +kernel
theorem d_Areas_areaAt_1 : decode M_Areas_areaAt.2.1 1 = .ok (.getfield 21, 3) := by decide +kernel
theorem d_Areas_areaAt_4 : decode M_Areas_areaAt.2.1 4 = .ok (.iload_n 1, 1) := by decide +kernel
theorem d_Areas_areaAt_5 : decode M_Areas_areaAt.2.1 5 = .ok (.iaload, 1) := by decide +kernel
theorem d_Areas_areaAt_6 : decode M_Areas_areaAt.2.1 6 = .ok (.ireturn, 1) := by decide +kernel
theorem d_Packed_kindAt_0 : decode M_Packed_kindAt.2.1 0 = .ok (.iconst 2, 1) := by decide +kernel
theorem d_Packed_kindAt_1 : decode M_Packed_kindAt.2.1 1 = .ok (.iload_n 1, 1) := by decide +kernel
theorem d_Packed_kindAt_2 : decode M_Packed_kindAt.2.1 2 = .ok (.bipush 32, 2) := by decide +kernel
theorem d_Packed_kindAt_4 : decode M_Packed_kindAt.2.1 4 = .ok (.irem, 1) := by decide +kernel
theorem d_Packed_kindAt_5 : decode M_Packed_kindAt.2.1 5 = .ok (.imul, 1) := by decide +kernel
theorem d_Packed_kindAt_6 : decode M_Packed_kindAt.2.1 6 = .ok (.istore_n 2, 1) := by decide +kernel
theorem d_Packed_kindAt_7 : decode M_Packed_kindAt.2.1 7 = .ok (.aload_n 0, 1) := by decide +kernel
theorem d_Packed_kindAt_8 : decode M_Packed_kindAt.2.1 8 = .ok (.iload_n 1, 1) := by decide +kernel
theorem d_Packed_kindAt_9 : decode M_Packed_kindAt.2.1 9 = .ok (.bipush 32, 2) := by decide +kernel
theorem d_Packed_kindAt_11 : decode M_Packed_kindAt.2.1 11 = .ok (.idiv, 1) := by decide +kernel
theorem d_Packed_kindAt_12 : decode M_Packed_kindAt.2.1 12 = .ok (.laload, 1) := by decide +kernel
theorem d_Packed_kindAt_13 : decode M_Packed_kindAt.2.1 13 = .ok (.iload_n 2, 1) := by decide +kernel
theorem d_Packed_kindAt_14 : decode M_Packed_kindAt.2.1 14 = .ok (.lushr, 1) := by decide +kernel
theorem d_Packed_kindAt_15 : decode M_Packed_kindAt.2.1 15 = .ok (.ldc2_w 9, 3) := by decide +kernel
theorem d_Packed_kindAt_18 : decode M_Packed_kindAt.2.1 18 = .ok (.land, 1) := by decide +kernel
theorem d_Packed_kindAt_19 : decode M_Packed_kindAt.2.1 19 = .ok (.l2i, 1) := by decide +kernel
theorem d_Packed_kindAt_20 : decode M_Packed_kindAt.2.1 20 = .ok (.ireturn, 1) := by decide +kernel
theorem d_Pos_hasBoard_0 : decode M_Pos_hasBoard.2.1 0 = .ok (.iconst 0, 1) := by decide +kernel
theorem d_Pos_hasBoard_1 : decode M_Pos_hasBoard.2.1 1 = .ok (.istore_n 2, 1) := by decide +kernel
theorem d_Pos_hasBoard_2 : decode M_Pos_hasBoard.2.1 2 = .ok (.iload_n 2, 1) := by decide +kernel
theorem d_Pos_hasBoard_3 : decode M_Pos_hasBoard.2.1 3 = .ok (.aload_n 0, 1) := by decide +kernel
theorem d_Pos_hasBoard_4 : decode M_Pos_hasBoard.2.1 4 = .ok (.getfield 16, 3) := by decide +kernel
theorem d_Pos_hasBoard_7 : decode M_Pos_hasBoard.2.1 7 = .ok (.arraylength, 1) := by decide +kernel
theorem d_Pos_hasBoard_8 : decode M_Pos_hasBoard.2.1 8 = .ok (.if_icmp .ge 30, 3) := by decide +kernel
theorem d_Pos_hasBoard_11 : decode M_Pos_hasBoard.2.1 11 = .ok (.iload_n 2, 1) := by decide +kernel
theorem d_Pos_hasBoard_12 : decode M_Pos_hasBoard.2.1 12 = .ok (.aload_n 1, 1) := by decide +kernel
theorem d_Pos_hasBoard_13 : decode M_Pos_hasBoard.2.1 13 = .ok (.arraylength, 1) := by decide +kernel
theorem d_Pos_hasBoard_14 : decode M_Pos_hasBoard.2.1 14 = .ok (.if_icmp .ge 24, 3) := by decide +kernel
theorem d_Pos_hasBoard_17 : decode M_Pos_hasBoard.2.1 17 = .ok (.aload_n 0, 1) := by decide +kernel
theorem d_Pos_hasBoard_18 : decode M_Pos_hasBoard.2.1 18 = .ok (.getfield 16, 3) := by decide +kernel
theorem d_Pos_hasBoard_21 : decode M_Pos_hasBoard.2.1 21 = .ok (.iload_n 2, 1) := by decide +kernel
theorem d_Pos_hasBoard_22 : decode M_Pos_hasBoard.2.1 22 = .ok (.laload, 1) := by decide +kernel
theorem d_Pos_hasBoard_23 : decode M_Pos_hasBoard.2.1 23 = .ok (.aload_n 1, 1) := by decide +kernel
theorem d_Pos_hasBoard_24 : decode M_Pos_hasBoard.2.1 24 = .ok (.iload_n 2, 1) := by decide +kernel
theorem d_Pos_hasBoard_25 : decode M_Pos_hasBoard.2.1 25 = .ok (.laload, 1) := by decide +kernel
theorem d_Pos_hasBoard_26 : decode M_Pos_hasBoard.2.1 26 = .ok (.lcmp, 1) := by decide +kernel
theorem d_Pos_hasBoard_27 : decode M_Pos_hasBoard.2.1 27 = .ok (.ifCond .eq 5, 3) := by decide +kernel
theorem d_Pos_hasBoard_30 : decode M_Pos_hasBoard.2.1 30 = .ok (.iconst 0, 1) := by decide +kernel
theorem d_Pos_hasBoard_31 : decode M_Pos_hasBoard.2.1 31 = .ok (.ireturn, 1) := by decide +kernel
theorem d_Pos_hasBoard_32 : decode M_Pos_hasBoard.2.1 32 = .ok (.iinc 2 1, 3) := by decide +kernel
theorem d_Pos_hasBoard_35 : decode M_Pos_hasBoard.2.1 35 = .ok (.goto (-33), 3) := by decide +kernel
theorem d_Pos_hasBoard_38 : decode M_Pos_hasBoard.2.1 38 = .ok (.iconst 1, 1) := by decide +kernel
theorem d_Pos_hasBoard_39 : decode M_Pos_hasBoard.2.1 39 = .ok (.ireturn, 1) := by decide +kernel
theorem d_Packed_unpack_0 : decode M_Packed_unpack.2.1 0 = .ok (.iconst 0, 1) := by decide +kernel
theorem d_Packed_unpack_1 : decode M_Packed_unpack.2.1 1 = .ok (.istore_n 2, 1) := by decide +kernel
theorem d_Packed_unpack_2 : decode M_Packed_unpack.2.1 2 = .ok (.iload_n 2, 1) := by decide +kernel
theorem d_Packed_unpack_3 : decode M_Packed_unpack.2.1 3 = .ok (.aload_n 1, 1) := by decide +kernel
theorem d_Packed_unpack_4 : decode M_Packed_unpack.2.1 4 = .ok (.arraylength, 1) := by decide +kernel
theorem d_Packed_unpack_5 : decode M_Packed_unpack.2.1 5 = .ok (.if_icmp .ge 17, 3) := by decide +kernel
theorem d_Packed_unpack_8 : decode M_Packed_unpack.2.1 8 = .ok (.aload_n 1, 1) := by decide +kernel
theorem d_Packed_unpack_9 : decode M_Packed_unpack.2.1 9 = .ok (.iload_n 2, 1) := by decide +kernel
theorem d_Packed_unpack_10 : decode M_Packed_unpack.2.1 10 = .ok (.aload_n 0, 1) := by decide +kernel
theorem d_Packed_unpack_11 : decode M_Packed_unpack.2.1 11 = .ok (.iload_n 2, 1) := by decide +kernel
theorem d_Packed_unpack_12 : decode M_Packed_unpack.2.1 12 = .ok (.invokestatic 13, 3) := by decide +kernel
theorem d_Packed_unpack_15 : decode M_Packed_unpack.2.1 15 = .ok (.iastore, 1) := by decide +kernel
theorem d_Packed_unpack_16 : decode M_Packed_unpack.2.1 16 = .ok (.iinc 2 1, 3) := by decide +kernel
theorem d_Packed_unpack_19 : decode M_Packed_unpack.2.1 19 = .ok (.goto (-17), 3) := by decide +kernel
theorem d_Packed_unpack_22 : decode M_Packed_unpack.2.1 22 = .ok (.return_, 1) := by decide +kernel
end
section
/-! Decode rows, printed. -/
theorem d_Chart_init_0 : decode M_Chart_init.2.1 0 = .ok (.aload_n 0, 1) := by decide +kernel
theorem d_Chart_init_1 : decode M_Chart_init.2.1 1 = .ok (.invokespecial 3, 3) := by decide +kernel
theorem d_Chart_init_4 : decode M_Chart_init.2.1 4 = .ok (.aload_n 0, 1) := by decide +kernel
theorem d_Chart_init_5 : decode M_Chart_init.2.1 5 = .ok (.aload_n 1, 1) := by decide +kernel
theorem d_Chart_init_6 : decode M_Chart_init.2.1 6 = .ok (.putfield 9, 3) := by decide +kernel
theorem d_Chart_init_9 : decode M_Chart_init.2.1 9 = .ok (.aload_n 0, 1) := by decide +kernel
theorem d_Chart_init_10 : decode M_Chart_init.2.1 10 = .ok (.aload_n 2, 1) := by decide +kernel
theorem d_Chart_init_11 : decode M_Chart_init.2.1 11 = .ok (.putfield 15, 3) := by decide +kernel
theorem d_Chart_init_14 : decode M_Chart_init.2.1 14 = .ok (.aload_n 0, 1) := by decide +kernel
theorem d_Chart_init_15 : decode M_Chart_init.2.1 15 = .ok (.new 19, 3) := by decide +kernel
theorem d_Chart_init_18 : decode M_Chart_init.2.1 18 = .ok (.dup, 1) := by decide +kernel
theorem d_Chart_init_19 : decode M_Chart_init.2.1 19 = .ok (.aload_n 1, 1) := by decide +kernel
theorem d_Chart_init_20 : decode M_Chart_init.2.1 20 = .ok (.invokespecial 21, 3) := by decide +kernel
theorem d_Chart_init_23 : decode M_Chart_init.2.1 23 = .ok (.putfield 24, 3) := by decide +kernel
theorem d_Chart_init_26 : decode M_Chart_init.2.1 26 = .ok (.aload_n 0, 1) := by decide +kernel
theorem d_Chart_init_27 : decode M_Chart_init.2.1 27 = .ok (.aload_n 1, 1) := by decide +kernel
theorem d_Chart_init_28 : decode M_Chart_init.2.1 28 = .ok (.getfield 28, 3) := by decide +kernel
theorem d_Chart_init_31 : decode M_Chart_init.2.1 31 = .ok (.newarray .int, 2) := by decide +kernel
theorem d_Chart_init_33 : decode M_Chart_init.2.1 33 = .ok (.putfield 34, 3) := by decide +kernel
theorem d_Chart_init_36 : decode M_Chart_init.2.1 36 = .ok (.aload_n 0, 1) := by decide +kernel
theorem d_Chart_init_37 : decode M_Chart_init.2.1 37 = .ok (.aload_n 1, 1) := by decide +kernel
theorem d_Chart_init_38 : decode M_Chart_init.2.1 38 = .ok (.getfield 28, 3) := by decide +kernel
theorem d_Chart_init_41 : decode M_Chart_init.2.1 41 = .ok (.newarray .int, 2) := by decide +kernel
theorem d_Chart_init_43 : decode M_Chart_init.2.1 43 = .ok (.putfield 37, 3) := by decide +kernel
theorem d_Chart_init_46 : decode M_Chart_init.2.1 46 = .ok (.aload_n 0, 1) := by decide +kernel
theorem d_Chart_init_47 : decode M_Chart_init.2.1 47 = .ok (.aload_n 1, 1) := by decide +kernel
theorem d_Chart_init_48 : decode M_Chart_init.2.1 48 = .ok (.getfield 28, 3) := by decide +kernel
theorem d_Chart_init_51 : decode M_Chart_init.2.1 51 = .ok (.newarray .int, 2) := by decide +kernel
theorem d_Chart_init_53 : decode M_Chart_init.2.1 53 = .ok (.putfield 40, 3) := by decide +kernel
theorem d_Chart_init_56 : decode M_Chart_init.2.1 56 = .ok (.aload_n 0, 1) := by decide +kernel
theorem d_Chart_init_57 : decode M_Chart_init.2.1 57 = .ok (.aload_n 1, 1) := by decide +kernel
theorem d_Chart_init_58 : decode M_Chart_init.2.1 58 = .ok (.getfield 28, 3) := by decide +kernel
theorem d_Chart_init_61 : decode M_Chart_init.2.1 61 = .ok (.newarray .int, 2) := by decide +kernel
theorem d_Chart_init_63 : decode M_Chart_init.2.1 63 = .ok (.putfield 43, 3) := by decide +kernel
theorem d_Chart_init_66 : decode M_Chart_init.2.1 66 = .ok (.aload_n 0, 1) := by decide +kernel
theorem d_Chart_init_67 : decode M_Chart_init.2.1 67 = .ok (.invokevirtual 46, 3) := by decide +kernel
theorem d_Chart_init_70 : decode M_Chart_init.2.1 70 = .ok (.return_, 1) := by decide +kernel
theorem d_Chart_draw_0 : decode M_Chart_draw.2.1 0 = .ok (.aload_n 0, 1) := by decide +kernel
theorem d_Chart_draw_1 : decode M_Chart_draw.2.1 1 = .ok (.getfield 24, 3) := by decide +kernel
theorem d_Chart_draw_4 : decode M_Chart_draw.2.1 4 = .ok (.aload_n 0, 1) := by decide +kernel
theorem d_Chart_draw_5 : decode M_Chart_draw.2.1 5 = .ok (.getfield 15, 3) := by decide +kernel
theorem d_Chart_draw_8 : decode M_Chart_draw.2.1 8 = .ok (.invokevirtual 49, 3) := by decide +kernel
theorem d_Chart_draw_11 : decode M_Chart_draw.2.1 11 = .ok (.aload_n 0, 1) := by decide +kernel
theorem d_Chart_draw_12 : decode M_Chart_draw.2.1 12 = .ok (.getfield 43, 3) := by decide +kernel
theorem d_Chart_draw_15 : decode M_Chart_draw.2.1 15 = .ok (.iconst (-1), 1) := by decide +kernel
theorem d_Chart_draw_16 : decode M_Chart_draw.2.1 16 = .ok (.invokestatic 53, 3) := by decide +kernel
theorem d_Chart_draw_19 : decode M_Chart_draw.2.1 19 = .ok (.iconst 0, 1) := by decide +kernel
theorem d_Chart_draw_20 : decode M_Chart_draw.2.1 20 = .ok (.istore_n 1, 1) := by decide +kernel
theorem d_Chart_draw_21 : decode M_Chart_draw.2.1 21 = .ok (.iload_n 1, 1) := by decide +kernel
theorem d_Chart_draw_22 : decode M_Chart_draw.2.1 22 = .ok (.aload_n 0, 1) := by decide +kernel
theorem d_Chart_draw_23 : decode M_Chart_draw.2.1 23 = .ok (.getfield 24, 3) := by decide +kernel
theorem d_Chart_draw_26 : decode M_Chart_draw.2.1 26 = .ok (.getfield 59, 3) := by decide +kernel
theorem d_Chart_draw_29 : decode M_Chart_draw.2.1 29 = .ok (.if_icmp .ge 55, 3) := by decide +kernel
theorem d_Chart_draw_32 : decode M_Chart_draw.2.1 32 = .ok (.aload_n 0, 1) := by decide +kernel
theorem d_Chart_draw_33 : decode M_Chart_draw.2.1 33 = .ok (.iload_n 1, 1) := by decide +kernel
theorem d_Chart_draw_34 : decode M_Chart_draw.2.1 34 = .ok (.invokevirtual 60, 3) := by decide +kernel
theorem d_Chart_draw_37 : decode M_Chart_draw.2.1 37 = .ok (.ifCond .eq 17, 3) := by decide +kernel
theorem d_Chart_draw_40 : decode M_Chart_draw.2.1 40 = .ok (.aload_n 0, 1) := by decide +kernel
theorem d_Chart_draw_41 : decode M_Chart_draw.2.1 41 = .ok (.getfield 40, 3) := by decide +kernel
theorem d_Chart_draw_44 : decode M_Chart_draw.2.1 44 = .ok (.iload_n 1, 1) := by decide +kernel
theorem d_Chart_draw_45 : decode M_Chart_draw.2.1 45 = .ok (.aload_n 0, 1) := by decide +kernel
theorem d_Chart_draw_46 : decode M_Chart_draw.2.1 46 = .ok (.iload_n 1, 1) := by decide +kernel
theorem d_Chart_draw_47 : decode M_Chart_draw.2.1 47 = .ok (.invokevirtual 64, 3) := by decide +kernel
theorem d_Chart_draw_50 : decode M_Chart_draw.2.1 50 = .ok (.iastore, 1) := by decide +kernel
theorem d_Chart_draw_51 : decode M_Chart_draw.2.1 51 = .ok (.goto 27, 3) := by decide +kernel
theorem d_Chart_draw_54 : decode M_Chart_draw.2.1 54 = .ok (.aload_n 0, 1) := by decide +kernel
theorem d_Chart_draw_55 : decode M_Chart_draw.2.1 55 = .ok (.getfield 40, 3) := by decide +kernel
theorem d_Chart_draw_58 : decode M_Chart_draw.2.1 58 = .ok (.iload_n 1, 1) := by decide +kernel
theorem d_Chart_draw_59 : decode M_Chart_draw.2.1 59 = .ok (.aload_n 0, 1) := by decide +kernel
theorem d_Chart_draw_60 : decode M_Chart_draw.2.1 60 = .ok (.getfield 15, 3) := by decide +kernel
theorem d_Chart_draw_63 : decode M_Chart_draw.2.1 63 = .ok (.aload_n 0, 1) := by decide +kernel
theorem d_Chart_draw_64 : decode M_Chart_draw.2.1 64 = .ok (.getfield 24, 3) := by decide +kernel
theorem d_Chart_draw_67 : decode M_Chart_draw.2.1 67 = .ok (.iload_n 1, 1) := by decide +kernel
theorem d_Chart_draw_68 : decode M_Chart_draw.2.1 68 = .ok (.invokevirtual 68, 3) := by decide +kernel
theorem d_Chart_draw_71 : decode M_Chart_draw.2.1 71 = .ok (.iaload, 1) := by decide +kernel
theorem d_Chart_draw_72 : decode M_Chart_draw.2.1 72 = .ok (.iastore, 1) := by decide +kernel
theorem d_Chart_draw_73 : decode M_Chart_draw.2.1 73 = .ok (.aload_n 0, 1) := by decide +kernel
theorem d_Chart_draw_74 : decode M_Chart_draw.2.1 74 = .ok (.iload_n 1, 1) := by decide +kernel
theorem d_Chart_draw_75 : decode M_Chart_draw.2.1 75 = .ok (.invokevirtual 71, 3) := by decide +kernel
theorem d_Chart_draw_78 : decode M_Chart_draw.2.1 78 = .ok (.iinc 1 1, 3) := by decide +kernel
theorem d_Chart_draw_81 : decode M_Chart_draw.2.1 81 = .ok (.goto (-60), 3) := by decide +kernel
theorem d_Chart_draw_84 : decode M_Chart_draw.2.1 84 = .ok (.return_, 1) := by decide +kernel
theorem d_Chart_isFree_0 : decode M_Chart_isFree.2.1 0 = .ok (.aload_n 0, 1) := by decide +kernel
theorem d_Chart_isFree_1 : decode M_Chart_isFree.2.1 1 = .ok (.getfield 15, 3) := by decide +kernel
theorem d_Chart_isFree_4 : decode M_Chart_isFree.2.1 4 = .ok (.aload_n 0, 1) := by decide +kernel
theorem d_Chart_isFree_5 : decode M_Chart_isFree.2.1 5 = .ok (.getfield 24, 3) := by decide +kernel
theorem d_Chart_isFree_8 : decode M_Chart_isFree.2.1 8 = .ok (.iload_n 1, 1) := by decide +kernel
theorem d_Chart_isFree_9 : decode M_Chart_isFree.2.1 9 = .ok (.invokevirtual 68, 3) := by decide +kernel
theorem d_Chart_isFree_12 : decode M_Chart_isFree.2.1 12 = .ok (.iaload, 1) := by decide +kernel
theorem d_Chart_isFree_13 : decode M_Chart_isFree.2.1 13 = .ok (.ifCond .ne 7, 3) := by decide +kernel
theorem d_Chart_isFree_16 : decode M_Chart_isFree.2.1 16 = .ok (.iconst 1, 1) := by decide +kernel
theorem d_Chart_isFree_17 : decode M_Chart_isFree.2.1 17 = .ok (.goto 4, 3) := by decide +kernel
theorem d_Chart_isFree_20 : decode M_Chart_isFree.2.1 20 = .ok (.iconst 0, 1) := by decide +kernel
theorem d_Chart_isFree_21 : decode M_Chart_isFree.2.1 21 = .ok (.ireturn, 1) := by decide +kernel
theorem d_Chart_findHolder_0 : decode M_Chart_findHolder.2.1 0 = .ok (.iconst 0, 1) := by decide +kernel
theorem d_Chart_findHolder_1 : decode M_Chart_findHolder.2.1 1 = .ok (.istore_n 2, 1) := by decide +kernel
theorem d_Chart_findHolder_2 : decode M_Chart_findHolder.2.1 2 = .ok (.iconst 0, 1) := by decide +kernel
theorem d_Chart_findHolder_3 : decode M_Chart_findHolder.2.1 3 = .ok (.istore_n 3, 1) := by decide +kernel
theorem d_Chart_findHolder_4 : decode M_Chart_findHolder.2.1 4 = .ok (.iload_n 3, 1) := by decide +kernel
theorem d_Chart_findHolder_5 : decode M_Chart_findHolder.2.1 5 = .ok (.aload_n 0, 1) := by decide +kernel
theorem d_Chart_findHolder_6 : decode M_Chart_findHolder.2.1 6 = .ok (.getfield 24, 3) := by decide +kernel
theorem d_Chart_findHolder_9 : decode M_Chart_findHolder.2.1 9 = .ok (.iload_n 1, 1) := by decide +kernel
theorem d_Chart_findHolder_10 : decode M_Chart_findHolder.2.1 10 = .ok (.invokevirtual 75, 3) := by decide +kernel
theorem d_Chart_findHolder_13 : decode M_Chart_findHolder.2.1 13 = .ok (.if_icmp .ge 87, 3) := by decide +kernel
theorem d_Chart_findHolder_16 : decode M_Chart_findHolder.2.1 16 = .ok (.iconst 0, 1) := by decide +kernel
theorem d_Chart_findHolder_17 : decode M_Chart_findHolder.2.1 17 = .ok (.istore 4, 2) := by decide +kernel
theorem d_Chart_findHolder_19 : decode M_Chart_findHolder.2.1 19 = .ok (.iload 4, 2) := by decide +kernel
theorem d_Chart_findHolder_21 : decode M_Chart_findHolder.2.1 21 = .ok (.iconst 4, 1) := by decide +kernel
theorem d_Chart_findHolder_22 : decode M_Chart_findHolder.2.1 22 = .ok (.if_icmp .ge 72, 3) := by decide +kernel
theorem d_Chart_findHolder_25 : decode M_Chart_findHolder.2.1 25 = .ok (.aload_n 0, 1) := by decide +kernel
theorem d_Chart_findHolder_26 : decode M_Chart_findHolder.2.1 26 = .ok (.getfield 9, 3) := by decide +kernel
theorem d_Chart_findHolder_29 : decode M_Chart_findHolder.2.1 29 = .ok (.aload_n 0, 1) := by decide +kernel
theorem d_Chart_findHolder_30 : decode M_Chart_findHolder.2.1 30 = .ok (.getfield 24, 3) := by decide +kernel
theorem d_Chart_findHolder_33 : decode M_Chart_findHolder.2.1 33 = .ok (.iload_n 1, 1) := by decide +kernel
theorem d_Chart_findHolder_34 : decode M_Chart_findHolder.2.1 34 = .ok (.iload_n 3, 1) := by decide +kernel
theorem d_Chart_findHolder_35 : decode M_Chart_findHolder.2.1 35 = .ok (.invokevirtual 78, 3) := by decide +kernel
theorem d_Chart_findHolder_38 : decode M_Chart_findHolder.2.1 38 = .ok (.iload 4, 2) := by decide +kernel
theorem d_Chart_findHolder_40 : decode M_Chart_findHolder.2.1 40 = .ok (.invokevirtual 82, 3) := by decide +kernel
theorem d_Chart_findHolder_43 : decode M_Chart_findHolder.2.1 43 = .ok (.istore 5, 2) := by decide +kernel
theorem d_Chart_findHolder_45 : decode M_Chart_findHolder.2.1 45 = .ok (.iload 5, 2) := by decide +kernel
theorem d_Chart_findHolder_47 : decode M_Chart_findHolder.2.1 47 = .ok (.iconst (-1), 1) := by decide +kernel
theorem d_Chart_findHolder_48 : decode M_Chart_findHolder.2.1 48 = .ok (.if_icmp .eq 40, 3) := by decide +kernel
theorem d_Chart_findHolder_51 : decode M_Chart_findHolder.2.1 51 = .ok (.aload_n 0, 1) := by decide +kernel
theorem d_Chart_findHolder_52 : decode M_Chart_findHolder.2.1 52 = .ok (.getfield 15, 3) := by decide +kernel
theorem d_Chart_findHolder_55 : decode M_Chart_findHolder.2.1 55 = .ok (.iload 5, 2) := by decide +kernel
theorem d_Chart_findHolder_57 : decode M_Chart_findHolder.2.1 57 = .ok (.iaload, 1) := by decide +kernel
theorem d_Chart_findHolder_58 : decode M_Chart_findHolder.2.1 58 = .ok (.ifCond .ne 6, 3) := by decide +kernel
theorem d_Chart_findHolder_61 : decode M_Chart_findHolder.2.1 61 = .ok (.goto 27, 3) := by decide +kernel
theorem d_Chart_findHolder_64 : decode M_Chart_findHolder.2.1 64 = .ok (.iload_n 2, 1) := by decide +kernel
theorem d_Chart_findHolder_65 : decode M_Chart_findHolder.2.1 65 = .ok (.aload_n 0, 1) := by decide +kernel
theorem d_Chart_findHolder_66 : decode M_Chart_findHolder.2.1 66 = .ok (.getfield 15, 3) := by decide +kernel
theorem d_Chart_findHolder_69 : decode M_Chart_findHolder.2.1 69 = .ok (.iload 5, 2) := by decide +kernel
theorem d_Chart_findHolder_71 : decode M_Chart_findHolder.2.1 71 = .ok (.iaload, 1) := by decide +kernel
theorem d_Chart_findHolder_72 : decode M_Chart_findHolder.2.1 72 = .ok (.invokestatic 85, 3) := by decide +kernel
theorem d_Chart_findHolder_75 : decode M_Chart_findHolder.2.1 75 = .ok (.if_icmp .ne 5, 3) := by decide +kernel
theorem d_Chart_findHolder_78 : decode M_Chart_findHolder.2.1 78 = .ok (.iconst 0, 1) := by decide +kernel
theorem d_Chart_findHolder_79 : decode M_Chart_findHolder.2.1 79 = .ok (.ireturn, 1) := by decide +kernel
theorem d_Chart_findHolder_80 : decode M_Chart_findHolder.2.1 80 = .ok (.aload_n 0, 1) := by decide +kernel
theorem d_Chart_findHolder_81 : decode M_Chart_findHolder.2.1 81 = .ok (.getfield 15, 3) := by decide +kernel
theorem d_Chart_findHolder_84 : decode M_Chart_findHolder.2.1 84 = .ok (.iload 5, 2) := by decide +kernel
theorem d_Chart_findHolder_86 : decode M_Chart_findHolder.2.1 86 = .ok (.iaload, 1) := by decide +kernel
theorem d_Chart_findHolder_87 : decode M_Chart_findHolder.2.1 87 = .ok (.istore_n 2, 1) := by decide +kernel
theorem d_Chart_findHolder_88 : decode M_Chart_findHolder.2.1 88 = .ok (.iinc 4 1, 3) := by decide +kernel
theorem d_Chart_findHolder_91 : decode M_Chart_findHolder.2.1 91 = .ok (.goto (-72), 3) := by decide +kernel
theorem d_Chart_findHolder_94 : decode M_Chart_findHolder.2.1 94 = .ok (.iinc 3 1, 3) := by decide +kernel
theorem d_Chart_findHolder_97 : decode M_Chart_findHolder.2.1 97 = .ok (.goto (-93), 3) := by decide +kernel
theorem d_Chart_findHolder_100 : decode M_Chart_findHolder.2.1 100 = .ok (.iload_n 2, 1) := by decide +kernel
theorem d_Chart_findHolder_101 : decode M_Chart_findHolder.2.1 101 = .ok (.ireturn, 1) := by decide +kernel
theorem d_Chart_countBreaths_0 : decode M_Chart_countBreaths.2.1 0 = .ok (.iconst 0, 1) := by decide +kernel
theorem d_Chart_countBreaths_1 : decode M_Chart_countBreaths.2.1 1 = .ok (.istore_n 2, 1) := by decide +kernel
theorem d_Chart_countBreaths_2 : decode M_Chart_countBreaths.2.1 2 = .ok (.aload_n 0, 1) := by decide +kernel
theorem d_Chart_countBreaths_3 : decode M_Chart_countBreaths.2.1 3 = .ok (.getfield 9, 3) := by decide +kernel
theorem d_Chart_countBreaths_6 : decode M_Chart_countBreaths.2.1 6 = .ok (.getfield 28, 3) := by decide +kernel
theorem d_Chart_countBreaths_9 : decode M_Chart_countBreaths.2.1 9 = .ok (.istore_n 3, 1) := by decide +kernel
theorem d_Chart_countBreaths_10 : decode M_Chart_countBreaths.2.1 10 = .ok (.iconst 0, 1) := by decide +kernel
theorem d_Chart_countBreaths_11 : decode M_Chart_countBreaths.2.1 11 = .ok (.istore 4, 2) := by decide +kernel
theorem d_Chart_countBreaths_13 : decode M_Chart_countBreaths.2.1 13 = .ok (.iload 4, 2) := by decide +kernel
theorem d_Chart_countBreaths_15 : decode M_Chart_countBreaths.2.1 15 = .ok (.aload_n 0, 1) := by decide +kernel
theorem d_Chart_countBreaths_16 : decode M_Chart_countBreaths.2.1 16 = .ok (.getfield 24, 3) := by decide +kernel
theorem d_Chart_countBreaths_19 : decode M_Chart_countBreaths.2.1 19 = .ok (.iload_n 1, 1) := by decide +kernel
theorem d_Chart_countBreaths_20 : decode M_Chart_countBreaths.2.1 20 = .ok (.invokevirtual 75, 3) := by decide +kernel
theorem d_Chart_countBreaths_23 : decode M_Chart_countBreaths.2.1 23 = .ok (.if_icmp .ge 90, 3) := by decide +kernel
theorem d_Chart_countBreaths_26 : decode M_Chart_countBreaths.2.1 26 = .ok (.iconst 0, 1) := by decide +kernel
theorem d_Chart_countBreaths_27 : decode M_Chart_countBreaths.2.1 27 = .ok (.istore 5, 2) := by decide +kernel
theorem d_Chart_countBreaths_29 : decode M_Chart_countBreaths.2.1 29 = .ok (.iload 5, 2) := by decide +kernel
theorem d_Chart_countBreaths_31 : decode M_Chart_countBreaths.2.1 31 = .ok (.iconst 4, 1) := by decide +kernel
theorem d_Chart_countBreaths_32 : decode M_Chart_countBreaths.2.1 32 = .ok (.if_icmp .ge 75, 3) := by decide +kernel
theorem d_Chart_countBreaths_35 : decode M_Chart_countBreaths.2.1 35 = .ok (.aload_n 0, 1) := by decide +kernel
theorem d_Chart_countBreaths_36 : decode M_Chart_countBreaths.2.1 36 = .ok (.getfield 9, 3) := by decide +kernel
theorem d_Chart_countBreaths_39 : decode M_Chart_countBreaths.2.1 39 = .ok (.aload_n 0, 1) := by decide +kernel
theorem d_Chart_countBreaths_40 : decode M_Chart_countBreaths.2.1 40 = .ok (.getfield 24, 3) := by decide +kernel
theorem d_Chart_countBreaths_43 : decode M_Chart_countBreaths.2.1 43 = .ok (.iload_n 1, 1) := by decide +kernel
theorem d_Chart_countBreaths_44 : decode M_Chart_countBreaths.2.1 44 = .ok (.iload 4, 2) := by decide +kernel
theorem d_Chart_countBreaths_46 : decode M_Chart_countBreaths.2.1 46 = .ok (.invokevirtual 78, 3) := by decide +kernel
theorem d_Chart_countBreaths_49 : decode M_Chart_countBreaths.2.1 49 = .ok (.iload 5, 2) := by decide +kernel
theorem d_Chart_countBreaths_51 : decode M_Chart_countBreaths.2.1 51 = .ok (.invokevirtual 82, 3) := by decide +kernel
theorem d_Chart_countBreaths_54 : decode M_Chart_countBreaths.2.1 54 = .ok (.istore 6, 2) := by decide +kernel
theorem d_Chart_countBreaths_56 : decode M_Chart_countBreaths.2.1 56 = .ok (.iload 6, 2) := by decide +kernel
theorem d_Chart_countBreaths_58 : decode M_Chart_countBreaths.2.1 58 = .ok (.iconst (-1), 1) := by decide +kernel
theorem d_Chart_countBreaths_59 : decode M_Chart_countBreaths.2.1 59 = .ok (.if_icmp .eq 42, 3) := by decide +kernel
theorem d_Chart_countBreaths_62 : decode M_Chart_countBreaths.2.1 62 = .ok (.aload_n 0, 1) := by decide +kernel
theorem d_Chart_countBreaths_63 : decode M_Chart_countBreaths.2.1 63 = .ok (.getfield 15, 3) := by decide +kernel
theorem d_Chart_countBreaths_66 : decode M_Chart_countBreaths.2.1 66 = .ok (.iload 6, 2) := by decide +kernel
theorem d_Chart_countBreaths_68 : decode M_Chart_countBreaths.2.1 68 = .ok (.iaload, 1) := by decide +kernel
theorem d_Chart_countBreaths_69 : decode M_Chart_countBreaths.2.1 69 = .ok (.ifCond .ne 32, 3) := by decide +kernel
theorem d_Chart_countBreaths_72 : decode M_Chart_countBreaths.2.1 72 = .ok (.aload_n 0, 1) := by decide +kernel
theorem d_Chart_countBreaths_73 : decode M_Chart_countBreaths.2.1 73 = .ok (.getfield 43, 3) := by decide +kernel
theorem d_Chart_countBreaths_76 : decode M_Chart_countBreaths.2.1 76 = .ok (.iload 6, 2) := by decide +kernel
theorem d_Chart_countBreaths_78 : decode M_Chart_countBreaths.2.1 78 = .ok (.iaload, 1) := by decide +kernel
theorem d_Chart_countBreaths_79 : decode M_Chart_countBreaths.2.1 79 = .ok (.iload_n 1, 1) := by decide +kernel
theorem d_Chart_countBreaths_80 : decode M_Chart_countBreaths.2.1 80 = .ok (.if_icmp .eq 21, 3) := by decide +kernel
theorem d_Chart_countBreaths_83 : decode M_Chart_countBreaths.2.1 83 = .ok (.aload_n 0, 1) := by decide +kernel
theorem d_Chart_countBreaths_84 : decode M_Chart_countBreaths.2.1 84 = .ok (.getfield 43, 3) := by decide +kernel
theorem d_Chart_countBreaths_87 : decode M_Chart_countBreaths.2.1 87 = .ok (.iload 6, 2) := by decide +kernel
theorem d_Chart_countBreaths_89 : decode M_Chart_countBreaths.2.1 89 = .ok (.iload_n 1, 1) := by decide +kernel
theorem d_Chart_countBreaths_90 : decode M_Chart_countBreaths.2.1 90 = .ok (.iastore, 1) := by decide +kernel
theorem d_Chart_countBreaths_91 : decode M_Chart_countBreaths.2.1 91 = .ok (.iinc 2 1, 3) := by decide +kernel
theorem d_Chart_countBreaths_94 : decode M_Chart_countBreaths.2.1 94 = .ok (.iload_n 3, 1) := by decide +kernel
theorem d_Chart_countBreaths_95 : decode M_Chart_countBreaths.2.1 95 = .ok (.iload 6, 2) := by decide +kernel
theorem d_Chart_countBreaths_97 : decode M_Chart_countBreaths.2.1 97 = .ok (.invokestatic 88, 3) := by decide +kernel
theorem d_Chart_countBreaths_100 : decode M_Chart_countBreaths.2.1 100 = .ok (.istore_n 3, 1) := by decide +kernel
theorem d_Chart_countBreaths_101 : decode M_Chart_countBreaths.2.1 101 = .ok (.iinc 5 1, 3) := by decide +kernel
theorem d_Chart_countBreaths_104 : decode M_Chart_countBreaths.2.1 104 = .ok (.goto (-75), 3) := by decide +kernel
theorem d_Chart_countBreaths_107 : decode M_Chart_countBreaths.2.1 107 = .ok (.iinc 4 1, 3) := by decide +kernel
theorem d_Chart_countBreaths_110 : decode M_Chart_countBreaths.2.1 110 = .ok (.goto (-97), 3) := by decide +kernel
theorem d_Chart_countBreaths_113 : decode M_Chart_countBreaths.2.1 113 = .ok (.aload_n 0, 1) := by decide +kernel
theorem d_Chart_countBreaths_114 : decode M_Chart_countBreaths.2.1 114 = .ok (.getfield 34, 3) := by decide +kernel
theorem d_Chart_countBreaths_117 : decode M_Chart_countBreaths.2.1 117 = .ok (.iload_n 1, 1) := by decide +kernel
theorem d_Chart_countBreaths_118 : decode M_Chart_countBreaths.2.1 118 = .ok (.iload_n 2, 1) := by decide +kernel
theorem d_Chart_countBreaths_119 : decode M_Chart_countBreaths.2.1 119 = .ok (.iastore, 1) := by decide +kernel
theorem d_Chart_countBreaths_120 : decode M_Chart_countBreaths.2.1 120 = .ok (.aload_n 0, 1) := by decide +kernel
theorem d_Chart_countBreaths_121 : decode M_Chart_countBreaths.2.1 121 = .ok (.getfield 37, 3) := by decide +kernel
theorem d_Chart_countBreaths_124 : decode M_Chart_countBreaths.2.1 124 = .ok (.iload_n 1, 1) := by decide +kernel
theorem d_Chart_countBreaths_125 : decode M_Chart_countBreaths.2.1 125 = .ok (.iload_n 3, 1) := by decide +kernel
theorem d_Chart_countBreaths_126 : decode M_Chart_countBreaths.2.1 126 = .ok (.iastore, 1) := by decide +kernel
theorem d_Chart_countBreaths_127 : decode M_Chart_countBreaths.2.1 127 = .ok (.return_, 1) := by decide +kernel
theorem d_Trial_init_0 : decode M_Trial_init.2.1 0 = .ok (.aload_n 0, 1) := by decide +kernel
theorem d_Trial_init_1 : decode M_Trial_init.2.1 1 = .ok (.invokespecial 3, 3) := by decide +kernel
theorem d_Trial_init_4 : decode M_Trial_init.2.1 4 = .ok (.aload_n 0, 1) := by decide +kernel
theorem d_Trial_init_5 : decode M_Trial_init.2.1 5 = .ok (.aload_n 1, 1) := by decide +kernel
theorem d_Trial_init_6 : decode M_Trial_init.2.1 6 = .ok (.putfield 9, 3) := by decide +kernel
theorem d_Trial_init_9 : decode M_Trial_init.2.1 9 = .ok (.aload_n 0, 1) := by decide +kernel
theorem d_Trial_init_10 : decode M_Trial_init.2.1 10 = .ok (.aload_n 2, 1) := by decide +kernel
theorem d_Trial_init_11 : decode M_Trial_init.2.1 11 = .ok (.putfield 15, 3) := by decide +kernel
theorem d_Trial_init_14 : decode M_Trial_init.2.1 14 = .ok (.aload_n 0, 1) := by decide +kernel
theorem d_Trial_init_15 : decode M_Trial_init.2.1 15 = .ok (.aload_n 3, 1) := by decide +kernel
theorem d_Trial_init_16 : decode M_Trial_init.2.1 16 = .ok (.putfield 19, 3) := by decide +kernel
theorem d_Trial_init_19 : decode M_Trial_init.2.1 19 = .ok (.aload_n 0, 1) := by decide +kernel
theorem d_Trial_init_20 : decode M_Trial_init.2.1 20 = .ok (.aload_n 1, 1) := by decide +kernel
theorem d_Trial_init_21 : decode M_Trial_init.2.1 21 = .ok (.getfield 23, 3) := by decide +kernel
theorem d_Trial_init_24 : decode M_Trial_init.2.1 24 = .ok (.invokestatic 29, 3) := by decide +kernel
theorem d_Trial_init_27 : decode M_Trial_init.2.1 27 = .ok (.putfield 35, 3) := by decide +kernel
theorem d_Trial_init_30 : decode M_Trial_init.2.1 30 = .ok (.return_, 1) := by decide +kernel
theorem d_Trial_attempt_0 : decode M_Trial_attempt.2.1 0 = .ok (.aload_n 1, 1) := by decide +kernel
theorem d_Trial_attempt_1 : decode M_Trial_attempt.2.1 1 = .ok (.iconst 0, 1) := by decide +kernel
theorem d_Trial_attempt_2 : decode M_Trial_attempt.2.1 2 = .ok (.aload_n 0, 1) := by decide +kernel
theorem d_Trial_attempt_3 : decode M_Trial_attempt.2.1 3 = .ok (.getfield 35, 3) := by decide +kernel
theorem d_Trial_attempt_6 : decode M_Trial_attempt.2.1 6 = .ok (.iconst 0, 1) := by decide +kernel
theorem d_Trial_attempt_7 : decode M_Trial_attempt.2.1 7 = .ok (.aload_n 0, 1) := by decide +kernel
theorem d_Trial_attempt_8 : decode M_Trial_attempt.2.1 8 = .ok (.getfield 35, 3) := by decide +kernel
theorem d_Trial_attempt_11 : decode M_Trial_attempt.2.1 11 = .ok (.arraylength, 1) := by decide +kernel
theorem d_Trial_attempt_12 : decode M_Trial_attempt.2.1 12 = .ok (.invokestatic 39, 3) := by decide +kernel
theorem d_Trial_attempt_15 : decode M_Trial_attempt.2.1 15 = .ok (.aload_n 0, 1) := by decide +kernel
theorem d_Trial_attempt_16 : decode M_Trial_attempt.2.1 16 = .ok (.getfield 35, 3) := by decide +kernel
theorem d_Trial_attempt_19 : decode M_Trial_attempt.2.1 19 = .ok (.iload_n 2, 1) := by decide +kernel
theorem d_Trial_attempt_20 : decode M_Trial_attempt.2.1 20 = .ok (.iload_n 3, 1) := by decide +kernel
theorem d_Trial_attempt_21 : decode M_Trial_attempt.2.1 21 = .ok (.invokestatic 45, 3) := by decide +kernel
theorem d_Trial_attempt_24 : decode M_Trial_attempt.2.1 24 = .ok (.aload_n 0, 1) := by decide +kernel
theorem d_Trial_attempt_25 : decode M_Trial_attempt.2.1 25 = .ok (.iconst 0, 1) := by decide +kernel
theorem d_Trial_attempt_26 : decode M_Trial_attempt.2.1 26 = .ok (.putfield 49, 3) := by decide +kernel
theorem d_Trial_attempt_29 : decode M_Trial_attempt.2.1 29 = .ok (.aload_n 0, 1) := by decide +kernel
theorem d_Trial_attempt_30 : decode M_Trial_attempt.2.1 30 = .ok (.iload_n 3, 1) := by decide +kernel
theorem d_Trial_attempt_31 : decode M_Trial_attempt.2.1 31 = .ok (.invokestatic 52, 3) := by decide +kernel
theorem d_Trial_attempt_34 : decode M_Trial_attempt.2.1 34 = .ok (.putfield 56, 3) := by decide +kernel
theorem d_Trial_attempt_37 : decode M_Trial_attempt.2.1 37 = .ok (.aload_n 0, 1) := by decide +kernel
theorem d_Trial_attempt_38 : decode M_Trial_attempt.2.1 38 = .ok (.iload_n 2, 1) := by decide +kernel
theorem d_Trial_attempt_39 : decode M_Trial_attempt.2.1 39 = .ok (.aload_n 0, 1) := by decide +kernel
theorem d_Trial_attempt_40 : decode M_Trial_attempt.2.1 40 = .ok (.getfield 56, 3) := by decide +kernel
theorem d_Trial_attempt_43 : decode M_Trial_attempt.2.1 43 = .ok (.invokevirtual 59, 3) := by decide +kernel
theorem d_Trial_attempt_46 : decode M_Trial_attempt.2.1 46 = .ok (.aload_n 0, 1) := by decide +kernel
theorem d_Trial_attempt_47 : decode M_Trial_attempt.2.1 47 = .ok (.getfield 49, 3) := by decide +kernel
theorem d_Trial_attempt_50 : decode M_Trial_attempt.2.1 50 = .ok (.ifCond .ne 42, 3) := by decide +kernel
theorem d_Trial_attempt_53 : decode M_Trial_attempt.2.1 53 = .ok (.aload_n 0, 1) := by decide +kernel
theorem d_Trial_attempt_54 : decode M_Trial_attempt.2.1 54 = .ok (.iload_n 2, 1) := by decide +kernel
theorem d_Trial_attempt_55 : decode M_Trial_attempt.2.1 55 = .ok (.iload_n 3, 1) := by decide +kernel
theorem d_Trial_attempt_56 : decode M_Trial_attempt.2.1 56 = .ok (.invokevirtual 63, 3) := by decide +kernel
theorem d_Trial_attempt_59 : decode M_Trial_attempt.2.1 59 = .ok (.ifCond .ne 33, 3) := by decide +kernel
theorem d_Trial_attempt_62 : decode M_Trial_attempt.2.1 62 = .ok (.aload_n 0, 1) := by decide +kernel
theorem d_Trial_attempt_63 : decode M_Trial_attempt.2.1 63 = .ok (.iload_n 3, 1) := by decide +kernel
theorem d_Trial_attempt_64 : decode M_Trial_attempt.2.1 64 = .ok (.putfield 56, 3) := by decide +kernel
theorem d_Trial_attempt_67 : decode M_Trial_attempt.2.1 67 = .ok (.aload_n 0, 1) := by decide +kernel
theorem d_Trial_attempt_68 : decode M_Trial_attempt.2.1 68 = .ok (.iload_n 2, 1) := by decide +kernel
theorem d_Trial_attempt_69 : decode M_Trial_attempt.2.1 69 = .ok (.iload_n 3, 1) := by decide +kernel
theorem d_Trial_attempt_70 : decode M_Trial_attempt.2.1 70 = .ok (.invokevirtual 59, 3) := by decide +kernel
theorem d_Trial_attempt_73 : decode M_Trial_attempt.2.1 73 = .ok (.aload_n 0, 1) := by decide +kernel
theorem d_Trial_attempt_74 : decode M_Trial_attempt.2.1 74 = .ok (.getfield 35, 3) := by decide +kernel
theorem d_Trial_attempt_77 : decode M_Trial_attempt.2.1 77 = .ok (.iload_n 2, 1) := by decide +kernel
theorem d_Trial_attempt_78 : decode M_Trial_attempt.2.1 78 = .ok (.iconst 0, 1) := by decide +kernel
theorem d_Trial_attempt_79 : decode M_Trial_attempt.2.1 79 = .ok (.invokestatic 45, 3) := by decide +kernel
theorem d_Trial_attempt_82 : decode M_Trial_attempt.2.1 82 = .ok (.aload_n 0, 1) := by decide +kernel
theorem d_Trial_attempt_83 : decode M_Trial_attempt.2.1 83 = .ok (.dup, 1) := by decide +kernel
theorem d_Trial_attempt_84 : decode M_Trial_attempt.2.1 84 = .ok (.getfield 49, 3) := by decide +kernel
theorem d_Trial_attempt_87 : decode M_Trial_attempt.2.1 87 = .ok (.iconst 1, 1) := by decide +kernel
theorem d_Trial_attempt_88 : decode M_Trial_attempt.2.1 88 = .ok (.iadd, 1) := by decide +kernel
theorem d_Trial_attempt_89 : decode M_Trial_attempt.2.1 89 = .ok (.putfield 49, 3) := by decide +kernel
theorem d_Trial_attempt_92 : decode M_Trial_attempt.2.1 92 = .ok (.return_, 1) := by decide +kernel
theorem d_Trial_takeClosedStrings_0 : decode M_Trial_takeClosedStrings.2.1 0 = .ok (.iconst 0, 1) := by decide +kernel
theorem d_Trial_takeClosedStrings_1 : decode M_Trial_takeClosedStrings.2.1 1 = .ok (.istore_n 3, 1) := by decide +kernel
theorem d_Trial_takeClosedStrings_2 : decode M_Trial_takeClosedStrings.2.1 2 = .ok (.iload_n 3, 1) := by decide +kernel
theorem d_Trial_takeClosedStrings_3 : decode M_Trial_takeClosedStrings.2.1 3 = .ok (.iconst 4, 1) := by decide +kernel
theorem d_Trial_takeClosedStrings_4 : decode M_Trial_takeClosedStrings.2.1 4 = .ok (.if_icmp .ge 75, 3) := by decide +kernel
theorem d_Trial_takeClosedStrings_7 : decode M_Trial_takeClosedStrings.2.1 7 = .ok (.aload_n 0, 1) := by decide +kernel
theorem d_Trial_takeClosedStrings_8 : decode M_Trial_takeClosedStrings.2.1 8 = .ok (.getfield 9, 3) := by decide +kernel
theorem d_Trial_takeClosedStrings_11 : decode M_Trial_takeClosedStrings.2.1 11 = .ok (.iload_n 1, 1) := by decide +kernel
theorem d_Trial_takeClosedStrings_12 : decode M_Trial_takeClosedStrings.2.1 12 = .ok (.iload_n 3, 1) := by decide +kernel
theorem d_Trial_takeClosedStrings_13 : decode M_Trial_takeClosedStrings.2.1 13 = .ok (.invokevirtual 67, 3) := by decide +kernel
theorem d_Trial_takeClosedStrings_16 : decode M_Trial_takeClosedStrings.2.1 16 = .ok (.istore 4, 2) := by decide +kernel
theorem d_Trial_takeClosedStrings_18 : decode M_Trial_takeClosedStrings.2.1 18 = .ok (.iload 4, 2) := by decide +kernel
theorem d_Trial_takeClosedStrings_20 : decode M_Trial_takeClosedStrings.2.1 20 = .ok (.iconst (-1), 1) := by decide +kernel
theorem d_Trial_takeClosedStrings_21 : decode M_Trial_takeClosedStrings.2.1 21 = .ok (.if_icmp .eq 52, 3) := by decide +kernel
theorem d_Trial_takeClosedStrings_24 : decode M_Trial_takeClosedStrings.2.1 24 = .ok (.aload_n 0, 1) := by decide +kernel
theorem d_Trial_takeClosedStrings_25 : decode M_Trial_takeClosedStrings.2.1 25 = .ok (.getfield 15, 3) := by decide +kernel
theorem d_Trial_takeClosedStrings_28 : decode M_Trial_takeClosedStrings.2.1 28 = .ok (.iload 4, 2) := by decide +kernel
theorem d_Trial_takeClosedStrings_30 : decode M_Trial_takeClosedStrings.2.1 30 = .ok (.iaload, 1) := by decide +kernel
theorem d_Trial_takeClosedStrings_31 : decode M_Trial_takeClosedStrings.2.1 31 = .ok (.iload_n 2, 1) := by decide +kernel
theorem d_Trial_takeClosedStrings_32 : decode M_Trial_takeClosedStrings.2.1 32 = .ok (.if_icmp .ne 41, 3) := by decide +kernel
theorem d_Trial_takeClosedStrings_35 : decode M_Trial_takeClosedStrings.2.1 35 = .ok (.aload_n 0, 1) := by decide +kernel
theorem d_Trial_takeClosedStrings_36 : decode M_Trial_takeClosedStrings.2.1 36 = .ok (.iload 4, 2) := by decide +kernel
theorem d_Trial_takeClosedStrings_38 : decode M_Trial_takeClosedStrings.2.1 38 = .ok (.invokevirtual 71, 3) := by decide +kernel
theorem d_Trial_takeClosedStrings_41 : decode M_Trial_takeClosedStrings.2.1 41 = .ok (.ifCond .eq 32, 3) := by decide +kernel
theorem d_Trial_takeClosedStrings_44 : decode M_Trial_takeClosedStrings.2.1 44 = .ok (.aload_n 0, 1) := by decide +kernel
theorem d_Trial_takeClosedStrings_45 : decode M_Trial_takeClosedStrings.2.1 45 = .ok (.getfield 35, 3) := by decide +kernel
theorem d_Trial_takeClosedStrings_48 : decode M_Trial_takeClosedStrings.2.1 48 = .ok (.iload 4, 2) := by decide +kernel
theorem d_Trial_takeClosedStrings_50 : decode M_Trial_takeClosedStrings.2.1 50 = .ok (.invokestatic 75, 3) := by decide +kernel
theorem d_Trial_takeClosedStrings_53 : decode M_Trial_takeClosedStrings.2.1 53 = .ok (.iload_n 2, 1) := by decide +kernel
theorem d_Trial_takeClosedStrings_54 : decode M_Trial_takeClosedStrings.2.1 54 = .ok (.if_icmp .ne 19, 3) := by decide +kernel
theorem d_Trial_takeClosedStrings_57 : decode M_Trial_takeClosedStrings.2.1 57 = .ok (.aload_n 0, 1) := by decide +kernel
theorem d_Trial_takeClosedStrings_58 : decode M_Trial_takeClosedStrings.2.1 58 = .ok (.aload_n 0, 1) := by decide +kernel
theorem d_Trial_takeClosedStrings_59 : decode M_Trial_takeClosedStrings.2.1 59 = .ok (.getfield 19, 3) := by decide +kernel
theorem d_Trial_takeClosedStrings_62 : decode M_Trial_takeClosedStrings.2.1 62 = .ok (.getfield 79, 3) := by decide +kernel
theorem d_Trial_takeClosedStrings_65 : decode M_Trial_takeClosedStrings.2.1 65 = .ok (.iload 4, 2) := by decide +kernel
theorem d_Trial_takeClosedStrings_67 : decode M_Trial_takeClosedStrings.2.1 67 = .ok (.invokevirtual 85, 3) := by decide +kernel
theorem d_Trial_takeClosedStrings_70 : decode M_Trial_takeClosedStrings.2.1 70 = .ok (.invokevirtual 90, 3) := by decide +kernel
theorem d_Trial_takeClosedStrings_73 : decode M_Trial_takeClosedStrings.2.1 73 = .ok (.iinc 3 1, 3) := by decide +kernel
theorem d_Trial_takeClosedStrings_76 : decode M_Trial_takeClosedStrings.2.1 76 = .ok (.goto (-74), 3) := by decide +kernel
theorem d_Trial_takeClosedStrings_79 : decode M_Trial_takeClosedStrings.2.1 79 = .ok (.return_, 1) := by decide +kernel
theorem d_Trial_isLastBreathOf_0 : decode M_Trial_isLastBreathOf.2.1 0 = .ok (.aload_n 0, 1) := by decide +kernel
theorem d_Trial_isLastBreathOf_1 : decode M_Trial_isLastBreathOf.2.1 1 = .ok (.getfield 19, 3) := by decide +kernel
theorem d_Trial_isLastBreathOf_4 : decode M_Trial_isLastBreathOf.2.1 4 = .ok (.aload_n 0, 1) := by decide +kernel
theorem d_Trial_isLastBreathOf_5 : decode M_Trial_isLastBreathOf.2.1 5 = .ok (.getfield 19, 3) := by decide +kernel
theorem d_Trial_isLastBreathOf_8 : decode M_Trial_isLastBreathOf.2.1 8 = .ok (.getfield 79, 3) := by decide +kernel
theorem d_Trial_isLastBreathOf_11 : decode M_Trial_isLastBreathOf.2.1 11 = .ok (.iload_n 1, 1) := by decide +kernel
theorem d_Trial_isLastBreathOf_12 : decode M_Trial_isLastBreathOf.2.1 12 = .ok (.invokevirtual 85, 3) := by decide +kernel
theorem d_Trial_isLastBreathOf_15 : decode M_Trial_isLastBreathOf.2.1 15 = .ok (.invokevirtual 100, 3) := by decide +kernel
theorem d_Trial_isLastBreathOf_18 : decode M_Trial_isLastBreathOf.2.1 18 = .ok (.iconst 1, 1) := by decide +kernel
theorem d_Trial_isLastBreathOf_19 : decode M_Trial_isLastBreathOf.2.1 19 = .ok (.if_icmp .ne 7, 3) := by decide +kernel
theorem d_Trial_isLastBreathOf_22 : decode M_Trial_isLastBreathOf.2.1 22 = .ok (.iconst 1, 1) := by decide +kernel
theorem d_Trial_isLastBreathOf_23 : decode M_Trial_isLastBreathOf.2.1 23 = .ok (.goto 4, 3) := by decide +kernel
theorem d_Trial_isLastBreathOf_26 : decode M_Trial_isLastBreathOf.2.1 26 = .ok (.iconst 0, 1) := by decide +kernel
theorem d_Trial_isLastBreathOf_27 : decode M_Trial_isLastBreathOf.2.1 27 = .ok (.ireturn, 1) := by decide +kernel
theorem d_Chart_breathsOf_0 : decode M_Chart_breathsOf.2.1 0 = .ok (.aload_n 0, 1) := by decide +kernel
theorem d_Chart_breathsOf_1 : decode M_Chart_breathsOf.2.1 1 = .ok (.getfield 34, 3) := by decide +kernel
theorem d_Chart_breathsOf_4 : decode M_Chart_breathsOf.2.1 4 = .ok (.iload_n 1, 1) := by decide +kernel
theorem d_Chart_breathsOf_5 : decode M_Chart_breathsOf.2.1 5 = .ok (.iaload, 1) := by decide +kernel
theorem d_Chart_breathsOf_6 : decode M_Chart_breathsOf.2.1 6 = .ok (.ireturn, 1) := by decide +kernel
theorem d_Trial_takeString_0 : decode M_Trial_takeString.2.1 0 = .ok (.iconst 0, 1) := by decide +kernel
theorem d_Trial_takeString_1 : decode M_Trial_takeString.2.1 1 = .ok (.istore_n 2, 1) := by decide +kernel
theorem d_Trial_takeString_2 : decode M_Trial_takeString.2.1 2 = .ok (.iload_n 2, 1) := by decide +kernel
theorem d_Trial_takeString_3 : decode M_Trial_takeString.2.1 3 = .ok (.aload_n 0, 1) := by decide +kernel
theorem d_Trial_takeString_4 : decode M_Trial_takeString.2.1 4 = .ok (.getfield 19, 3) := by decide +kernel
theorem d_Trial_takeString_7 : decode M_Trial_takeString.2.1 7 = .ok (.getfield 79, 3) := by decide +kernel
theorem d_Trial_takeString_10 : decode M_Trial_takeString.2.1 10 = .ok (.iload_n 1, 1) := by decide +kernel
theorem d_Trial_takeString_11 : decode M_Trial_takeString.2.1 11 = .ok (.invokevirtual 94, 3) := by decide +kernel
theorem d_Trial_takeString_14 : decode M_Trial_takeString.2.1 14 = .ok (.if_icmp .ge 29, 3) := by decide +kernel
theorem d_Trial_takeString_17 : decode M_Trial_takeString.2.1 17 = .ok (.aload_n 0, 1) := by decide +kernel
theorem d_Trial_takeString_18 : decode M_Trial_takeString.2.1 18 = .ok (.getfield 35, 3) := by decide +kernel
theorem d_Trial_takeString_21 : decode M_Trial_takeString.2.1 21 = .ok (.aload_n 0, 1) := by decide +kernel
theorem d_Trial_takeString_22 : decode M_Trial_takeString.2.1 22 = .ok (.getfield 19, 3) := by decide +kernel
theorem d_Trial_takeString_25 : decode M_Trial_takeString.2.1 25 = .ok (.getfield 79, 3) := by decide +kernel
theorem d_Trial_takeString_28 : decode M_Trial_takeString.2.1 28 = .ok (.iload_n 1, 1) := by decide +kernel
theorem d_Trial_takeString_29 : decode M_Trial_takeString.2.1 29 = .ok (.iload_n 2, 1) := by decide +kernel
theorem d_Trial_takeString_30 : decode M_Trial_takeString.2.1 30 = .ok (.invokevirtual 97, 3) := by decide +kernel
theorem d_Trial_takeString_33 : decode M_Trial_takeString.2.1 33 = .ok (.iconst 0, 1) := by decide +kernel
theorem d_Trial_takeString_34 : decode M_Trial_takeString.2.1 34 = .ok (.invokestatic 45, 3) := by decide +kernel
theorem d_Trial_takeString_37 : decode M_Trial_takeString.2.1 37 = .ok (.iinc 2 1, 3) := by decide +kernel
theorem d_Trial_takeString_40 : decode M_Trial_takeString.2.1 40 = .ok (.goto (-38), 3) := by decide +kernel
theorem d_Trial_takeString_43 : decode M_Trial_takeString.2.1 43 = .ok (.aload_n 0, 1) := by decide +kernel
theorem d_Trial_takeString_44 : decode M_Trial_takeString.2.1 44 = .ok (.dup, 1) := by decide +kernel
theorem d_Trial_takeString_45 : decode M_Trial_takeString.2.1 45 = .ok (.getfield 49, 3) := by decide +kernel
theorem d_Trial_takeString_48 : decode M_Trial_takeString.2.1 48 = .ok (.aload_n 0, 1) := by decide +kernel
theorem d_Trial_takeString_49 : decode M_Trial_takeString.2.1 49 = .ok (.getfield 19, 3) := by decide +kernel
theorem d_Trial_takeString_52 : decode M_Trial_takeString.2.1 52 = .ok (.getfield 79, 3) := by decide +kernel
theorem d_Trial_takeString_55 : decode M_Trial_takeString.2.1 55 = .ok (.iload_n 1, 1) := by decide +kernel
theorem d_Trial_takeString_56 : decode M_Trial_takeString.2.1 56 = .ok (.invokevirtual 94, 3) := by decide +kernel
theorem d_Trial_takeString_59 : decode M_Trial_takeString.2.1 59 = .ok (.iadd, 1) := by decide +kernel
theorem d_Trial_takeString_60 : decode M_Trial_takeString.2.1 60 = .ok (.putfield 49, 3) := by decide +kernel
theorem d_Trial_takeString_63 : decode M_Trial_takeString.2.1 63 = .ok (.return_, 1) := by decide +kernel
theorem d_Trial_findsBreath_0 : decode M_Trial_findsBreath.2.1 0 = .ok (.iconst 0, 1) := by decide +kernel
theorem d_Trial_findsBreath_1 : decode M_Trial_findsBreath.2.1 1 = .ok (.istore_n 3, 1) := by decide +kernel
theorem d_Trial_findsBreath_2 : decode M_Trial_findsBreath.2.1 2 = .ok (.iload_n 3, 1) := by decide +kernel
theorem d_Trial_findsBreath_3 : decode M_Trial_findsBreath.2.1 3 = .ok (.iconst 4, 1) := by decide +kernel
theorem d_Trial_findsBreath_4 : decode M_Trial_findsBreath.2.1 4 = .ok (.if_icmp .ge 58, 3) := by decide +kernel
theorem d_Trial_findsBreath_7 : decode M_Trial_findsBreath.2.1 7 = .ok (.aload_n 0, 1) := by decide +kernel
theorem d_Trial_findsBreath_8 : decode M_Trial_findsBreath.2.1 8 = .ok (.getfield 9, 3) := by decide +kernel
theorem d_Trial_findsBreath_11 : decode M_Trial_findsBreath.2.1 11 = .ok (.iload_n 1, 1) := by decide +kernel
theorem d_Trial_findsBreath_12 : decode M_Trial_findsBreath.2.1 12 = .ok (.iload_n 3, 1) := by decide +kernel
theorem d_Trial_findsBreath_13 : decode M_Trial_findsBreath.2.1 13 = .ok (.invokevirtual 67, 3) := by decide +kernel
theorem d_Trial_findsBreath_16 : decode M_Trial_findsBreath.2.1 16 = .ok (.istore 4, 2) := by decide +kernel
theorem d_Trial_findsBreath_18 : decode M_Trial_findsBreath.2.1 18 = .ok (.iload 4, 2) := by decide +kernel
theorem d_Trial_findsBreath_20 : decode M_Trial_findsBreath.2.1 20 = .ok (.iconst (-1), 1) := by decide +kernel
theorem d_Trial_findsBreath_21 : decode M_Trial_findsBreath.2.1 21 = .ok (.if_icmp .eq 35, 3) := by decide +kernel
theorem d_Trial_findsBreath_24 : decode M_Trial_findsBreath.2.1 24 = .ok (.aload_n 0, 1) := by decide +kernel
theorem d_Trial_findsBreath_25 : decode M_Trial_findsBreath.2.1 25 = .ok (.getfield 15, 3) := by decide +kernel
theorem d_Trial_findsBreath_28 : decode M_Trial_findsBreath.2.1 28 = .ok (.iload 4, 2) := by decide +kernel
theorem d_Trial_findsBreath_30 : decode M_Trial_findsBreath.2.1 30 = .ok (.iaload, 1) := by decide +kernel
theorem d_Trial_findsBreath_31 : decode M_Trial_findsBreath.2.1 31 = .ok (.ifCond .eq 23, 3) := by decide +kernel
theorem d_Trial_findsBreath_34 : decode M_Trial_findsBreath.2.1 34 = .ok (.aload_n 0, 1) := by decide +kernel
theorem d_Trial_findsBreath_35 : decode M_Trial_findsBreath.2.1 35 = .ok (.getfield 15, 3) := by decide +kernel
theorem d_Trial_findsBreath_38 : decode M_Trial_findsBreath.2.1 38 = .ok (.iload 4, 2) := by decide +kernel
theorem d_Trial_findsBreath_40 : decode M_Trial_findsBreath.2.1 40 = .ok (.iaload, 1) := by decide +kernel
theorem d_Trial_findsBreath_41 : decode M_Trial_findsBreath.2.1 41 = .ok (.iload_n 2, 1) := by decide +kernel
theorem d_Trial_findsBreath_42 : decode M_Trial_findsBreath.2.1 42 = .ok (.if_icmp .ne 14, 3) := by decide +kernel
theorem d_Trial_findsBreath_45 : decode M_Trial_findsBreath.2.1 45 = .ok (.aload_n 0, 1) := by decide +kernel
theorem d_Trial_findsBreath_46 : decode M_Trial_findsBreath.2.1 46 = .ok (.iload 4, 2) := by decide +kernel
theorem d_Trial_findsBreath_48 : decode M_Trial_findsBreath.2.1 48 = .ok (.invokevirtual 71, 3) := by decide +kernel
theorem d_Trial_findsBreath_51 : decode M_Trial_findsBreath.2.1 51 = .ok (.ifCond .ne 5, 3) := by decide +kernel
theorem d_Trial_findsBreath_54 : decode M_Trial_findsBreath.2.1 54 = .ok (.iconst 1, 1) := by decide +kernel
theorem d_Trial_findsBreath_55 : decode M_Trial_findsBreath.2.1 55 = .ok (.ireturn, 1) := by decide +kernel
theorem d_Trial_findsBreath_56 : decode M_Trial_findsBreath.2.1 56 = .ok (.iinc 3 1, 3) := by decide +kernel
theorem d_Trial_findsBreath_59 : decode M_Trial_findsBreath.2.1 59 = .ok (.goto (-57), 3) := by decide +kernel
theorem d_Trial_findsBreath_62 : decode M_Trial_findsBreath.2.1 62 = .ok (.iconst 0, 1) := by decide +kernel
theorem d_Trial_findsBreath_63 : decode M_Trial_findsBreath.2.1 63 = .ok (.ireturn, 1) := by decide +kernel
theorem d_Chart_hasStringWithoutBreath_0 : decode M_Chart_hasStringWithoutBreath.2.1 0 = .ok (.iconst 0, 1) := by decide +kernel
theorem d_Chart_hasStringWithoutBreath_1 : decode M_Chart_hasStringWithoutBreath.2.1 1 = .ok (.istore_n 1, 1) := by decide +kernel
theorem d_Chart_hasStringWithoutBreath_2 : decode M_Chart_hasStringWithoutBreath.2.1 2 = .ok (.iload_n 1, 1) := by decide +kernel
theorem d_Chart_hasStringWithoutBreath_3 : decode M_Chart_hasStringWithoutBreath.2.1 3 = .ok (.aload_n 0, 1) := by decide +kernel
theorem d_Chart_hasStringWithoutBreath_4 : decode M_Chart_hasStringWithoutBreath.2.1 4 = .ok (.getfield 24, 3) := by decide +kernel
theorem d_Chart_hasStringWithoutBreath_7 : decode M_Chart_hasStringWithoutBreath.2.1 7 = .ok (.getfield 59, 3) := by decide +kernel
theorem d_Chart_hasStringWithoutBreath_10 : decode M_Chart_hasStringWithoutBreath.2.1 10 = .ok (.if_icmp .ge 28, 3) := by decide +kernel
theorem d_Chart_hasStringWithoutBreath_13 : decode M_Chart_hasStringWithoutBreath.2.1 13 = .ok (.aload_n 0, 1) := by decide +kernel
theorem d_Chart_hasStringWithoutBreath_14 : decode M_Chart_hasStringWithoutBreath.2.1 14 = .ok (.iload_n 1, 1) := by decide +kernel
theorem d_Chart_hasStringWithoutBreath_15 : decode M_Chart_hasStringWithoutBreath.2.1 15 = .ok (.invokevirtual 60, 3) := by decide +kernel
theorem d_Chart_hasStringWithoutBreath_18 : decode M_Chart_hasStringWithoutBreath.2.1 18 = .ok (.ifCond .ne 14, 3) := by decide +kernel
theorem d_Chart_hasStringWithoutBreath_21 : decode M_Chart_hasStringWithoutBreath.2.1 21 = .ok (.aload_n 0, 1) := by decide +kernel
theorem d_Chart_hasStringWithoutBreath_22 : decode M_Chart_hasStringWithoutBreath.2.1 22 = .ok (.getfield 34, 3) := by decide +kernel
theorem d_Chart_hasStringWithoutBreath_25 : decode M_Chart_hasStringWithoutBreath.2.1 25 = .ok (.iload_n 1, 1) := by decide +kernel
theorem d_Chart_hasStringWithoutBreath_26 : decode M_Chart_hasStringWithoutBreath.2.1 26 = .ok (.iaload, 1) := by decide +kernel
theorem d_Chart_hasStringWithoutBreath_27 : decode M_Chart_hasStringWithoutBreath.2.1 27 = .ok (.ifCond .ne 5, 3) := by decide +kernel
theorem d_Chart_hasStringWithoutBreath_30 : decode M_Chart_hasStringWithoutBreath.2.1 30 = .ok (.iconst 1, 1) := by decide +kernel
theorem d_Chart_hasStringWithoutBreath_31 : decode M_Chart_hasStringWithoutBreath.2.1 31 = .ok (.ireturn, 1) := by decide +kernel
theorem d_Chart_hasStringWithoutBreath_32 : decode M_Chart_hasStringWithoutBreath.2.1 32 = .ok (.iinc 1 1, 3) := by decide +kernel
theorem d_Chart_hasStringWithoutBreath_35 : decode M_Chart_hasStringWithoutBreath.2.1 35 = .ok (.goto (-33), 3) := by decide +kernel
theorem d_Chart_hasStringWithoutBreath_38 : decode M_Chart_hasStringWithoutBreath.2.1 38 = .ok (.iconst 0, 1) := by decide +kernel
theorem d_Chart_hasStringWithoutBreath_39 : decode M_Chart_hasStringWithoutBreath.2.1 39 = .ok (.ireturn, 1) := by decide +kernel
theorem d_Chart_leastBreathOf_0 : decode M_Chart_leastBreathOf.2.1 0 = .ok (.aload_n 0, 1) := by decide +kernel
theorem d_Chart_leastBreathOf_1 : decode M_Chart_leastBreathOf.2.1 1 = .ok (.getfield 37, 3) := by decide +kernel
theorem d_Chart_leastBreathOf_4 : decode M_Chart_leastBreathOf.2.1 4 = .ok (.iload_n 1, 1) := by decide +kernel
theorem d_Chart_leastBreathOf_5 : decode M_Chart_leastBreathOf.2.1 5 = .ok (.iaload, 1) := by decide +kernel
theorem d_Chart_leastBreathOf_6 : decode M_Chart_leastBreathOf.2.1 6 = .ok (.ireturn, 1) := by decide +kernel
theorem d_Chart_countStrings_0 : decode M_Chart_countStrings.2.1 0 = .ok (.iconst 0, 1) := by decide +kernel
theorem d_Chart_countStrings_1 : decode M_Chart_countStrings.2.1 1 = .ok (.istore_n 2, 1) := by decide +kernel
theorem d_Chart_countStrings_2 : decode M_Chart_countStrings.2.1 2 = .ok (.iconst 0, 1) := by decide +kernel
theorem d_Chart_countStrings_3 : decode M_Chart_countStrings.2.1 3 = .ok (.istore_n 3, 1) := by decide +kernel
theorem d_Chart_countStrings_4 : decode M_Chart_countStrings.2.1 4 = .ok (.iload_n 3, 1) := by decide +kernel
theorem d_Chart_countStrings_5 : decode M_Chart_countStrings.2.1 5 = .ok (.aload_n 0, 1) := by decide +kernel
theorem d_Chart_countStrings_6 : decode M_Chart_countStrings.2.1 6 = .ok (.getfield 24, 3) := by decide +kernel
theorem d_Chart_countStrings_9 : decode M_Chart_countStrings.2.1 9 = .ok (.getfield 59, 3) := by decide +kernel
theorem d_Chart_countStrings_12 : decode M_Chart_countStrings.2.1 12 = .ok (.if_icmp .ge 30, 3) := by decide +kernel
theorem d_Chart_countStrings_15 : decode M_Chart_countStrings.2.1 15 = .ok (.aload_n 0, 1) := by decide +kernel
theorem d_Chart_countStrings_16 : decode M_Chart_countStrings.2.1 16 = .ok (.iload_n 3, 1) := by decide +kernel
theorem d_Chart_countStrings_17 : decode M_Chart_countStrings.2.1 17 = .ok (.invokevirtual 60, 3) := by decide +kernel
theorem d_Chart_countStrings_20 : decode M_Chart_countStrings.2.1 20 = .ok (.ifCond .ne 16, 3) := by decide +kernel
theorem d_Chart_countStrings_23 : decode M_Chart_countStrings.2.1 23 = .ok (.aload_n 0, 1) := by decide +kernel
theorem d_Chart_countStrings_24 : decode M_Chart_countStrings.2.1 24 = .ok (.getfield 40, 3) := by decide +kernel
theorem d_Chart_countStrings_27 : decode M_Chart_countStrings.2.1 27 = .ok (.iload_n 3, 1) := by decide +kernel
theorem d_Chart_countStrings_28 : decode M_Chart_countStrings.2.1 28 = .ok (.iaload, 1) := by decide +kernel
theorem d_Chart_countStrings_29 : decode M_Chart_countStrings.2.1 29 = .ok (.iload_n 1, 1) := by decide +kernel
theorem d_Chart_countStrings_30 : decode M_Chart_countStrings.2.1 30 = .ok (.if_icmp .ne 6, 3) := by decide +kernel
theorem d_Chart_countStrings_33 : decode M_Chart_countStrings.2.1 33 = .ok (.iinc 2 1, 3) := by decide +kernel
theorem d_Chart_countStrings_36 : decode M_Chart_countStrings.2.1 36 = .ok (.iinc 3 1, 3) := by decide +kernel
theorem d_Chart_countStrings_39 : decode M_Chart_countStrings.2.1 39 = .ok (.goto (-35), 3) := by decide +kernel
theorem d_Chart_countStrings_42 : decode M_Chart_countStrings.2.1 42 = .ok (.iload_n 2, 1) := by decide +kernel
theorem d_Chart_countStrings_43 : decode M_Chart_countStrings.2.1 43 = .ok (.ireturn, 1) := by decide +kernel
theorem d_Chart_countGround_0 : decode M_Chart_countGround.2.1 0 = .ok (.iconst 0, 1) := by decide +kernel
theorem d_Chart_countGround_1 : decode M_Chart_countGround.2.1 1 = .ok (.istore_n 2, 1) := by decide +kernel
theorem d_Chart_countGround_2 : decode M_Chart_countGround.2.1 2 = .ok (.iconst 0, 1) := by decide +kernel
theorem d_Chart_countGround_3 : decode M_Chart_countGround.2.1 3 = .ok (.istore_n 3, 1) := by decide +kernel
theorem d_Chart_countGround_4 : decode M_Chart_countGround.2.1 4 = .ok (.iload_n 3, 1) := by decide +kernel
theorem d_Chart_countGround_5 : decode M_Chart_countGround.2.1 5 = .ok (.aload_n 0, 1) := by decide +kernel
theorem d_Chart_countGround_6 : decode M_Chart_countGround.2.1 6 = .ok (.getfield 24, 3) := by decide +kernel
theorem d_Chart_countGround_9 : decode M_Chart_countGround.2.1 9 = .ok (.getfield 59, 3) := by decide +kernel
theorem d_Chart_countGround_12 : decode M_Chart_countGround.2.1 12 = .ok (.if_icmp .ge 30, 3) := by decide +kernel
theorem d_Chart_countGround_15 : decode M_Chart_countGround.2.1 15 = .ok (.aload_n 0, 1) := by decide +kernel
theorem d_Chart_countGround_16 : decode M_Chart_countGround.2.1 16 = .ok (.getfield 40, 3) := by decide +kernel
theorem d_Chart_countGround_19 : decode M_Chart_countGround.2.1 19 = .ok (.iload_n 3, 1) := by decide +kernel
theorem d_Chart_countGround_20 : decode M_Chart_countGround.2.1 20 = .ok (.iaload, 1) := by decide +kernel
theorem d_Chart_countGround_21 : decode M_Chart_countGround.2.1 21 = .ok (.iload_n 1, 1) := by decide +kernel
theorem d_Chart_countGround_22 : decode M_Chart_countGround.2.1 22 = .ok (.if_icmp .ne 14, 3) := by decide +kernel
theorem d_Chart_countGround_25 : decode M_Chart_countGround.2.1 25 = .ok (.iload_n 2, 1) := by decide +kernel
theorem d_Chart_countGround_26 : decode M_Chart_countGround.2.1 26 = .ok (.aload_n 0, 1) := by decide +kernel
theorem d_Chart_countGround_27 : decode M_Chart_countGround.2.1 27 = .ok (.getfield 24, 3) := by decide +kernel
theorem d_Chart_countGround_30 : decode M_Chart_countGround.2.1 30 = .ok (.iload_n 3, 1) := by decide +kernel
theorem d_Chart_countGround_31 : decode M_Chart_countGround.2.1 31 = .ok (.invokevirtual 75, 3) := by decide +kernel
theorem d_Chart_countGround_34 : decode M_Chart_countGround.2.1 34 = .ok (.iadd, 1) := by decide +kernel
theorem d_Chart_countGround_35 : decode M_Chart_countGround.2.1 35 = .ok (.istore_n 2, 1) := by decide +kernel
theorem d_Chart_countGround_36 : decode M_Chart_countGround.2.1 36 = .ok (.iinc 3 1, 3) := by decide +kernel
theorem d_Chart_countGround_39 : decode M_Chart_countGround.2.1 39 = .ok (.goto (-35), 3) := by decide +kernel
theorem d_Chart_countGround_42 : decode M_Chart_countGround.2.1 42 = .ok (.iload_n 2, 1) := by decide +kernel
theorem d_Chart_countGround_43 : decode M_Chart_countGround.2.1 43 = .ok (.ireturn, 1) := by decide +kernel
theorem d_Chart_holderOf_0 : decode M_Chart_holderOf.2.1 0 = .ok (.aload_n 0, 1) := by decide +kernel
theorem d_Chart_holderOf_1 : decode M_Chart_holderOf.2.1 1 = .ok (.getfield 40, 3) := by decide +kernel
theorem d_Chart_holderOf_4 : decode M_Chart_holderOf.2.1 4 = .ok (.iload_n 1, 1) := by decide +kernel
theorem d_Chart_holderOf_5 : decode M_Chart_holderOf.2.1 5 = .ok (.iaload, 1) := by decide +kernel
theorem d_Chart_holderOf_6 : decode M_Chart_holderOf.2.1 6 = .ok (.ireturn, 1) := by decide +kernel
end
section
/-! Decode rows, printed. -/
theorem d_History_init_0 : decode M_History_init.2.1 0 = .ok (.aload_n 0, 1) := by decide +kernel
theorem d_History_init_1 : decode M_History_init.2.1 1 = .ok (.invokespecial 3, 3) := by decide +kernel
theorem d_History_init_4 : decode M_History_init.2.1 4 = .ok (.aload_n 0, 1) := by decide +kernel
theorem d_History_init_5 : decode M_History_init.2.1 5 = .ok (.sipush 128, 3) := by decide +kernel
theorem d_History_init_8 : decode M_History_init.2.1 8 = .ok (.anewarray 11, 3) := by decide +kernel
theorem d_History_init_11 : decode M_History_init.2.1 11 = .ok (.putfield 13, 3) := by decide +kernel
theorem d_History_init_14 : decode M_History_init.2.1 14 = .ok (.aload_n 0, 1) := by decide +kernel
theorem d_History_init_15 : decode M_History_init.2.1 15 = .ok (.aconst_null, 1) := by decide +kernel
theorem d_History_init_16 : decode M_History_init.2.1 16 = .ok (.iload_n 1, 1) := by decide +kernel
theorem d_History_init_17 : decode M_History_init.2.1 17 = .ok (.invokestatic 17, 3) := by decide +kernel
theorem d_History_init_20 : decode M_History_init.2.1 20 = .ok (.bipush (-2), 2) := by decide +kernel
theorem d_History_init_22 : decode M_History_init.2.1 22 = .ok (.iconst 0, 1) := by decide +kernel
theorem d_History_init_23 : decode M_History_init.2.1 23 = .ok (.iconst 0, 1) := by decide +kernel
theorem d_History_init_24 : decode M_History_init.2.1 24 = .ok (.invokevirtual 23, 3) := by decide +kernel
theorem d_History_init_27 : decode M_History_init.2.1 27 = .ok (.return_, 1) := by decide +kernel
theorem d_History_keep_0 : decode M_History_keep.2.1 0 = .ok (.aload_n 2, 1) := by decide +kernel
theorem d_History_keep_1 : decode M_History_keep.2.1 1 = .ok (.invokestatic 61, 3) := by decide +kernel
theorem d_History_keep_4 : decode M_History_keep.2.1 4 = .ok (.istore 6, 2) := by decide +kernel
theorem d_History_keep_6 : decode M_History_keep.2.1 6 = .ok (.aload_n 0, 1) := by decide +kernel
theorem d_History_keep_7 : decode M_History_keep.2.1 7 = .ok (.new 11, 3) := by decide +kernel
theorem d_History_keep_10 : decode M_History_keep.2.1 10 = .ok (.dup, 1) := by decide +kernel
theorem d_History_keep_11 : decode M_History_keep.2.1 11 = .ok (.aload_n 1, 1) := by decide +kernel
theorem d_History_keep_12 : decode M_History_keep.2.1 12 = .ok (.aload_n 0, 1) := by decide +kernel
theorem d_History_keep_13 : decode M_History_keep.2.1 13 = .ok (.getfield 13, 3) := by decide +kernel
theorem d_History_keep_16 : decode M_History_keep.2.1 16 = .ok (.iload 6, 2) := by decide +kernel
theorem d_History_keep_18 : decode M_History_keep.2.1 18 = .ok (.aaload, 1) := by decide +kernel
theorem d_History_keep_19 : decode M_History_keep.2.1 19 = .ok (.aload_n 2, 1) := by decide +kernel
theorem d_History_keep_20 : decode M_History_keep.2.1 20 = .ok (.iload_n 3, 1) := by decide +kernel
theorem d_History_keep_21 : decode M_History_keep.2.1 21 = .ok (.iload 4, 2) := by decide +kernel
theorem d_History_keep_23 : decode M_History_keep.2.1 23 = .ok (.iload 5, 2) := by decide +kernel
theorem d_History_keep_25 : decode M_History_keep.2.1 25 = .ok (.invokespecial 75, 3) := by decide +kernel
theorem d_History_keep_28 : decode M_History_keep.2.1 28 = .ok (.putfield 27, 3) := by decide +kernel
theorem d_History_keep_31 : decode M_History_keep.2.1 31 = .ok (.aload_n 0, 1) := by decide +kernel
theorem d_History_keep_32 : decode M_History_keep.2.1 32 = .ok (.getfield 13, 3) := by decide +kernel
theorem d_History_keep_35 : decode M_History_keep.2.1 35 = .ok (.iload 6, 2) := by decide +kernel
theorem d_History_keep_37 : decode M_History_keep.2.1 37 = .ok (.aload_n 0, 1) := by decide +kernel
theorem d_History_keep_38 : decode M_History_keep.2.1 38 = .ok (.getfield 27, 3) := by decide +kernel
theorem d_History_keep_41 : decode M_History_keep.2.1 41 = .ok (.aastore, 1) := by decide +kernel
theorem d_History_keep_42 : decode M_History_keep.2.1 42 = .ok (.return_, 1) := by decide +kernel
theorem d_History_bucketOf_0 : decode M_History_bucketOf.2.1 0 = .ok (.lconst 0, 1) := by decide +kernel
theorem d_History_bucketOf_1 : decode M_History_bucketOf.2.1 1 = .ok (.lstore_n 1, 1) := by decide +kernel
theorem d_History_bucketOf_2 : decode M_History_bucketOf.2.1 2 = .ok (.aload_n 0, 1) := by decide +kernel
theorem d_History_bucketOf_3 : decode M_History_bucketOf.2.1 3 = .ok (.astore_n 3, 1) := by decide +kernel
theorem d_History_bucketOf_4 : decode M_History_bucketOf.2.1 4 = .ok (.aload_n 3, 1) := by decide +kernel
theorem d_History_bucketOf_5 : decode M_History_bucketOf.2.1 5 = .ok (.arraylength, 1) := by decide +kernel
theorem d_History_bucketOf_6 : decode M_History_bucketOf.2.1 6 = .ok (.istore 4, 2) := by decide +kernel
theorem d_History_bucketOf_8 : decode M_History_bucketOf.2.1 8 = .ok (.iconst 0, 1) := by decide +kernel
theorem d_History_bucketOf_9 : decode M_History_bucketOf.2.1 9 = .ok (.istore 5, 2) := by decide +kernel
theorem d_History_bucketOf_11 : decode M_History_bucketOf.2.1 11 = .ok (.iload 5, 2) := by decide +kernel
theorem d_History_bucketOf_13 : decode M_History_bucketOf.2.1 13 = .ok (.iload 4, 2) := by decide +kernel
theorem d_History_bucketOf_15 : decode M_History_bucketOf.2.1 15 = .ok (.if_icmp .ge 24, 3) := by decide +kernel
theorem d_History_bucketOf_18 : decode M_History_bucketOf.2.1 18 = .ok (.aload_n 3, 1) := by decide +kernel
theorem d_History_bucketOf_19 : decode M_History_bucketOf.2.1 19 = .ok (.iload 5, 2) := by decide +kernel
theorem d_History_bucketOf_21 : decode M_History_bucketOf.2.1 21 = .ok (.laload, 1) := by decide +kernel
theorem d_History_bucketOf_22 : decode M_History_bucketOf.2.1 22 = .ok (.lstore 6, 2) := by decide +kernel
theorem d_History_bucketOf_24 : decode M_History_bucketOf.2.1 24 = .ok (.lload_n 1, 1) := by decide +kernel
theorem d_History_bucketOf_25 : decode M_History_bucketOf.2.1 25 = .ok (.lload 6, 2) := by decide +kernel
theorem d_History_bucketOf_27 : decode M_History_bucketOf.2.1 27 = .ok (.lxor, 1) := by decide +kernel
theorem d_History_bucketOf_28 : decode M_History_bucketOf.2.1 28 = .ok (.ldc2_w 78, 3) := by decide +kernel
theorem d_History_bucketOf_31 : decode M_History_bucketOf.2.1 31 = .ok (.lmul, 1) := by decide +kernel
theorem d_History_bucketOf_32 : decode M_History_bucketOf.2.1 32 = .ok (.lstore_n 1, 1) := by decide +kernel
theorem d_History_bucketOf_33 : decode M_History_bucketOf.2.1 33 = .ok (.iinc 5 1, 3) := by decide +kernel
theorem d_History_bucketOf_36 : decode M_History_bucketOf.2.1 36 = .ok (.goto (-25), 3) := by decide +kernel
theorem d_History_bucketOf_39 : decode M_History_bucketOf.2.1 39 = .ok (.lload_n 1, 1) := by decide +kernel
theorem d_History_bucketOf_40 : decode M_History_bucketOf.2.1 40 = .ok (.bipush 57, 2) := by decide +kernel
theorem d_History_bucketOf_42 : decode M_History_bucketOf.2.1 42 = .ok (.lushr, 1) := by decide +kernel
theorem d_History_bucketOf_43 : decode M_History_bucketOf.2.1 43 = .ok (.l2i, 1) := by decide +kernel
theorem d_History_bucketOf_44 : decode M_History_bucketOf.2.1 44 = .ok (.ireturn, 1) := by decide +kernel
theorem d_Life_init_0 : decode M_Life_init.2.1 0 = .ok (.aload_n 0, 1) := by decide +kernel
theorem d_Life_init_1 : decode M_Life_init.2.1 1 = .ok (.invokespecial 3, 3) := by decide +kernel
theorem d_Life_init_4 : decode M_Life_init.2.1 4 = .ok (.aload_n 0, 1) := by decide +kernel
theorem d_Life_init_5 : decode M_Life_init.2.1 5 = .ok (.aload_n 1, 1) := by decide +kernel
theorem d_Life_init_6 : decode M_Life_init.2.1 6 = .ok (.putfield 9, 3) := by decide +kernel
theorem d_Life_init_9 : decode M_Life_init.2.1 9 = .ok (.aload_n 0, 1) := by decide +kernel
theorem d_Life_init_10 : decode M_Life_init.2.1 10 = .ok (.aload_n 2, 1) := by decide +kernel
theorem d_Life_init_11 : decode M_Life_init.2.1 11 = .ok (.putfield 15, 3) := by decide +kernel
theorem d_Life_init_14 : decode M_Life_init.2.1 14 = .ok (.aload_n 0, 1) := by decide +kernel
theorem d_Life_init_15 : decode M_Life_init.2.1 15 = .ok (.aload_n 1, 1) := by decide +kernel
theorem d_Life_init_16 : decode M_Life_init.2.1 16 = .ok (.getfield 19, 3) := by decide +kernel
theorem d_Life_init_19 : decode M_Life_init.2.1 19 = .ok (.newarray .int, 2) := by decide +kernel
theorem d_Life_init_21 : decode M_Life_init.2.1 21 = .ok (.putfield 25, 3) := by decide +kernel
theorem d_Life_init_24 : decode M_Life_init.2.1 24 = .ok (.aload_n 0, 1) := by decide +kernel
theorem d_Life_init_25 : decode M_Life_init.2.1 25 = .ok (.new 28, 3) := by decide +kernel
theorem d_Life_init_28 : decode M_Life_init.2.1 28 = .ok (.dup, 1) := by decide +kernel
theorem d_Life_init_29 : decode M_Life_init.2.1 29 = .ok (.aload_n 1, 1) := by decide +kernel
theorem d_Life_init_30 : decode M_Life_init.2.1 30 = .ok (.invokespecial 30, 3) := by decide +kernel
theorem d_Life_init_33 : decode M_Life_init.2.1 33 = .ok (.putfield 33, 3) := by decide +kernel
theorem d_Life_init_36 : decode M_Life_init.2.1 36 = .ok (.aload_n 0, 1) := by decide +kernel
theorem d_Life_init_37 : decode M_Life_init.2.1 37 = .ok (.aload_n 1, 1) := by decide +kernel
theorem d_Life_init_38 : decode M_Life_init.2.1 38 = .ok (.getfield 19, 3) := by decide +kernel
theorem d_Life_init_41 : decode M_Life_init.2.1 41 = .ok (.newarray .boolean, 2) := by decide +kernel
theorem d_Life_init_43 : decode M_Life_init.2.1 43 = .ok (.putfield 37, 3) := by decide +kernel
theorem d_Life_init_46 : decode M_Life_init.2.1 46 = .ok (.aload_n 0, 1) := by decide +kernel
theorem d_Life_init_47 : decode M_Life_init.2.1 47 = .ok (.iconst 4, 1) := by decide +kernel
theorem d_Life_init_48 : decode M_Life_init.2.1 48 = .ok (.aload_n 1, 1) := by decide +kernel
theorem d_Life_init_49 : decode M_Life_init.2.1 49 = .ok (.getfield 19, 3) := by decide +kernel
theorem d_Life_init_52 : decode M_Life_init.2.1 52 = .ok (.imul, 1) := by decide +kernel
theorem d_Life_init_53 : decode M_Life_init.2.1 53 = .ok (.newarray .int, 2) := by decide +kernel
theorem d_Life_init_55 : decode M_Life_init.2.1 55 = .ok (.putfield 41, 3) := by decide +kernel
theorem d_Life_init_58 : decode M_Life_init.2.1 58 = .ok (.aload_n 0, 1) := by decide +kernel
theorem d_Life_init_59 : decode M_Life_init.2.1 59 = .ok (.aload_n 1, 1) := by decide +kernel
theorem d_Life_init_60 : decode M_Life_init.2.1 60 = .ok (.getfield 19, 3) := by decide +kernel
theorem d_Life_init_63 : decode M_Life_init.2.1 63 = .ok (.newarray .int, 2) := by decide +kernel
theorem d_Life_init_65 : decode M_Life_init.2.1 65 = .ok (.putfield 44, 3) := by decide +kernel
theorem d_Life_init_68 : decode M_Life_init.2.1 68 = .ok (.return_, 1) := by decide +kernel
theorem d_History_hasEnded_0 : decode M_History_hasEnded.2.1 0 = .ok (.aload_n 0, 1) := by decide +kernel
theorem d_History_hasEnded_1 : decode M_History_hasEnded.2.1 1 = .ok (.getfield 27, 3) := by decide +kernel
theorem d_History_hasEnded_4 : decode M_History_hasEnded.2.1 4 = .ok (.getfield 58, 3) := by decide +kernel
theorem d_History_hasEnded_7 : decode M_History_hasEnded.2.1 7 = .ok (.iconst (-1), 1) := by decide +kernel
theorem d_History_hasEnded_8 : decode M_History_hasEnded.2.1 8 = .ok (.if_icmp .ne 31, 3) := by decide +kernel
theorem d_History_hasEnded_11 : decode M_History_hasEnded.2.1 11 = .ok (.aload_n 0, 1) := by decide +kernel
theorem d_History_hasEnded_12 : decode M_History_hasEnded.2.1 12 = .ok (.getfield 27, 3) := by decide +kernel
theorem d_History_hasEnded_15 : decode M_History_hasEnded.2.1 15 = .ok (.getfield 55, 3) := by decide +kernel
theorem d_History_hasEnded_18 : decode M_History_hasEnded.2.1 18 = .ok (.ifnull 21, 3) := by decide +kernel
theorem d_History_hasEnded_21 : decode M_History_hasEnded.2.1 21 = .ok (.aload_n 0, 1) := by decide +kernel
theorem d_History_hasEnded_22 : decode M_History_hasEnded.2.1 22 = .ok (.getfield 27, 3) := by decide +kernel
theorem d_History_hasEnded_25 : decode M_History_hasEnded.2.1 25 = .ok (.getfield 55, 3) := by decide +kernel
theorem d_History_hasEnded_28 : decode M_History_hasEnded.2.1 28 = .ok (.getfield 58, 3) := by decide +kernel
theorem d_History_hasEnded_31 : decode M_History_hasEnded.2.1 31 = .ok (.iconst (-1), 1) := by decide +kernel
theorem d_History_hasEnded_32 : decode M_History_hasEnded.2.1 32 = .ok (.if_icmp .ne 7, 3) := by decide +kernel
theorem d_History_hasEnded_35 : decode M_History_hasEnded.2.1 35 = .ok (.iconst 1, 1) := by decide +kernel
theorem d_History_hasEnded_36 : decode M_History_hasEnded.2.1 36 = .ok (.goto 4, 3) := by decide +kernel
theorem d_History_hasEnded_39 : decode M_History_hasEnded.2.1 39 = .ok (.iconst 0, 1) := by decide +kernel
theorem d_History_hasEnded_40 : decode M_History_hasEnded.2.1 40 = .ok (.ireturn, 1) := by decide +kernel
theorem d_History_find_0 : decode M_History_find.2.1 0 = .ok (.aload_n 0, 1) := by decide +kernel
theorem d_History_find_1 : decode M_History_find.2.1 1 = .ok (.getfield 13, 3) := by decide +kernel
theorem d_History_find_4 : decode M_History_find.2.1 4 = .ok (.aload_n 1, 1) := by decide +kernel
theorem d_History_find_5 : decode M_History_find.2.1 5 = .ok (.invokestatic 61, 3) := by decide +kernel
theorem d_History_find_8 : decode M_History_find.2.1 8 = .ok (.aaload, 1) := by decide +kernel
theorem d_History_find_9 : decode M_History_find.2.1 9 = .ok (.astore_n 2, 1) := by decide +kernel
theorem d_History_find_10 : decode M_History_find.2.1 10 = .ok (.aload_n 2, 1) := by decide +kernel
theorem d_History_find_11 : decode M_History_find.2.1 11 = .ok (.ifnull 19, 3) := by decide +kernel
theorem d_History_find_14 : decode M_History_find.2.1 14 = .ok (.aload_n 2, 1) := by decide +kernel
theorem d_History_find_15 : decode M_History_find.2.1 15 = .ok (.aload_n 1, 1) := by decide +kernel
theorem d_History_find_16 : decode M_History_find.2.1 16 = .ok (.invokevirtual 65, 3) := by decide +kernel
theorem d_History_find_19 : decode M_History_find.2.1 19 = .ok (.ifCond .ne 11, 3) := by decide +kernel
theorem d_History_find_22 : decode M_History_find.2.1 22 = .ok (.aload_n 2, 1) := by decide +kernel
theorem d_History_find_23 : decode M_History_find.2.1 23 = .ok (.getfield 69, 3) := by decide +kernel
theorem d_History_find_26 : decode M_History_find.2.1 26 = .ok (.astore_n 2, 1) := by decide +kernel
theorem d_History_find_27 : decode M_History_find.2.1 27 = .ok (.goto (-17), 3) := by decide +kernel
theorem d_History_find_30 : decode M_History_find.2.1 30 = .ok (.aload_n 2, 1) := by decide +kernel
theorem d_History_find_31 : decode M_History_find.2.1 31 = .ok (.areturn, 1) := by decide +kernel
theorem d_History_beginWith_0 : decode M_History_beginWith.2.1 0 = .ok (.aload_n 0, 1) := by decide +kernel
theorem d_History_beginWith_1 : decode M_History_beginWith.2.1 1 = .ok (.getfield 27, 3) := by decide +kernel
theorem d_History_beginWith_4 : decode M_History_beginWith.2.1 4 = .ok (.getfield 31, 3) := by decide +kernel
theorem d_History_beginWith_7 : decode M_History_beginWith.2.1 7 = .ok (.invokevirtual 35, 3) := by decide +kernel
theorem d_History_beginWith_10 : decode M_History_beginWith.2.1 10 = .ok (.checkcast 36, 3) := by decide +kernel
theorem d_History_beginWith_13 : decode M_History_beginWith.2.1 13 = .ok (.astore_n 3, 1) := by decide +kernel
theorem d_History_beginWith_14 : decode M_History_beginWith.2.1 14 = .ok (.aload_n 3, 1) := by decide +kernel
theorem d_History_beginWith_15 : decode M_History_beginWith.2.1 15 = .ok (.iload_n 1, 1) := by decide +kernel
theorem d_History_beginWith_16 : decode M_History_beginWith.2.1 16 = .ok (.iload_n 2, 1) := by decide +kernel
theorem d_History_beginWith_17 : decode M_History_beginWith.2.1 17 = .ok (.invokestatic 40, 3) := by decide +kernel
theorem d_History_beginWith_20 : decode M_History_beginWith.2.1 20 = .ok (.aload_n 0, 1) := by decide +kernel
theorem d_History_beginWith_21 : decode M_History_beginWith.2.1 21 = .ok (.aload_n 0, 1) := by decide +kernel
theorem d_History_beginWith_22 : decode M_History_beginWith.2.1 22 = .ok (.getfield 27, 3) := by decide +kernel
theorem d_History_beginWith_25 : decode M_History_beginWith.2.1 25 = .ok (.invokevirtual 44, 3) := by decide +kernel
theorem d_History_beginWith_28 : decode M_History_beginWith.2.1 28 = .ok (.aload_n 0, 1) := by decide +kernel
theorem d_History_beginWith_29 : decode M_History_beginWith.2.1 29 = .ok (.aconst_null, 1) := by decide +kernel
theorem d_History_beginWith_30 : decode M_History_beginWith.2.1 30 = .ok (.aload_n 3, 1) := by decide +kernel
theorem d_History_beginWith_31 : decode M_History_beginWith.2.1 31 = .ok (.bipush (-2), 2) := by decide +kernel
theorem d_History_beginWith_33 : decode M_History_beginWith.2.1 33 = .ok (.iconst 0, 1) := by decide +kernel
theorem d_History_beginWith_34 : decode M_History_beginWith.2.1 34 = .ok (.iconst 0, 1) := by decide +kernel
theorem d_History_beginWith_35 : decode M_History_beginWith.2.1 35 = .ok (.invokevirtual 23, 3) := by decide +kernel
theorem d_History_beginWith_38 : decode M_History_beginWith.2.1 38 = .ok (.return_, 1) := by decide +kernel
theorem d_History_takeOutOfBucket_0 : decode M_History_takeOutOfBucket.2.1 0 = .ok (.aload_n 0, 1) := by decide +kernel
theorem d_History_takeOutOfBucket_1 : decode M_History_takeOutOfBucket.2.1 1 = .ok (.getfield 13, 3) := by decide +kernel
theorem d_History_takeOutOfBucket_4 : decode M_History_takeOutOfBucket.2.1 4 = .ok (.aload_n 1, 1) := by decide +kernel
theorem d_History_takeOutOfBucket_5 : decode M_History_takeOutOfBucket.2.1 5 = .ok (.getfield 31, 3) := by decide +kernel
theorem d_History_takeOutOfBucket_8 : decode M_History_takeOutOfBucket.2.1 8 = .ok (.invokestatic 61, 3) := by decide +kernel
theorem d_History_takeOutOfBucket_11 : decode M_History_takeOutOfBucket.2.1 11 = .ok (.aload_n 1, 1) := by decide +kernel
theorem d_History_takeOutOfBucket_12 : decode M_History_takeOutOfBucket.2.1 12 = .ok (.getfield 69, 3) := by decide +kernel
theorem d_History_takeOutOfBucket_15 : decode M_History_takeOutOfBucket.2.1 15 = .ok (.aastore, 1) := by decide +kernel
theorem d_History_takeOutOfBucket_16 : decode M_History_takeOutOfBucket.2.1 16 = .ok (.return_, 1) := by decide +kernel
theorem d_History_addMove_0 : decode M_History_addMove.2.1 0 = .ok (.aload_n 0, 1) := by decide +kernel
theorem d_History_addMove_1 : decode M_History_addMove.2.1 1 = .ok (.getfield 27, 3) := by decide +kernel
theorem d_History_addMove_4 : decode M_History_addMove.2.1 4 = .ok (.getfield 48, 3) := by decide +kernel
theorem d_History_addMove_7 : decode M_History_addMove.2.1 7 = .ok (.iload_n 3, 1) := by decide +kernel
theorem d_History_addMove_8 : decode M_History_addMove.2.1 8 = .ok (.iconst 1, 1) := by decide +kernel
theorem d_History_addMove_9 : decode M_History_addMove.2.1 9 = .ok (.if_icmp .ne 8, 3) := by decide +kernel
theorem d_History_addMove_12 : decode M_History_addMove.2.1 12 = .ok (.iload 4, 2) := by decide +kernel
theorem d_History_addMove_14 : decode M_History_addMove.2.1 14 = .ok (.goto 4, 3) := by decide +kernel
theorem d_History_addMove_17 : decode M_History_addMove.2.1 17 = .ok (.iconst 0, 1) := by decide +kernel
theorem d_History_addMove_18 : decode M_History_addMove.2.1 18 = .ok (.iadd, 1) := by decide +kernel
theorem d_History_addMove_19 : decode M_History_addMove.2.1 19 = .ok (.istore 5, 2) := by decide +kernel
theorem d_History_addMove_21 : decode M_History_addMove.2.1 21 = .ok (.aload_n 0, 1) := by decide +kernel
theorem d_History_addMove_22 : decode M_History_addMove.2.1 22 = .ok (.getfield 27, 3) := by decide +kernel
theorem d_History_addMove_25 : decode M_History_addMove.2.1 25 = .ok (.getfield 52, 3) := by decide +kernel
theorem d_History_addMove_28 : decode M_History_addMove.2.1 28 = .ok (.iload_n 3, 1) := by decide +kernel
theorem d_History_addMove_29 : decode M_History_addMove.2.1 29 = .ok (.iconst 2, 1) := by decide +kernel
theorem d_History_addMove_30 : decode M_History_addMove.2.1 30 = .ok (.if_icmp .ne 8, 3) := by decide +kernel
theorem d_History_addMove_33 : decode M_History_addMove.2.1 33 = .ok (.iload 4, 2) := by decide +kernel
theorem d_History_addMove_35 : decode M_History_addMove.2.1 35 = .ok (.goto 4, 3) := by decide +kernel
theorem d_History_addMove_38 : decode M_History_addMove.2.1 38 = .ok (.iconst 0, 1) := by decide +kernel
theorem d_History_addMove_39 : decode M_History_addMove.2.1 39 = .ok (.iadd, 1) := by decide +kernel
theorem d_History_addMove_40 : decode M_History_addMove.2.1 40 = .ok (.istore 6, 2) := by decide +kernel
theorem d_History_addMove_42 : decode M_History_addMove.2.1 42 = .ok (.aload_n 0, 1) := by decide +kernel
theorem d_History_addMove_43 : decode M_History_addMove.2.1 43 = .ok (.aload_n 0, 1) := by decide +kernel
theorem d_History_addMove_44 : decode M_History_addMove.2.1 44 = .ok (.getfield 27, 3) := by decide +kernel
theorem d_History_addMove_47 : decode M_History_addMove.2.1 47 = .ok (.aload_n 2, 1) := by decide +kernel
theorem d_History_addMove_48 : decode M_History_addMove.2.1 48 = .ok (.invokevirtual 35, 3) := by decide +kernel
theorem d_History_addMove_51 : decode M_History_addMove.2.1 51 = .ok (.checkcast 36, 3) := by decide +kernel
theorem d_History_addMove_54 : decode M_History_addMove.2.1 54 = .ok (.iload_n 1, 1) := by decide +kernel
theorem d_History_addMove_55 : decode M_History_addMove.2.1 55 = .ok (.iload 5, 2) := by decide +kernel
theorem d_History_addMove_57 : decode M_History_addMove.2.1 57 = .ok (.iload 6, 2) := by decide +kernel
theorem d_History_addMove_59 : decode M_History_addMove.2.1 59 = .ok (.invokevirtual 23, 3) := by decide +kernel
theorem d_History_addMove_62 : decode M_History_addMove.2.1 62 = .ok (.return_, 1) := by decide +kernel
theorem d_History_addPass_0 : decode M_History_addPass.2.1 0 = .ok (.aload_n 0, 1) := by decide +kernel
theorem d_History_addPass_1 : decode M_History_addPass.2.1 1 = .ok (.aload_n 0, 1) := by decide +kernel
theorem d_History_addPass_2 : decode M_History_addPass.2.1 2 = .ok (.getfield 27, 3) := by decide +kernel
theorem d_History_addPass_5 : decode M_History_addPass.2.1 5 = .ok (.aload_n 0, 1) := by decide +kernel
theorem d_History_addPass_6 : decode M_History_addPass.2.1 6 = .ok (.getfield 27, 3) := by decide +kernel
theorem d_History_addPass_9 : decode M_History_addPass.2.1 9 = .ok (.getfield 31, 3) := by decide +kernel
theorem d_History_addPass_12 : decode M_History_addPass.2.1 12 = .ok (.iconst (-1), 1) := by decide +kernel
theorem d_History_addPass_13 : decode M_History_addPass.2.1 13 = .ok (.aload_n 0, 1) := by decide +kernel
theorem d_History_addPass_14 : decode M_History_addPass.2.1 14 = .ok (.getfield 27, 3) := by decide +kernel
theorem d_History_addPass_17 : decode M_History_addPass.2.1 17 = .ok (.getfield 48, 3) := by decide +kernel
theorem d_History_addPass_20 : decode M_History_addPass.2.1 20 = .ok (.aload_n 0, 1) := by decide +kernel
theorem d_History_addPass_21 : decode M_History_addPass.2.1 21 = .ok (.getfield 27, 3) := by decide +kernel
theorem d_History_addPass_24 : decode M_History_addPass.2.1 24 = .ok (.getfield 52, 3) := by decide +kernel
theorem d_History_addPass_27 : decode M_History_addPass.2.1 27 = .ok (.invokevirtual 23, 3) := by decide +kernel
theorem d_History_addPass_30 : decode M_History_addPass.2.1 30 = .ok (.return_, 1) := by decide +kernel
theorem d_History_dropLatest_0 : decode M_History_dropLatest.2.1 0 = .ok (.aload_n 0, 1) := by decide +kernel
theorem d_History_dropLatest_1 : decode M_History_dropLatest.2.1 1 = .ok (.getfield 27, 3) := by decide +kernel
theorem d_History_dropLatest_4 : decode M_History_dropLatest.2.1 4 = .ok (.getfield 55, 3) := by decide +kernel
theorem d_History_dropLatest_7 : decode M_History_dropLatest.2.1 7 = .ok (.ifnull 22, 3) := by decide +kernel
theorem d_History_dropLatest_10 : decode M_History_dropLatest.2.1 10 = .ok (.aload_n 0, 1) := by decide +kernel
theorem d_History_dropLatest_11 : decode M_History_dropLatest.2.1 11 = .ok (.aload_n 0, 1) := by decide +kernel
theorem d_History_dropLatest_12 : decode M_History_dropLatest.2.1 12 = .ok (.getfield 27, 3) := by decide +kernel
theorem d_History_dropLatest_15 : decode M_History_dropLatest.2.1 15 = .ok (.invokevirtual 44, 3) := by decide +kernel
theorem d_History_dropLatest_18 : decode M_History_dropLatest.2.1 18 = .ok (.aload_n 0, 1) := by decide +kernel
theorem d_History_dropLatest_19 : decode M_History_dropLatest.2.1 19 = .ok (.aload_n 0, 1) := by decide +kernel
theorem d_History_dropLatest_20 : decode M_History_dropLatest.2.1 20 = .ok (.getfield 27, 3) := by decide +kernel
theorem d_History_dropLatest_23 : decode M_History_dropLatest.2.1 23 = .ok (.getfield 55, 3) := by decide +kernel
theorem d_History_dropLatest_26 : decode M_History_dropLatest.2.1 26 = .ok (.putfield 27, 3) := by decide +kernel
theorem d_History_dropLatest_29 : decode M_History_dropLatest.2.1 29 = .ok (.return_, 1) := by decide +kernel
theorem d_History_pointOfMove_0 : decode M_History_pointOfMove.2.1 0 = .ok (.aload_n 0, 1) := by decide +kernel
theorem d_History_pointOfMove_1 : decode M_History_pointOfMove.2.1 1 = .ok (.getfield 27, 3) := by decide +kernel
theorem d_History_pointOfMove_4 : decode M_History_pointOfMove.2.1 4 = .ok (.astore_n 2, 1) := by decide +kernel
theorem d_History_pointOfMove_5 : decode M_History_pointOfMove.2.1 5 = .ok (.aload_n 2, 1) := by decide +kernel
theorem d_History_pointOfMove_6 : decode M_History_pointOfMove.2.1 6 = .ok (.getfield 55, 3) := by decide +kernel
theorem d_History_pointOfMove_9 : decode M_History_pointOfMove.2.1 9 = .ok (.ifnull 21, 3) := by decide +kernel
theorem d_History_pointOfMove_12 : decode M_History_pointOfMove.2.1 12 = .ok (.aload_n 2, 1) := by decide +kernel
theorem d_History_pointOfMove_13 : decode M_History_pointOfMove.2.1 13 = .ok (.getfield 72, 3) := by decide +kernel
theorem d_History_pointOfMove_16 : decode M_History_pointOfMove.2.1 16 = .ok (.iload_n 1, 1) := by decide +kernel
theorem d_History_pointOfMove_17 : decode M_History_pointOfMove.2.1 17 = .ok (.iconst 1, 1) := by decide +kernel
theorem d_History_pointOfMove_18 : decode M_History_pointOfMove.2.1 18 = .ok (.iadd, 1) := by decide +kernel
theorem d_History_pointOfMove_19 : decode M_History_pointOfMove.2.1 19 = .ok (.if_icmp .le 11, 3) := by decide +kernel
theorem d_History_pointOfMove_22 : decode M_History_pointOfMove.2.1 22 = .ok (.aload_n 2, 1) := by decide +kernel
theorem d_History_pointOfMove_23 : decode M_History_pointOfMove.2.1 23 = .ok (.getfield 55, 3) := by decide +kernel
theorem d_History_pointOfMove_26 : decode M_History_pointOfMove.2.1 26 = .ok (.astore_n 2, 1) := by decide +kernel
theorem d_History_pointOfMove_27 : decode M_History_pointOfMove.2.1 27 = .ok (.goto (-22), 3) := by decide +kernel
theorem d_History_pointOfMove_30 : decode M_History_pointOfMove.2.1 30 = .ok (.aload_n 2, 1) := by decide +kernel
theorem d_History_pointOfMove_31 : decode M_History_pointOfMove.2.1 31 = .ok (.getfield 58, 3) := by decide +kernel
theorem d_History_pointOfMove_34 : decode M_History_pointOfMove.2.1 34 = .ok (.ireturn, 1) := by decide +kernel
theorem d_Life_judge_0 : decode M_Life_judge.2.1 0 = .ok (.iconst 0, 1) := by decide +kernel
theorem d_Life_judge_1 : decode M_Life_judge.2.1 1 = .ok (.istore_n 2, 1) := by decide +kernel
theorem d_Life_judge_2 : decode M_Life_judge.2.1 2 = .ok (.iload_n 2, 1) := by decide +kernel
theorem d_Life_judge_3 : decode M_Life_judge.2.1 3 = .ok (.aload_n 0, 1) := by decide +kernel
theorem d_Life_judge_4 : decode M_Life_judge.2.1 4 = .ok (.getfield 9, 3) := by decide +kernel
theorem d_Life_judge_7 : decode M_Life_judge.2.1 7 = .ok (.getfield 19, 3) := by decide +kernel
theorem d_Life_judge_10 : decode M_Life_judge.2.1 10 = .ok (.if_icmp .ge 30, 3) := by decide +kernel
theorem d_Life_judge_13 : decode M_Life_judge.2.1 13 = .ok (.aload_n 0, 1) := by decide +kernel
theorem d_Life_judge_14 : decode M_Life_judge.2.1 14 = .ok (.getfield 25, 3) := by decide +kernel
theorem d_Life_judge_17 : decode M_Life_judge.2.1 17 = .ok (.iload_n 2, 1) := by decide +kernel
theorem d_Life_judge_18 : decode M_Life_judge.2.1 18 = .ok (.aload_n 0, 1) := by decide +kernel
theorem d_Life_judge_19 : decode M_Life_judge.2.1 19 = .ok (.getfield 15, 3) := by decide +kernel
theorem d_Life_judge_22 : decode M_Life_judge.2.1 22 = .ok (.iload_n 2, 1) := by decide +kernel
theorem d_Life_judge_23 : decode M_Life_judge.2.1 23 = .ok (.iaload, 1) := by decide +kernel
theorem d_Life_judge_24 : decode M_Life_judge.2.1 24 = .ok (.iload_n 1, 1) := by decide +kernel
theorem d_Life_judge_25 : decode M_Life_judge.2.1 25 = .ok (.if_icmp .ne 7, 3) := by decide +kernel
theorem d_Life_judge_28 : decode M_Life_judge.2.1 28 = .ok (.iconst 1, 1) := by decide +kernel
theorem d_Life_judge_29 : decode M_Life_judge.2.1 29 = .ok (.goto 4, 3) := by decide +kernel
theorem d_Life_judge_32 : decode M_Life_judge.2.1 32 = .ok (.iconst 0, 1) := by decide +kernel
theorem d_Life_judge_33 : decode M_Life_judge.2.1 33 = .ok (.iastore, 1) := by decide +kernel
theorem d_Life_judge_34 : decode M_Life_judge.2.1 34 = .ok (.iinc 2 1, 3) := by decide +kernel
theorem d_Life_judge_37 : decode M_Life_judge.2.1 37 = .ok (.goto (-35), 3) := by decide +kernel
theorem d_Life_judge_40 : decode M_Life_judge.2.1 40 = .ok (.aload_n 0, 1) := by decide +kernel
theorem d_Life_judge_41 : decode M_Life_judge.2.1 41 = .ok (.getfield 33, 3) := by decide +kernel
theorem d_Life_judge_44 : decode M_Life_judge.2.1 44 = .ok (.aload_n 0, 1) := by decide +kernel
theorem d_Life_judge_45 : decode M_Life_judge.2.1 45 = .ok (.getfield 25, 3) := by decide +kernel
theorem d_Life_judge_48 : decode M_Life_judge.2.1 48 = .ok (.invokevirtual 47, 3) := by decide +kernel
theorem d_Life_judge_51 : decode M_Life_judge.2.1 51 = .ok (.iconst 0, 1) := by decide +kernel
theorem d_Life_judge_52 : decode M_Life_judge.2.1 52 = .ok (.istore_n 2, 1) := by decide +kernel
theorem d_Life_judge_53 : decode M_Life_judge.2.1 53 = .ok (.iload_n 2, 1) := by decide +kernel
theorem d_Life_judge_54 : decode M_Life_judge.2.1 54 = .ok (.aload_n 0, 1) := by decide +kernel
theorem d_Life_judge_55 : decode M_Life_judge.2.1 55 = .ok (.getfield 33, 3) := by decide +kernel
theorem d_Life_judge_58 : decode M_Life_judge.2.1 58 = .ok (.getfield 51, 3) := by decide +kernel
theorem d_Life_judge_61 : decode M_Life_judge.2.1 61 = .ok (.if_icmp .ge 21, 3) := by decide +kernel
theorem d_Life_judge_64 : decode M_Life_judge.2.1 64 = .ok (.aload_n 0, 1) := by decide +kernel
theorem d_Life_judge_65 : decode M_Life_judge.2.1 65 = .ok (.getfield 37, 3) := by decide +kernel
theorem d_Life_judge_68 : decode M_Life_judge.2.1 68 = .ok (.iload_n 2, 1) := by decide +kernel
theorem d_Life_judge_69 : decode M_Life_judge.2.1 69 = .ok (.iconst 1, 1) := by decide +kernel
theorem d_Life_judge_70 : decode M_Life_judge.2.1 70 = .ok (.bastore, 1) := by decide +kernel
theorem d_Life_judge_71 : decode M_Life_judge.2.1 71 = .ok (.aload_n 0, 1) := by decide +kernel
theorem d_Life_judge_72 : decode M_Life_judge.2.1 72 = .ok (.iload_n 2, 1) := by decide +kernel
theorem d_Life_judge_73 : decode M_Life_judge.2.1 73 = .ok (.invokevirtual 52, 3) := by decide +kernel
theorem d_Life_judge_76 : decode M_Life_judge.2.1 76 = .ok (.iinc 2 1, 3) := by decide +kernel
theorem d_Life_judge_79 : decode M_Life_judge.2.1 79 = .ok (.goto (-26), 3) := by decide +kernel
theorem d_Life_judge_82 : decode M_Life_judge.2.1 82 = .ok (.iconst 0, 1) := by decide +kernel
theorem d_Life_judge_83 : decode M_Life_judge.2.1 83 = .ok (.istore_n 2, 1) := by decide +kernel
theorem d_Life_judge_84 : decode M_Life_judge.2.1 84 = .ok (.iload_n 2, 1) := by decide +kernel
theorem d_Life_judge_85 : decode M_Life_judge.2.1 85 = .ok (.aload_n 0, 1) := by decide +kernel
theorem d_Life_judge_86 : decode M_Life_judge.2.1 86 = .ok (.getfield 33, 3) := by decide +kernel
theorem d_Life_judge_89 : decode M_Life_judge.2.1 89 = .ok (.getfield 51, 3) := by decide +kernel
theorem d_Life_judge_92 : decode M_Life_judge.2.1 92 = .ok (.if_icmp .ge 20, 3) := by decide +kernel
theorem d_Life_judge_95 : decode M_Life_judge.2.1 95 = .ok (.aload_n 0, 1) := by decide +kernel
theorem d_Life_judge_96 : decode M_Life_judge.2.1 96 = .ok (.invokevirtual 56, 3) := by decide +kernel
theorem d_Life_judge_99 : decode M_Life_judge.2.1 99 = .ok (.ifCond .eq 13, 3) := by decide +kernel
theorem d_Life_judge_102 : decode M_Life_judge.2.1 102 = .ok (.aload_n 0, 1) := by decide +kernel
theorem d_Life_judge_103 : decode M_Life_judge.2.1 103 = .ok (.invokevirtual 60, 3) := by decide +kernel
theorem d_Life_judge_106 : decode M_Life_judge.2.1 106 = .ok (.iinc 2 1, 3) := by decide +kernel
theorem d_Life_judge_109 : decode M_Life_judge.2.1 109 = .ok (.goto (-25), 3) := by decide +kernel
theorem d_Life_judge_112 : decode M_Life_judge.2.1 112 = .ok (.return_, 1) := by decide +kernel
theorem d_Life_noteStringsOf_0 : decode M_Life_noteStringsOf.2.1 0 = .ok (.iconst 4, 1) := by decide +kernel
theorem d_Life_noteStringsOf_1 : decode M_Life_noteStringsOf.2.1 1 = .ok (.iload_n 1, 1) := by decide +kernel
theorem d_Life_noteStringsOf_2 : decode M_Life_noteStringsOf.2.1 2 = .ok (.imul, 1) := by decide +kernel
theorem d_Life_noteStringsOf_3 : decode M_Life_noteStringsOf.2.1 3 = .ok (.istore_n 2, 1) := by decide +kernel
theorem d_Life_noteStringsOf_4 : decode M_Life_noteStringsOf.2.1 4 = .ok (.iconst 0, 1) := by decide +kernel
theorem d_Life_noteStringsOf_5 : decode M_Life_noteStringsOf.2.1 5 = .ok (.istore_n 3, 1) := by decide +kernel
theorem d_Life_noteStringsOf_6 : decode M_Life_noteStringsOf.2.1 6 = .ok (.iload_n 3, 1) := by decide +kernel
theorem d_Life_noteStringsOf_7 : decode M_Life_noteStringsOf.2.1 7 = .ok (.iconst 4, 1) := by decide +kernel
theorem d_Life_noteStringsOf_8 : decode M_Life_noteStringsOf.2.1 8 = .ok (.if_icmp .ge 103, 3) := by decide +kernel
theorem d_Life_noteStringsOf_11 : decode M_Life_noteStringsOf.2.1 11 = .ok (.aload_n 0, 1) := by decide +kernel
theorem d_Life_noteStringsOf_12 : decode M_Life_noteStringsOf.2.1 12 = .ok (.getfield 9, 3) := by decide +kernel
theorem d_Life_noteStringsOf_15 : decode M_Life_noteStringsOf.2.1 15 = .ok (.aload_n 0, 1) := by decide +kernel
theorem d_Life_noteStringsOf_16 : decode M_Life_noteStringsOf.2.1 16 = .ok (.getfield 33, 3) := by decide +kernel
theorem d_Life_noteStringsOf_19 : decode M_Life_noteStringsOf.2.1 19 = .ok (.iload_n 1, 1) := by decide +kernel
theorem d_Life_noteStringsOf_20 : decode M_Life_noteStringsOf.2.1 20 = .ok (.invokevirtual 73, 3) := by decide +kernel
theorem d_Life_noteStringsOf_23 : decode M_Life_noteStringsOf.2.1 23 = .ok (.iload_n 3, 1) := by decide +kernel
theorem d_Life_noteStringsOf_24 : decode M_Life_noteStringsOf.2.1 24 = .ok (.invokevirtual 76, 3) := by decide +kernel
theorem d_Life_noteStringsOf_27 : decode M_Life_noteStringsOf.2.1 27 = .ok (.istore 4, 2) := by decide +kernel
theorem d_Life_noteStringsOf_29 : decode M_Life_noteStringsOf.2.1 29 = .ok (.aload_n 0, 1) := by decide +kernel
theorem d_Life_noteStringsOf_30 : decode M_Life_noteStringsOf.2.1 30 = .ok (.getfield 41, 3) := by decide +kernel
theorem d_Life_noteStringsOf_33 : decode M_Life_noteStringsOf.2.1 33 = .ok (.iload_n 2, 1) := by decide +kernel
theorem d_Life_noteStringsOf_34 : decode M_Life_noteStringsOf.2.1 34 = .ok (.iload_n 3, 1) := by decide +kernel
theorem d_Life_noteStringsOf_35 : decode M_Life_noteStringsOf.2.1 35 = .ok (.iadd, 1) := by decide +kernel
theorem d_Life_noteStringsOf_36 : decode M_Life_noteStringsOf.2.1 36 = .ok (.iconst (-1), 1) := by decide +kernel
theorem d_Life_noteStringsOf_37 : decode M_Life_noteStringsOf.2.1 37 = .ok (.iastore, 1) := by decide +kernel
theorem d_Life_noteStringsOf_38 : decode M_Life_noteStringsOf.2.1 38 = .ok (.aload_n 0, 1) := by decide +kernel
theorem d_Life_noteStringsOf_39 : decode M_Life_noteStringsOf.2.1 39 = .ok (.iload_n 1, 1) := by decide +kernel
theorem d_Life_noteStringsOf_40 : decode M_Life_noteStringsOf.2.1 40 = .ok (.invokevirtual 67, 3) := by decide +kernel
theorem d_Life_noteStringsOf_43 : decode M_Life_noteStringsOf.2.1 43 = .ok (.ifCond .ne 62, 3) := by decide +kernel
theorem d_Life_noteStringsOf_46 : decode M_Life_noteStringsOf.2.1 46 = .ok (.iload 4, 2) := by decide +kernel
theorem d_Life_noteStringsOf_48 : decode M_Life_noteStringsOf.2.1 48 = .ok (.iconst (-1), 1) := by decide +kernel
theorem d_Life_noteStringsOf_49 : decode M_Life_noteStringsOf.2.1 49 = .ok (.if_icmp .eq 56, 3) := by decide +kernel
theorem d_Life_noteStringsOf_52 : decode M_Life_noteStringsOf.2.1 52 = .ok (.aload_n 0, 1) := by decide +kernel
theorem d_Life_noteStringsOf_53 : decode M_Life_noteStringsOf.2.1 53 = .ok (.getfield 25, 3) := by decide +kernel
theorem d_Life_noteStringsOf_56 : decode M_Life_noteStringsOf.2.1 56 = .ok (.iload 4, 2) := by decide +kernel
theorem d_Life_noteStringsOf_58 : decode M_Life_noteStringsOf.2.1 58 = .ok (.iaload, 1) := by decide +kernel
theorem d_Life_noteStringsOf_59 : decode M_Life_noteStringsOf.2.1 59 = .ok (.iconst 1, 1) := by decide +kernel
theorem d_Life_noteStringsOf_60 : decode M_Life_noteStringsOf.2.1 60 = .ok (.if_icmp .ne 45, 3) := by decide +kernel
theorem d_Life_noteStringsOf_63 : decode M_Life_noteStringsOf.2.1 63 = .ok (.aload_n 0, 1) := by decide +kernel
theorem d_Life_noteStringsOf_64 : decode M_Life_noteStringsOf.2.1 64 = .ok (.getfield 33, 3) := by decide +kernel
theorem d_Life_noteStringsOf_67 : decode M_Life_noteStringsOf.2.1 67 = .ok (.iload 4, 2) := by decide +kernel
theorem d_Life_noteStringsOf_69 : decode M_Life_noteStringsOf.2.1 69 = .ok (.invokevirtual 63, 3) := by decide +kernel
theorem d_Life_noteStringsOf_72 : decode M_Life_noteStringsOf.2.1 72 = .ok (.istore 5, 2) := by decide +kernel
theorem d_Life_noteStringsOf_74 : decode M_Life_noteStringsOf.2.1 74 = .ok (.aload_n 0, 1) := by decide +kernel
theorem d_Life_noteStringsOf_75 : decode M_Life_noteStringsOf.2.1 75 = .ok (.iload 5, 2) := by decide +kernel
theorem d_Life_noteStringsOf_77 : decode M_Life_noteStringsOf.2.1 77 = .ok (.iload_n 2, 1) := by decide +kernel
theorem d_Life_noteStringsOf_78 : decode M_Life_noteStringsOf.2.1 78 = .ok (.iload_n 3, 1) := by decide +kernel
theorem d_Life_noteStringsOf_79 : decode M_Life_noteStringsOf.2.1 79 = .ok (.invokevirtual 80, 3) := by decide +kernel
theorem d_Life_noteStringsOf_82 : decode M_Life_noteStringsOf.2.1 82 = .ok (.ifCond .ne 23, 3) := by decide +kernel
theorem d_Life_noteStringsOf_85 : decode M_Life_noteStringsOf.2.1 85 = .ok (.aload_n 0, 1) := by decide +kernel
theorem d_Life_noteStringsOf_86 : decode M_Life_noteStringsOf.2.1 86 = .ok (.iload_n 1, 1) := by decide +kernel
theorem d_Life_noteStringsOf_87 : decode M_Life_noteStringsOf.2.1 87 = .ok (.iload 5, 2) := by decide +kernel
theorem d_Life_noteStringsOf_89 : decode M_Life_noteStringsOf.2.1 89 = .ok (.invokevirtual 84, 3) := by decide +kernel
theorem d_Life_noteStringsOf_92 : decode M_Life_noteStringsOf.2.1 92 = .ok (.ifCond .eq 13, 3) := by decide +kernel
theorem d_Life_noteStringsOf_95 : decode M_Life_noteStringsOf.2.1 95 = .ok (.aload_n 0, 1) := by decide +kernel
theorem d_Life_noteStringsOf_96 : decode M_Life_noteStringsOf.2.1 96 = .ok (.getfield 41, 3) := by decide +kernel
theorem d_Life_noteStringsOf_99 : decode M_Life_noteStringsOf.2.1 99 = .ok (.iload_n 2, 1) := by decide +kernel
theorem d_Life_noteStringsOf_100 : decode M_Life_noteStringsOf.2.1 100 = .ok (.iload_n 3, 1) := by decide +kernel
theorem d_Life_noteStringsOf_101 : decode M_Life_noteStringsOf.2.1 101 = .ok (.iadd, 1) := by decide +kernel
theorem d_Life_noteStringsOf_102 : decode M_Life_noteStringsOf.2.1 102 = .ok (.iload 5, 2) := by decide +kernel
theorem d_Life_noteStringsOf_104 : decode M_Life_noteStringsOf.2.1 104 = .ok (.iastore, 1) := by decide +kernel
theorem d_Life_noteStringsOf_105 : decode M_Life_noteStringsOf.2.1 105 = .ok (.iinc 3 1, 3) := by decide +kernel
theorem d_Life_noteStringsOf_108 : decode M_Life_noteStringsOf.2.1 108 = .ok (.goto (-102), 3) := by decide +kernel
theorem d_Life_noteStringsOf_111 : decode M_Life_noteStringsOf.2.1 111 = .ok (.return_, 1) := by decide +kernel
theorem d_Life_kindOf_0 : decode M_Life_kindOf.2.1 0 = .ok (.aload_n 0, 1) := by decide +kernel
theorem d_Life_kindOf_1 : decode M_Life_kindOf.2.1 1 = .ok (.getfield 25, 3) := by decide +kernel
theorem d_Life_kindOf_4 : decode M_Life_kindOf.2.1 4 = .ok (.aload_n 0, 1) := by decide +kernel
theorem d_Life_kindOf_5 : decode M_Life_kindOf.2.1 5 = .ok (.getfield 33, 3) := by decide +kernel
theorem d_Life_kindOf_8 : decode M_Life_kindOf.2.1 8 = .ok (.iload_n 1, 1) := by decide +kernel
theorem d_Life_kindOf_9 : decode M_Life_kindOf.2.1 9 = .ok (.invokevirtual 73, 3) := by decide +kernel
theorem d_Life_kindOf_12 : decode M_Life_kindOf.2.1 12 = .ok (.iaload, 1) := by decide +kernel
theorem d_Life_kindOf_13 : decode M_Life_kindOf.2.1 13 = .ok (.ireturn, 1) := by decide +kernel
theorem d_Life_isNoted_0 : decode M_Life_isNoted.2.1 0 = .ok (.iconst 0, 1) := by decide +kernel
theorem d_Life_isNoted_1 : decode M_Life_isNoted.2.1 1 = .ok (.istore 4, 2) := by decide +kernel
theorem d_Life_isNoted_3 : decode M_Life_isNoted.2.1 3 = .ok (.iload 4, 2) := by decide +kernel
theorem d_Life_isNoted_5 : decode M_Life_isNoted.2.1 5 = .ok (.iload_n 3, 1) := by decide +kernel
theorem d_Life_isNoted_6 : decode M_Life_isNoted.2.1 6 = .ok (.if_icmp .ge 24, 3) := by decide +kernel
theorem d_Life_isNoted_9 : decode M_Life_isNoted.2.1 9 = .ok (.aload_n 0, 1) := by decide +kernel
theorem d_Life_isNoted_10 : decode M_Life_isNoted.2.1 10 = .ok (.getfield 41, 3) := by decide +kernel
theorem d_Life_isNoted_13 : decode M_Life_isNoted.2.1 13 = .ok (.iload_n 2, 1) := by decide +kernel
theorem d_Life_isNoted_14 : decode M_Life_isNoted.2.1 14 = .ok (.iload 4, 2) := by decide +kernel
theorem d_Life_isNoted_16 : decode M_Life_isNoted.2.1 16 = .ok (.iadd, 1) := by decide +kernel
theorem d_Life_isNoted_17 : decode M_Life_isNoted.2.1 17 = .ok (.iaload, 1) := by decide +kernel
theorem d_Life_isNoted_18 : decode M_Life_isNoted.2.1 18 = .ok (.iload_n 1, 1) := by decide +kernel
theorem d_Life_isNoted_19 : decode M_Life_isNoted.2.1 19 = .ok (.if_icmp .ne 5, 3) := by decide +kernel
theorem d_Life_isNoted_22 : decode M_Life_isNoted.2.1 22 = .ok (.iconst 1, 1) := by decide +kernel
theorem d_Life_isNoted_23 : decode M_Life_isNoted.2.1 23 = .ok (.ireturn, 1) := by decide +kernel
theorem d_Life_isNoted_24 : decode M_Life_isNoted.2.1 24 = .ok (.iinc 4 1, 3) := by decide +kernel
theorem d_Life_isNoted_27 : decode M_Life_isNoted.2.1 27 = .ok (.goto (-24), 3) := by decide +kernel
theorem d_Life_isNoted_30 : decode M_Life_isNoted.2.1 30 = .ok (.iconst 0, 1) := by decide +kernel
theorem d_Life_isNoted_31 : decode M_Life_isNoted.2.1 31 = .ok (.ireturn, 1) := by decide +kernel
theorem d_Life_belongs_0 : decode M_Life_belongs.2.1 0 = .ok (.iconst 0, 1) := by decide +kernel
theorem d_Life_belongs_1 : decode M_Life_belongs.2.1 1 = .ok (.istore_n 3, 1) := by decide +kernel
theorem d_Life_belongs_2 : decode M_Life_belongs.2.1 2 = .ok (.iload_n 3, 1) := by decide +kernel
theorem d_Life_belongs_3 : decode M_Life_belongs.2.1 3 = .ok (.aload_n 0, 1) := by decide +kernel
theorem d_Life_belongs_4 : decode M_Life_belongs.2.1 4 = .ok (.getfield 33, 3) := by decide +kernel
theorem d_Life_belongs_7 : decode M_Life_belongs.2.1 7 = .ok (.iload_n 1, 1) := by decide +kernel
theorem d_Life_belongs_8 : decode M_Life_belongs.2.1 8 = .ok (.invokevirtual 70, 3) := by decide +kernel
theorem d_Life_belongs_11 : decode M_Life_belongs.2.1 11 = .ok (.if_icmp .ge 28, 3) := by decide +kernel
theorem d_Life_belongs_14 : decode M_Life_belongs.2.1 14 = .ok (.aload_n 0, 1) := by decide +kernel
theorem d_Life_belongs_15 : decode M_Life_belongs.2.1 15 = .ok (.aload_n 0, 1) := by decide +kernel
theorem d_Life_belongs_16 : decode M_Life_belongs.2.1 16 = .ok (.getfield 33, 3) := by decide +kernel
theorem d_Life_belongs_19 : decode M_Life_belongs.2.1 19 = .ok (.iload_n 1, 1) := by decide +kernel
theorem d_Life_belongs_20 : decode M_Life_belongs.2.1 20 = .ok (.iload_n 3, 1) := by decide +kernel
theorem d_Life_belongs_21 : decode M_Life_belongs.2.1 21 = .ok (.invokevirtual 88, 3) := by decide +kernel
theorem d_Life_belongs_24 : decode M_Life_belongs.2.1 24 = .ok (.iload_n 2, 1) := by decide +kernel
theorem d_Life_belongs_25 : decode M_Life_belongs.2.1 25 = .ok (.invokevirtual 91, 3) := by decide +kernel
theorem d_Life_belongs_28 : decode M_Life_belongs.2.1 28 = .ok (.ifCond .ne 5, 3) := by decide +kernel
theorem d_Life_belongs_31 : decode M_Life_belongs.2.1 31 = .ok (.iconst 0, 1) := by decide +kernel
theorem d_Life_belongs_32 : decode M_Life_belongs.2.1 32 = .ok (.ireturn, 1) := by decide +kernel
theorem d_Life_belongs_33 : decode M_Life_belongs.2.1 33 = .ok (.iinc 3 1, 3) := by decide +kernel
theorem d_Life_belongs_36 : decode M_Life_belongs.2.1 36 = .ok (.goto (-34), 3) := by decide +kernel
theorem d_Life_belongs_39 : decode M_Life_belongs.2.1 39 = .ok (.iconst 1, 1) := by decide +kernel
theorem d_Life_belongs_40 : decode M_Life_belongs.2.1 40 = .ok (.ireturn, 1) := by decide +kernel
theorem d_Life_isBeside_0 : decode M_Life_isBeside.2.1 0 = .ok (.iconst 0, 1) := by decide +kernel
theorem d_Life_isBeside_1 : decode M_Life_isBeside.2.1 1 = .ok (.istore_n 3, 1) := by decide +kernel
theorem d_Life_isBeside_2 : decode M_Life_isBeside.2.1 2 = .ok (.iload_n 3, 1) := by decide +kernel
theorem d_Life_isBeside_3 : decode M_Life_isBeside.2.1 3 = .ok (.iconst 4, 1) := by decide +kernel
theorem d_Life_isBeside_4 : decode M_Life_isBeside.2.1 4 = .ok (.if_icmp .ge 41, 3) := by decide +kernel
theorem d_Life_isBeside_7 : decode M_Life_isBeside.2.1 7 = .ok (.aload_n 0, 1) := by decide +kernel
theorem d_Life_isBeside_8 : decode M_Life_isBeside.2.1 8 = .ok (.getfield 9, 3) := by decide +kernel
theorem d_Life_isBeside_11 : decode M_Life_isBeside.2.1 11 = .ok (.iload_n 1, 1) := by decide +kernel
theorem d_Life_isBeside_12 : decode M_Life_isBeside.2.1 12 = .ok (.iload_n 3, 1) := by decide +kernel
theorem d_Life_isBeside_13 : decode M_Life_isBeside.2.1 13 = .ok (.invokevirtual 76, 3) := by decide +kernel
theorem d_Life_isBeside_16 : decode M_Life_isBeside.2.1 16 = .ok (.istore 4, 2) := by decide +kernel
theorem d_Life_isBeside_18 : decode M_Life_isBeside.2.1 18 = .ok (.iload 4, 2) := by decide +kernel
theorem d_Life_isBeside_20 : decode M_Life_isBeside.2.1 20 = .ok (.iconst (-1), 1) := by decide +kernel
theorem d_Life_isBeside_21 : decode M_Life_isBeside.2.1 21 = .ok (.if_icmp .eq 18, 3) := by decide +kernel
theorem d_Life_isBeside_24 : decode M_Life_isBeside.2.1 24 = .ok (.aload_n 0, 1) := by decide +kernel
theorem d_Life_isBeside_25 : decode M_Life_isBeside.2.1 25 = .ok (.getfield 33, 3) := by decide +kernel
theorem d_Life_isBeside_28 : decode M_Life_isBeside.2.1 28 = .ok (.iload 4, 2) := by decide +kernel
theorem d_Life_isBeside_30 : decode M_Life_isBeside.2.1 30 = .ok (.invokevirtual 63, 3) := by decide +kernel
theorem d_Life_isBeside_33 : decode M_Life_isBeside.2.1 33 = .ok (.iload_n 2, 1) := by decide +kernel
theorem d_Life_isBeside_34 : decode M_Life_isBeside.2.1 34 = .ok (.if_icmp .ne 5, 3) := by decide +kernel
theorem d_Life_isBeside_37 : decode M_Life_isBeside.2.1 37 = .ok (.iconst 1, 1) := by decide +kernel
theorem d_Life_isBeside_38 : decode M_Life_isBeside.2.1 38 = .ok (.ireturn, 1) := by decide +kernel
theorem d_Life_isBeside_39 : decode M_Life_isBeside.2.1 39 = .ok (.iinc 3 1, 3) := by decide +kernel
theorem d_Life_isBeside_42 : decode M_Life_isBeside.2.1 42 = .ok (.goto (-40), 3) := by decide +kernel
theorem d_Life_isBeside_45 : decode M_Life_isBeside.2.1 45 = .ok (.iconst 0, 1) := by decide +kernel
theorem d_Life_isBeside_46 : decode M_Life_isBeside.2.1 46 = .ok (.ireturn, 1) := by decide +kernel
theorem d_Life_letStringsFall_0 : decode M_Life_letStringsFall.2.1 0 = .ok (.aload_n 0, 1) := by decide +kernel
theorem d_Life_letStringsFall_1 : decode M_Life_letStringsFall.2.1 1 = .ok (.invokevirtual 94, 3) := by decide +kernel
theorem d_Life_letStringsFall_4 : decode M_Life_letStringsFall.2.1 4 = .ok (.iconst 0, 1) := by decide +kernel
theorem d_Life_letStringsFall_5 : decode M_Life_letStringsFall.2.1 5 = .ok (.istore_n 1, 1) := by decide +kernel
theorem d_Life_letStringsFall_6 : decode M_Life_letStringsFall.2.1 6 = .ok (.iconst 0, 1) := by decide +kernel
theorem d_Life_letStringsFall_7 : decode M_Life_letStringsFall.2.1 7 = .ok (.istore_n 2, 1) := by decide +kernel
theorem d_Life_letStringsFall_8 : decode M_Life_letStringsFall.2.1 8 = .ok (.iload_n 2, 1) := by decide +kernel
theorem d_Life_letStringsFall_9 : decode M_Life_letStringsFall.2.1 9 = .ok (.aload_n 0, 1) := by decide +kernel
theorem d_Life_letStringsFall_10 : decode M_Life_letStringsFall.2.1 10 = .ok (.getfield 33, 3) := by decide +kernel
theorem d_Life_letStringsFall_13 : decode M_Life_letStringsFall.2.1 13 = .ok (.getfield 51, 3) := by decide +kernel
theorem d_Life_letStringsFall_16 : decode M_Life_letStringsFall.2.1 16 = .ok (.if_icmp .ge 46, 3) := by decide +kernel
theorem d_Life_letStringsFall_19 : decode M_Life_letStringsFall.2.1 19 = .ok (.aload_n 0, 1) := by decide +kernel
theorem d_Life_letStringsFall_20 : decode M_Life_letStringsFall.2.1 20 = .ok (.getfield 37, 3) := by decide +kernel
theorem d_Life_letStringsFall_23 : decode M_Life_letStringsFall.2.1 23 = .ok (.iload_n 2, 1) := by decide +kernel
theorem d_Life_letStringsFall_24 : decode M_Life_letStringsFall.2.1 24 = .ok (.baload, 1) := by decide +kernel
theorem d_Life_letStringsFall_25 : decode M_Life_letStringsFall.2.1 25 = .ok (.ifCond .eq 31, 3) := by decide +kernel
theorem d_Life_letStringsFall_28 : decode M_Life_letStringsFall.2.1 28 = .ok (.aload_n 0, 1) := by decide +kernel
theorem d_Life_letStringsFall_29 : decode M_Life_letStringsFall.2.1 29 = .ok (.iload_n 2, 1) := by decide +kernel
theorem d_Life_letStringsFall_30 : decode M_Life_letStringsFall.2.1 30 = .ok (.invokevirtual 67, 3) := by decide +kernel
theorem d_Life_letStringsFall_33 : decode M_Life_letStringsFall.2.1 33 = .ok (.iconst 1, 1) := by decide +kernel
theorem d_Life_letStringsFall_34 : decode M_Life_letStringsFall.2.1 34 = .ok (.if_icmp .ne 22, 3) := by decide +kernel
theorem d_Life_letStringsFall_37 : decode M_Life_letStringsFall.2.1 37 = .ok (.aload_n 0, 1) := by decide +kernel
theorem d_Life_letStringsFall_38 : decode M_Life_letStringsFall.2.1 38 = .ok (.getfield 44, 3) := by decide +kernel
theorem d_Life_letStringsFall_41 : decode M_Life_letStringsFall.2.1 41 = .ok (.iload_n 2, 1) := by decide +kernel
theorem d_Life_letStringsFall_42 : decode M_Life_letStringsFall.2.1 42 = .ok (.iaload, 1) := by decide +kernel
theorem d_Life_letStringsFall_43 : decode M_Life_letStringsFall.2.1 43 = .ok (.iconst 2, 1) := by decide +kernel
theorem d_Life_letStringsFall_44 : decode M_Life_letStringsFall.2.1 44 = .ok (.if_icmp .ge 12, 3) := by decide +kernel
theorem d_Life_letStringsFall_47 : decode M_Life_letStringsFall.2.1 47 = .ok (.aload_n 0, 1) := by decide +kernel
theorem d_Life_letStringsFall_48 : decode M_Life_letStringsFall.2.1 48 = .ok (.getfield 37, 3) := by decide +kernel
theorem d_Life_letStringsFall_51 : decode M_Life_letStringsFall.2.1 51 = .ok (.iload_n 2, 1) := by decide +kernel
theorem d_Life_letStringsFall_52 : decode M_Life_letStringsFall.2.1 52 = .ok (.iconst 0, 1) := by decide +kernel
theorem d_Life_letStringsFall_53 : decode M_Life_letStringsFall.2.1 53 = .ok (.bastore, 1) := by decide +kernel
theorem d_Life_letStringsFall_54 : decode M_Life_letStringsFall.2.1 54 = .ok (.iconst 1, 1) := by decide +kernel
theorem d_Life_letStringsFall_55 : decode M_Life_letStringsFall.2.1 55 = .ok (.istore_n 1, 1) := by decide +kernel
theorem d_Life_letStringsFall_56 : decode M_Life_letStringsFall.2.1 56 = .ok (.iinc 2 1, 3) := by decide +kernel
theorem d_Life_letStringsFall_59 : decode M_Life_letStringsFall.2.1 59 = .ok (.goto (-51), 3) := by decide +kernel
theorem d_Life_letStringsFall_62 : decode M_Life_letStringsFall.2.1 62 = .ok (.iload_n 1, 1) := by decide +kernel
theorem d_Life_letStringsFall_63 : decode M_Life_letStringsFall.2.1 63 = .ok (.ireturn, 1) := by decide +kernel
theorem d_Life_countRegionsOfStrings_0 : decode M_Life_countRegionsOfStrings.2.1 0 = .ok (.aload_n 0, 1) := by decide +kernel
theorem d_Life_countRegionsOfStrings_1 : decode M_Life_countRegionsOfStrings.2.1 1 = .ok (.getfield 44, 3) := by decide +kernel
theorem d_Life_countRegionsOfStrings_4 : decode M_Life_countRegionsOfStrings.2.1 4 = .ok (.iconst 0, 1) := by decide +kernel
theorem d_Life_countRegionsOfStrings_5 : decode M_Life_countRegionsOfStrings.2.1 5 = .ok (.invokestatic 97, 3) := by decide +kernel
theorem d_Life_countRegionsOfStrings_8 : decode M_Life_countRegionsOfStrings.2.1 8 = .ok (.iconst 0, 1) := by decide +kernel
theorem d_Life_countRegionsOfStrings_9 : decode M_Life_countRegionsOfStrings.2.1 9 = .ok (.istore_n 1, 1) := by decide +kernel
theorem d_Life_countRegionsOfStrings_10 : decode M_Life_countRegionsOfStrings.2.1 10 = .ok (.iload_n 1, 1) := by decide +kernel
theorem d_Life_countRegionsOfStrings_11 : decode M_Life_countRegionsOfStrings.2.1 11 = .ok (.iconst 4, 1) := by decide +kernel
theorem d_Life_countRegionsOfStrings_12 : decode M_Life_countRegionsOfStrings.2.1 12 = .ok (.aload_n 0, 1) := by decide +kernel
theorem d_Life_countRegionsOfStrings_13 : decode M_Life_countRegionsOfStrings.2.1 13 = .ok (.getfield 33, 3) := by decide +kernel
theorem d_Life_countRegionsOfStrings_16 : decode M_Life_countRegionsOfStrings.2.1 16 = .ok (.getfield 51, 3) := by decide +kernel
theorem d_Life_countRegionsOfStrings_19 : decode M_Life_countRegionsOfStrings.2.1 19 = .ok (.imul, 1) := by decide +kernel
theorem d_Life_countRegionsOfStrings_20 : decode M_Life_countRegionsOfStrings.2.1 20 = .ok (.if_icmp .ge 45, 3) := by decide +kernel
theorem d_Life_countRegionsOfStrings_23 : decode M_Life_countRegionsOfStrings.2.1 23 = .ok (.aload_n 0, 1) := by decide +kernel
theorem d_Life_countRegionsOfStrings_24 : decode M_Life_countRegionsOfStrings.2.1 24 = .ok (.getfield 41, 3) := by decide +kernel
theorem d_Life_countRegionsOfStrings_27 : decode M_Life_countRegionsOfStrings.2.1 27 = .ok (.iload_n 1, 1) := by decide +kernel
theorem d_Life_countRegionsOfStrings_28 : decode M_Life_countRegionsOfStrings.2.1 28 = .ok (.iaload, 1) := by decide +kernel
theorem d_Life_countRegionsOfStrings_29 : decode M_Life_countRegionsOfStrings.2.1 29 = .ok (.iconst (-1), 1) := by decide +kernel
theorem d_Life_countRegionsOfStrings_30 : decode M_Life_countRegionsOfStrings.2.1 30 = .ok (.if_icmp .eq 29, 3) := by decide +kernel
theorem d_Life_countRegionsOfStrings_33 : decode M_Life_countRegionsOfStrings.2.1 33 = .ok (.aload_n 0, 1) := by decide +kernel
theorem d_Life_countRegionsOfStrings_34 : decode M_Life_countRegionsOfStrings.2.1 34 = .ok (.getfield 37, 3) := by decide +kernel
theorem d_Life_countRegionsOfStrings_37 : decode M_Life_countRegionsOfStrings.2.1 37 = .ok (.iload_n 1, 1) := by decide +kernel
theorem d_Life_countRegionsOfStrings_38 : decode M_Life_countRegionsOfStrings.2.1 38 = .ok (.iconst 4, 1) := by decide +kernel
theorem d_Life_countRegionsOfStrings_39 : decode M_Life_countRegionsOfStrings.2.1 39 = .ok (.idiv, 1) := by decide +kernel
theorem d_Life_countRegionsOfStrings_40 : decode M_Life_countRegionsOfStrings.2.1 40 = .ok (.baload, 1) := by decide +kernel
theorem d_Life_countRegionsOfStrings_41 : decode M_Life_countRegionsOfStrings.2.1 41 = .ok (.ifCond .eq 18, 3) := by decide +kernel
theorem d_Life_countRegionsOfStrings_44 : decode M_Life_countRegionsOfStrings.2.1 44 = .ok (.aload_n 0, 1) := by decide +kernel
theorem d_Life_countRegionsOfStrings_45 : decode M_Life_countRegionsOfStrings.2.1 45 = .ok (.getfield 44, 3) := by decide +kernel
theorem d_Life_countRegionsOfStrings_48 : decode M_Life_countRegionsOfStrings.2.1 48 = .ok (.aload_n 0, 1) := by decide +kernel
theorem d_Life_countRegionsOfStrings_49 : decode M_Life_countRegionsOfStrings.2.1 49 = .ok (.getfield 41, 3) := by decide +kernel
theorem d_Life_countRegionsOfStrings_52 : decode M_Life_countRegionsOfStrings.2.1 52 = .ok (.iload_n 1, 1) := by decide +kernel
theorem d_Life_countRegionsOfStrings_53 : decode M_Life_countRegionsOfStrings.2.1 53 = .ok (.iaload, 1) := by decide +kernel
theorem d_Life_countRegionsOfStrings_54 : decode M_Life_countRegionsOfStrings.2.1 54 = .ok (.dup2, 1) := by decide +kernel
theorem d_Life_countRegionsOfStrings_55 : decode M_Life_countRegionsOfStrings.2.1 55 = .ok (.iaload, 1) := by decide +kernel
theorem d_Life_countRegionsOfStrings_56 : decode M_Life_countRegionsOfStrings.2.1 56 = .ok (.iconst 1, 1) := by decide +kernel
theorem d_Life_countRegionsOfStrings_57 : decode M_Life_countRegionsOfStrings.2.1 57 = .ok (.iadd, 1) := by decide +kernel
theorem d_Life_countRegionsOfStrings_58 : decode M_Life_countRegionsOfStrings.2.1 58 = .ok (.iastore, 1) := by decide +kernel
theorem d_Life_countRegionsOfStrings_59 : decode M_Life_countRegionsOfStrings.2.1 59 = .ok (.iinc 1 1, 3) := by decide +kernel
theorem d_Life_countRegionsOfStrings_62 : decode M_Life_countRegionsOfStrings.2.1 62 = .ok (.goto (-52), 3) := by decide +kernel
theorem d_Life_countRegionsOfStrings_65 : decode M_Life_countRegionsOfStrings.2.1 65 = .ok (.return_, 1) := by decide +kernel
theorem d_Life_letRegionsFall_0 : decode M_Life_letRegionsFall.2.1 0 = .ok (.iconst 0, 1) := by decide +kernel
theorem d_Life_letRegionsFall_1 : decode M_Life_letRegionsFall.2.1 1 = .ok (.istore_n 1, 1) := by decide +kernel
theorem d_Life_letRegionsFall_2 : decode M_Life_letRegionsFall.2.1 2 = .ok (.iload_n 1, 1) := by decide +kernel
theorem d_Life_letRegionsFall_3 : decode M_Life_letRegionsFall.2.1 3 = .ok (.aload_n 0, 1) := by decide +kernel
theorem d_Life_letRegionsFall_4 : decode M_Life_letRegionsFall.2.1 4 = .ok (.getfield 9, 3) := by decide +kernel
theorem d_Life_letRegionsFall_7 : decode M_Life_letRegionsFall.2.1 7 = .ok (.getfield 19, 3) := by decide +kernel
theorem d_Life_letRegionsFall_10 : decode M_Life_letRegionsFall.2.1 10 = .ok (.if_icmp .ge 40, 3) := by decide +kernel
theorem d_Life_letRegionsFall_13 : decode M_Life_letRegionsFall.2.1 13 = .ok (.aload_n 0, 1) := by decide +kernel
theorem d_Life_letRegionsFall_14 : decode M_Life_letRegionsFall.2.1 14 = .ok (.getfield 25, 3) := by decide +kernel
theorem d_Life_letRegionsFall_17 : decode M_Life_letRegionsFall.2.1 17 = .ok (.iload_n 1, 1) := by decide +kernel
theorem d_Life_letRegionsFall_18 : decode M_Life_letRegionsFall.2.1 18 = .ok (.iaload, 1) := by decide +kernel
theorem d_Life_letRegionsFall_19 : decode M_Life_letRegionsFall.2.1 19 = .ok (.ifCond .ne 25, 3) := by decide +kernel
theorem d_Life_letRegionsFall_22 : decode M_Life_letRegionsFall.2.1 22 = .ok (.aload_n 0, 1) := by decide +kernel
theorem d_Life_letRegionsFall_23 : decode M_Life_letRegionsFall.2.1 23 = .ok (.iload_n 1, 1) := by decide +kernel
theorem d_Life_letRegionsFall_24 : decode M_Life_letRegionsFall.2.1 24 = .ok (.invokevirtual 103, 3) := by decide +kernel
theorem d_Life_letRegionsFall_27 : decode M_Life_letRegionsFall.2.1 27 = .ok (.ifCond .eq 17, 3) := by decide +kernel
theorem d_Life_letRegionsFall_30 : decode M_Life_letRegionsFall.2.1 30 = .ok (.aload_n 0, 1) := by decide +kernel
theorem d_Life_letRegionsFall_31 : decode M_Life_letRegionsFall.2.1 31 = .ok (.getfield 37, 3) := by decide +kernel
theorem d_Life_letRegionsFall_34 : decode M_Life_letRegionsFall.2.1 34 = .ok (.aload_n 0, 1) := by decide +kernel
theorem d_Life_letRegionsFall_35 : decode M_Life_letRegionsFall.2.1 35 = .ok (.getfield 33, 3) := by decide +kernel
theorem d_Life_letRegionsFall_38 : decode M_Life_letRegionsFall.2.1 38 = .ok (.iload_n 1, 1) := by decide +kernel
theorem d_Life_letRegionsFall_39 : decode M_Life_letRegionsFall.2.1 39 = .ok (.invokevirtual 63, 3) := by decide +kernel
theorem d_Life_letRegionsFall_42 : decode M_Life_letRegionsFall.2.1 42 = .ok (.iconst 0, 1) := by decide +kernel
theorem d_Life_letRegionsFall_43 : decode M_Life_letRegionsFall.2.1 43 = .ok (.bastore, 1) := by decide +kernel
theorem d_Life_letRegionsFall_44 : decode M_Life_letRegionsFall.2.1 44 = .ok (.iinc 1 1, 3) := by decide +kernel
theorem d_Life_letRegionsFall_47 : decode M_Life_letRegionsFall.2.1 47 = .ok (.goto (-45), 3) := by decide +kernel
theorem d_Life_letRegionsFall_50 : decode M_Life_letRegionsFall.2.1 50 = .ok (.return_, 1) := by decide +kernel
theorem d_Life_isBesideFallenString_0 : decode M_Life_isBesideFallenString.2.1 0 = .ok (.iconst 0, 1) := by decide +kernel
theorem d_Life_isBesideFallenString_1 : decode M_Life_isBesideFallenString.2.1 1 = .ok (.istore_n 2, 1) := by decide +kernel
theorem d_Life_isBesideFallenString_2 : decode M_Life_isBesideFallenString.2.1 2 = .ok (.iload_n 2, 1) := by decide +kernel
theorem d_Life_isBesideFallenString_3 : decode M_Life_isBesideFallenString.2.1 3 = .ok (.iconst 4, 1) := by decide +kernel
theorem d_Life_isBesideFallenString_4 : decode M_Life_isBesideFallenString.2.1 4 = .ok (.if_icmp .ge 44, 3) := by decide +kernel
theorem d_Life_isBesideFallenString_7 : decode M_Life_isBesideFallenString.2.1 7 = .ok (.aload_n 0, 1) := by decide +kernel
theorem d_Life_isBesideFallenString_8 : decode M_Life_isBesideFallenString.2.1 8 = .ok (.getfield 9, 3) := by decide +kernel
theorem d_Life_isBesideFallenString_11 : decode M_Life_isBesideFallenString.2.1 11 = .ok (.iload_n 1, 1) := by decide +kernel
theorem d_Life_isBesideFallenString_12 : decode M_Life_isBesideFallenString.2.1 12 = .ok (.iload_n 2, 1) := by decide +kernel
theorem d_Life_isBesideFallenString_13 : decode M_Life_isBesideFallenString.2.1 13 = .ok (.invokevirtual 76, 3) := by decide +kernel
theorem d_Life_isBesideFallenString_16 : decode M_Life_isBesideFallenString.2.1 16 = .ok (.istore_n 3, 1) := by decide +kernel
theorem d_Life_isBesideFallenString_17 : decode M_Life_isBesideFallenString.2.1 17 = .ok (.iload_n 3, 1) := by decide +kernel
theorem d_Life_isBesideFallenString_18 : decode M_Life_isBesideFallenString.2.1 18 = .ok (.iconst (-1), 1) := by decide +kernel
theorem d_Life_isBesideFallenString_19 : decode M_Life_isBesideFallenString.2.1 19 = .ok (.if_icmp .eq 23, 3) := by decide +kernel
theorem d_Life_isBesideFallenString_22 : decode M_Life_isBesideFallenString.2.1 22 = .ok (.aload_n 0, 1) := by decide +kernel
theorem d_Life_isBesideFallenString_23 : decode M_Life_isBesideFallenString.2.1 23 = .ok (.getfield 25, 3) := by decide +kernel
theorem d_Life_isBesideFallenString_26 : decode M_Life_isBesideFallenString.2.1 26 = .ok (.iload_n 3, 1) := by decide +kernel
theorem d_Life_isBesideFallenString_27 : decode M_Life_isBesideFallenString.2.1 27 = .ok (.iaload, 1) := by decide +kernel
theorem d_Life_isBesideFallenString_28 : decode M_Life_isBesideFallenString.2.1 28 = .ok (.iconst 1, 1) := by decide +kernel
theorem d_Life_isBesideFallenString_29 : decode M_Life_isBesideFallenString.2.1 29 = .ok (.if_icmp .ne 13, 3) := by decide +kernel
theorem d_Life_isBesideFallenString_32 : decode M_Life_isBesideFallenString.2.1 32 = .ok (.aload_n 0, 1) := by decide +kernel
theorem d_Life_isBesideFallenString_33 : decode M_Life_isBesideFallenString.2.1 33 = .ok (.iload_n 3, 1) := by decide +kernel
theorem d_Life_isBesideFallenString_34 : decode M_Life_isBesideFallenString.2.1 34 = .ok (.invokevirtual 107, 3) := by decide +kernel
theorem d_Life_isBesideFallenString_37 : decode M_Life_isBesideFallenString.2.1 37 = .ok (.ifCond .ne 5, 3) := by decide +kernel
theorem d_Life_isBesideFallenString_40 : decode M_Life_isBesideFallenString.2.1 40 = .ok (.iconst 1, 1) := by decide +kernel
theorem d_Life_isBesideFallenString_41 : decode M_Life_isBesideFallenString.2.1 41 = .ok (.ireturn, 1) := by decide +kernel
theorem d_Life_isBesideFallenString_42 : decode M_Life_isBesideFallenString.2.1 42 = .ok (.iinc 2 1, 3) := by decide +kernel
theorem d_Life_isBesideFallenString_45 : decode M_Life_isBesideFallenString.2.1 45 = .ok (.goto (-43), 3) := by decide +kernel
theorem d_Life_isBesideFallenString_48 : decode M_Life_isBesideFallenString.2.1 48 = .ok (.iconst 0, 1) := by decide +kernel
theorem d_Life_isBesideFallenString_49 : decode M_Life_isBesideFallenString.2.1 49 = .ok (.ireturn, 1) := by decide +kernel
theorem d_Life_standsAt_0 : decode M_Life_standsAt.2.1 0 = .ok (.aload_n 0, 1) := by decide +kernel
theorem d_Life_standsAt_1 : decode M_Life_standsAt.2.1 1 = .ok (.getfield 37, 3) := by decide +kernel
theorem d_Life_standsAt_4 : decode M_Life_standsAt.2.1 4 = .ok (.aload_n 0, 1) := by decide +kernel
theorem d_Life_standsAt_5 : decode M_Life_standsAt.2.1 5 = .ok (.getfield 33, 3) := by decide +kernel
theorem d_Life_standsAt_8 : decode M_Life_standsAt.2.1 8 = .ok (.iload_n 1, 1) := by decide +kernel
theorem d_Life_standsAt_9 : decode M_Life_standsAt.2.1 9 = .ok (.invokevirtual 63, 3) := by decide +kernel
theorem d_Life_standsAt_12 : decode M_Life_standsAt.2.1 12 = .ok (.baload, 1) := by decide +kernel
theorem d_Life_standsAt_13 : decode M_Life_standsAt.2.1 13 = .ok (.ireturn, 1) := by decide +kernel
theorem d_Life_countSafe_0 : decode M_Life_countSafe.2.1 0 = .ok (.iconst 0, 1) := by decide +kernel
theorem d_Life_countSafe_1 : decode M_Life_countSafe.2.1 1 = .ok (.istore_n 1, 1) := by decide +kernel
theorem d_Life_countSafe_2 : decode M_Life_countSafe.2.1 2 = .ok (.iconst 0, 1) := by decide +kernel
theorem d_Life_countSafe_3 : decode M_Life_countSafe.2.1 3 = .ok (.istore_n 2, 1) := by decide +kernel
theorem d_Life_countSafe_4 : decode M_Life_countSafe.2.1 4 = .ok (.iconst 0, 1) := by decide +kernel
theorem d_Life_countSafe_5 : decode M_Life_countSafe.2.1 5 = .ok (.istore_n 3, 1) := by decide +kernel
theorem d_Life_countSafe_6 : decode M_Life_countSafe.2.1 6 = .ok (.iload_n 3, 1) := by decide +kernel
theorem d_Life_countSafe_7 : decode M_Life_countSafe.2.1 7 = .ok (.aload_n 0, 1) := by decide +kernel
theorem d_Life_countSafe_8 : decode M_Life_countSafe.2.1 8 = .ok (.getfield 33, 3) := by decide +kernel
theorem d_Life_countSafe_11 : decode M_Life_countSafe.2.1 11 = .ok (.getfield 51, 3) := by decide +kernel
theorem d_Life_countSafe_14 : decode M_Life_countSafe.2.1 14 = .ok (.if_icmp .ge 48, 3) := by decide +kernel
theorem d_Life_countSafe_17 : decode M_Life_countSafe.2.1 17 = .ok (.aload_n 0, 1) := by decide +kernel
theorem d_Life_countSafe_18 : decode M_Life_countSafe.2.1 18 = .ok (.getfield 37, 3) := by decide +kernel
theorem d_Life_countSafe_21 : decode M_Life_countSafe.2.1 21 = .ok (.iload_n 3, 1) := by decide +kernel
theorem d_Life_countSafe_22 : decode M_Life_countSafe.2.1 22 = .ok (.baload, 1) := by decide +kernel
theorem d_Life_countSafe_23 : decode M_Life_countSafe.2.1 23 = .ok (.ifCond .eq 33, 3) := by decide +kernel
theorem d_Life_countSafe_26 : decode M_Life_countSafe.2.1 26 = .ok (.iload_n 1, 1) := by decide +kernel
theorem d_Life_countSafe_27 : decode M_Life_countSafe.2.1 27 = .ok (.ifCond .ne 12, 3) := by decide +kernel
theorem d_Life_countSafe_30 : decode M_Life_countSafe.2.1 30 = .ok (.aload_n 0, 1) := by decide +kernel
theorem d_Life_countSafe_31 : decode M_Life_countSafe.2.1 31 = .ok (.iload_n 3, 1) := by decide +kernel
theorem d_Life_countSafe_32 : decode M_Life_countSafe.2.1 32 = .ok (.invokevirtual 67, 3) := by decide +kernel
theorem d_Life_countSafe_35 : decode M_Life_countSafe.2.1 35 = .ok (.iconst 1, 1) := by decide +kernel
theorem d_Life_countSafe_36 : decode M_Life_countSafe.2.1 36 = .ok (.if_icmp .ne 7, 3) := by decide +kernel
theorem d_Life_countSafe_39 : decode M_Life_countSafe.2.1 39 = .ok (.iconst 1, 1) := by decide +kernel
theorem d_Life_countSafe_40 : decode M_Life_countSafe.2.1 40 = .ok (.goto 4, 3) := by decide +kernel
theorem d_Life_countSafe_43 : decode M_Life_countSafe.2.1 43 = .ok (.iconst 0, 1) := by decide +kernel
theorem d_Life_countSafe_44 : decode M_Life_countSafe.2.1 44 = .ok (.istore_n 1, 1) := by decide +kernel
theorem d_Life_countSafe_45 : decode M_Life_countSafe.2.1 45 = .ok (.iload_n 2, 1) := by decide +kernel
theorem d_Life_countSafe_46 : decode M_Life_countSafe.2.1 46 = .ok (.aload_n 0, 1) := by decide +kernel
theorem d_Life_countSafe_47 : decode M_Life_countSafe.2.1 47 = .ok (.getfield 33, 3) := by decide +kernel
theorem d_Life_countSafe_50 : decode M_Life_countSafe.2.1 50 = .ok (.iload_n 3, 1) := by decide +kernel
theorem d_Life_countSafe_51 : decode M_Life_countSafe.2.1 51 = .ok (.invokevirtual 70, 3) := by decide +kernel
theorem d_Life_countSafe_54 : decode M_Life_countSafe.2.1 54 = .ok (.iadd, 1) := by decide +kernel
theorem d_Life_countSafe_55 : decode M_Life_countSafe.2.1 55 = .ok (.istore_n 2, 1) := by decide +kernel
theorem d_Life_countSafe_56 : decode M_Life_countSafe.2.1 56 = .ok (.iinc 3 1, 3) := by decide +kernel
theorem d_Life_countSafe_59 : decode M_Life_countSafe.2.1 59 = .ok (.goto (-53), 3) := by decide +kernel
theorem d_Life_countSafe_62 : decode M_Life_countSafe.2.1 62 = .ok (.iload_n 1, 1) := by decide +kernel
theorem d_Life_countSafe_63 : decode M_Life_countSafe.2.1 63 = .ok (.ifCond .eq 7, 3) := by decide +kernel
theorem d_Life_countSafe_66 : decode M_Life_countSafe.2.1 66 = .ok (.iload_n 2, 1) := by decide +kernel
theorem d_Life_countSafe_67 : decode M_Life_countSafe.2.1 67 = .ok (.goto 4, 3) := by decide +kernel
theorem d_Life_countSafe_70 : decode M_Life_countSafe.2.1 70 = .ok (.iconst 0, 1) := by decide +kernel
theorem d_Life_countSafe_71 : decode M_Life_countSafe.2.1 71 = .ok (.ireturn, 1) := by decide +kernel
end
section
/-! Decode rows, printed. -/
theorem d_SB_init_0 : decode M_SB_init.2.1 0 = .ok (.aload_n 0, 1) := by decide +kernel
theorem d_SB_init_1 : decode M_SB_init.2.1 1 = .ok (.invokespecial 1, 3) := by decide +kernel
theorem d_SB_init_4 : decode M_SB_init.2.1 4 = .ok (.iconst 2, 1) := by decide +kernel
theorem d_SB_init_5 : decode M_SB_init.2.1 5 = .ok (.bipush 13, 2) := by decide +kernel
theorem d_SB_init_7 : decode M_SB_init.2.1 7 = .ok (.iload_n 1, 1) := by decide +kernel
theorem d_SB_init_8 : decode M_SB_init.2.1 8 = .ok (.invokestatic 9, 3) := by decide +kernel
theorem d_SB_init_11 : decode M_SB_init.2.1 11 = .ok (.invokestatic 15, 3) := by decide +kernel
theorem d_SB_init_14 : decode M_SB_init.2.1 14 = .ok (.istore_n 2, 1) := by decide +kernel
theorem d_SB_init_15 : decode M_SB_init.2.1 15 = .ok (.new 18, 3) := by decide +kernel
theorem d_SB_init_18 : decode M_SB_init.2.1 18 = .ok (.dup, 1) := by decide +kernel
theorem d_SB_init_19 : decode M_SB_init.2.1 19 = .ok (.iload_n 2, 1) := by decide +kernel
theorem d_SB_init_20 : decode M_SB_init.2.1 20 = .ok (.invokespecial 20, 3) := by decide +kernel
theorem d_SB_init_23 : decode M_SB_init.2.1 23 = .ok (.astore_n 3, 1) := by decide +kernel
theorem d_SB_init_24 : decode M_SB_init.2.1 24 = .ok (.aload_n 3, 1) := by decide +kernel
theorem d_SB_init_25 : decode M_SB_init.2.1 25 = .ok (.getfield 23, 3) := by decide +kernel
theorem d_SB_init_28 : decode M_SB_init.2.1 28 = .ok (.newarray .int, 2) := by decide +kernel
theorem d_SB_init_30 : decode M_SB_init.2.1 30 = .ok (.astore 4, 2) := by decide +kernel
theorem d_SB_init_32 : decode M_SB_init.2.1 32 = .ok (.aload_n 0, 1) := by decide +kernel
theorem d_SB_init_33 : decode M_SB_init.2.1 33 = .ok (.iload_n 2, 1) := by decide +kernel
theorem d_SB_init_34 : decode M_SB_init.2.1 34 = .ok (.putfield 27, 3) := by decide +kernel
theorem d_SB_init_37 : decode M_SB_init.2.1 37 = .ok (.aload_n 0, 1) := by decide +kernel
theorem d_SB_init_38 : decode M_SB_init.2.1 38 = .ok (.aload_n 3, 1) := by decide +kernel
theorem d_SB_init_39 : decode M_SB_init.2.1 39 = .ok (.putfield 30, 3) := by decide +kernel
theorem d_SB_init_42 : decode M_SB_init.2.1 42 = .ok (.aload_n 0, 1) := by decide +kernel
theorem d_SB_init_43 : decode M_SB_init.2.1 43 = .ok (.aload 4, 2) := by decide +kernel
theorem d_SB_init_45 : decode M_SB_init.2.1 45 = .ok (.putfield 34, 3) := by decide +kernel
theorem d_SB_init_48 : decode M_SB_init.2.1 48 = .ok (.aload_n 0, 1) := by decide +kernel
theorem d_SB_init_49 : decode M_SB_init.2.1 49 = .ok (.new 38, 3) := by decide +kernel
theorem d_SB_init_52 : decode M_SB_init.2.1 52 = .ok (.dup, 1) := by decide +kernel
theorem d_SB_init_53 : decode M_SB_init.2.1 53 = .ok (.aload_n 3, 1) := by decide +kernel
theorem d_SB_init_54 : decode M_SB_init.2.1 54 = .ok (.aload 4, 2) := by decide +kernel
theorem d_SB_init_56 : decode M_SB_init.2.1 56 = .ok (.invokespecial 40, 3) := by decide +kernel
theorem d_SB_init_59 : decode M_SB_init.2.1 59 = .ok (.putfield 43, 3) := by decide +kernel
theorem d_SB_init_62 : decode M_SB_init.2.1 62 = .ok (.aload_n 0, 1) := by decide +kernel
theorem d_SB_init_63 : decode M_SB_init.2.1 63 = .ok (.new 47, 3) := by decide +kernel
theorem d_SB_init_66 : decode M_SB_init.2.1 66 = .ok (.dup, 1) := by decide +kernel
theorem d_SB_init_67 : decode M_SB_init.2.1 67 = .ok (.aload_n 3, 1) := by decide +kernel
theorem d_SB_init_68 : decode M_SB_init.2.1 68 = .ok (.aload 4, 2) := by decide +kernel
theorem d_SB_init_70 : decode M_SB_init.2.1 70 = .ok (.aload_n 0, 1) := by decide +kernel
theorem d_SB_init_71 : decode M_SB_init.2.1 71 = .ok (.getfield 43, 3) := by decide +kernel
theorem d_SB_init_74 : decode M_SB_init.2.1 74 = .ok (.invokespecial 49, 3) := by decide +kernel
theorem d_SB_init_77 : decode M_SB_init.2.1 77 = .ok (.putfield 52, 3) := by decide +kernel
theorem d_SB_init_80 : decode M_SB_init.2.1 80 = .ok (.aload_n 0, 1) := by decide +kernel
theorem d_SB_init_81 : decode M_SB_init.2.1 81 = .ok (.new 56, 3) := by decide +kernel
theorem d_SB_init_84 : decode M_SB_init.2.1 84 = .ok (.dup, 1) := by decide +kernel
theorem d_SB_init_85 : decode M_SB_init.2.1 85 = .ok (.aload_n 3, 1) := by decide +kernel
theorem d_SB_init_86 : decode M_SB_init.2.1 86 = .ok (.getfield 23, 3) := by decide +kernel
theorem d_SB_init_89 : decode M_SB_init.2.1 89 = .ok (.invokespecial 58, 3) := by decide +kernel
theorem d_SB_init_92 : decode M_SB_init.2.1 92 = .ok (.putfield 59, 3) := by decide +kernel
theorem d_SB_init_95 : decode M_SB_init.2.1 95 = .ok (.aload_n 0, 1) := by decide +kernel
theorem d_SB_init_96 : decode M_SB_init.2.1 96 = .ok (.new 63, 3) := by decide +kernel
theorem d_SB_init_99 : decode M_SB_init.2.1 99 = .ok (.dup, 1) := by decide +kernel
theorem d_SB_init_100 : decode M_SB_init.2.1 100 = .ok (.aload_n 3, 1) := by decide +kernel
theorem d_SB_init_101 : decode M_SB_init.2.1 101 = .ok (.aload 4, 2) := by decide +kernel
theorem d_SB_init_103 : decode M_SB_init.2.1 103 = .ok (.invokespecial 65, 3) := by decide +kernel
theorem d_SB_init_106 : decode M_SB_init.2.1 106 = .ok (.putfield 66, 3) := by decide +kernel
theorem d_SB_init_109 : decode M_SB_init.2.1 109 = .ok (.aload_n 0, 1) := by decide +kernel
theorem d_SB_init_110 : decode M_SB_init.2.1 110 = .ok (.iconst 1, 1) := by decide +kernel
theorem d_SB_init_111 : decode M_SB_init.2.1 111 = .ok (.putfield 70, 3) := by decide +kernel
theorem d_SB_init_114 : decode M_SB_init.2.1 114 = .ok (.return_, 1) := by decide +kernel
theorem d_SB_otherSide_0 : decode M_SB_otherSide.2.1 0 = .ok (.iconst 3, 1) := by decide +kernel
theorem d_SB_otherSide_1 : decode M_SB_otherSide.2.1 1 = .ok (.iload_n 0, 1) := by decide +kernel
theorem d_SB_otherSide_2 : decode M_SB_otherSide.2.1 2 = .ok (.isub, 1) := by decide +kernel
theorem d_SB_otherSide_3 : decode M_SB_otherSide.2.1 3 = .ok (.ireturn, 1) := by decide +kernel
theorem d_SB_size_0 : decode M_SB_size.2.1 0 = .ok (.aload_n 0, 1) := by decide +kernel
theorem d_SB_size_1 : decode M_SB_size.2.1 1 = .ok (.getfield 27, 3) := by decide +kernel
theorem d_SB_size_4 : decode M_SB_size.2.1 4 = .ok (.ireturn, 1) := by decide +kernel
theorem d_SB_turn_0 : decode M_SB_turn.2.1 0 = .ok (.aload_n 0, 1) := by decide +kernel
theorem d_SB_turn_1 : decode M_SB_turn.2.1 1 = .ok (.getfield 59, 3) := by decide +kernel
theorem d_SB_turn_4 : decode M_SB_turn.2.1 4 = .ok (.getfield 96, 3) := by decide +kernel
theorem d_SB_turn_7 : decode M_SB_turn.2.1 7 = .ok (.getfield 100, 3) := by decide +kernel
theorem d_SB_turn_10 : decode M_SB_turn.2.1 10 = .ok (.iconst 2, 1) := by decide +kernel
theorem d_SB_turn_11 : decode M_SB_turn.2.1 11 = .ok (.irem, 1) := by decide +kernel
theorem d_SB_turn_12 : decode M_SB_turn.2.1 12 = .ok (.ifCond .ne 10, 3) := by decide +kernel
theorem d_SB_turn_15 : decode M_SB_turn.2.1 15 = .ok (.aload_n 0, 1) := by decide +kernel
theorem d_SB_turn_16 : decode M_SB_turn.2.1 16 = .ok (.getfield 70, 3) := by decide +kernel
theorem d_SB_turn_19 : decode M_SB_turn.2.1 19 = .ok (.goto 10, 3) := by decide +kernel
theorem d_SB_turn_22 : decode M_SB_turn.2.1 22 = .ok (.aload_n 0, 1) := by decide +kernel
theorem d_SB_turn_23 : decode M_SB_turn.2.1 23 = .ok (.getfield 70, 3) := by decide +kernel
theorem d_SB_turn_26 : decode M_SB_turn.2.1 26 = .ok (.invokestatic 105, 3) := by decide +kernel
theorem d_SB_turn_29 : decode M_SB_turn.2.1 29 = .ok (.ireturn, 1) := by decide +kernel
theorem d_SB_allowed_0 : decode M_SB_allowed.2.1 0 = .ok (.iconst 0, 1) := by decide +kernel
theorem d_SB_allowed_1 : decode M_SB_allowed.2.1 1 = .ok (.istore_n 1, 1) := by decide +kernel
theorem d_SB_allowed_2 : decode M_SB_allowed.2.1 2 = .ok (.iconst 0, 1) := by decide +kernel
theorem d_SB_allowed_3 : decode M_SB_allowed.2.1 3 = .ok (.istore_n 2, 1) := by decide +kernel
theorem d_SB_allowed_4 : decode M_SB_allowed.2.1 4 = .ok (.iload_n 2, 1) := by decide +kernel
theorem d_SB_allowed_5 : decode M_SB_allowed.2.1 5 = .ok (.aload_n 0, 1) := by decide +kernel
theorem d_SB_allowed_6 : decode M_SB_allowed.2.1 6 = .ok (.getfield 30, 3) := by decide +kernel
theorem d_SB_allowed_9 : decode M_SB_allowed.2.1 9 = .ok (.getfield 23, 3) := by decide +kernel
theorem d_SB_allowed_12 : decode M_SB_allowed.2.1 12 = .ok (.if_icmp .ge 20, 3) := by decide +kernel
theorem d_SB_allowed_15 : decode M_SB_allowed.2.1 15 = .ok (.aload_n 0, 1) := by decide +kernel
theorem d_SB_allowed_16 : decode M_SB_allowed.2.1 16 = .ok (.iload_n 2, 1) := by decide +kernel
theorem d_SB_allowed_17 : decode M_SB_allowed.2.1 17 = .ok (.invokevirtual 112, 3) := by decide +kernel
theorem d_SB_allowed_20 : decode M_SB_allowed.2.1 20 = .ok (.ifCond .ne 6, 3) := by decide +kernel
theorem d_SB_allowed_23 : decode M_SB_allowed.2.1 23 = .ok (.iinc 1 1, 3) := by decide +kernel
theorem d_SB_allowed_26 : decode M_SB_allowed.2.1 26 = .ok (.iinc 2 1, 3) := by decide +kernel
theorem d_SB_allowed_29 : decode M_SB_allowed.2.1 29 = .ok (.goto (-25), 3) := by decide +kernel
theorem d_SB_allowed_32 : decode M_SB_allowed.2.1 32 = .ok (.iload_n 1, 1) := by decide +kernel
theorem d_SB_allowed_33 : decode M_SB_allowed.2.1 33 = .ok (.ireturn, 1) := by decide +kernel
theorem d_SB_judgeMove_0 : decode M_SB_judgeMove.2.1 0 = .ok (.aload_n 0, 1) := by decide +kernel
theorem d_SB_judgeMove_1 : decode M_SB_judgeMove.2.1 1 = .ok (.getfield 59, 3) := by decide +kernel
theorem d_SB_judgeMove_4 : decode M_SB_judgeMove.2.1 4 = .ok (.invokevirtual 135, 3) := by decide +kernel
theorem d_SB_judgeMove_7 : decode M_SB_judgeMove.2.1 7 = .ok (.ifCond .eq 5, 3) := by decide +kernel
theorem d_SB_judgeMove_10 : decode M_SB_judgeMove.2.1 10 = .ok (.iconst 1, 1) := by decide +kernel
theorem d_SB_judgeMove_11 : decode M_SB_judgeMove.2.1 11 = .ok (.ireturn, 1) := by decide +kernel
theorem d_SB_judgeMove_12 : decode M_SB_judgeMove.2.1 12 = .ok (.aload_n 0, 1) := by decide +kernel
theorem d_SB_judgeMove_13 : decode M_SB_judgeMove.2.1 13 = .ok (.getfield 34, 3) := by decide +kernel
theorem d_SB_judgeMove_16 : decode M_SB_judgeMove.2.1 16 = .ok (.iload_n 1, 1) := by decide +kernel
theorem d_SB_judgeMove_17 : decode M_SB_judgeMove.2.1 17 = .ok (.iaload, 1) := by decide +kernel
theorem d_SB_judgeMove_18 : decode M_SB_judgeMove.2.1 18 = .ok (.ifCond .eq 5, 3) := by decide +kernel
theorem d_SB_judgeMove_21 : decode M_SB_judgeMove.2.1 21 = .ok (.iconst 2, 1) := by decide +kernel
theorem d_SB_judgeMove_22 : decode M_SB_judgeMove.2.1 22 = .ok (.ireturn, 1) := by decide +kernel
theorem d_SB_judgeMove_23 : decode M_SB_judgeMove.2.1 23 = .ok (.aload_n 0, 1) := by decide +kernel
theorem d_SB_judgeMove_24 : decode M_SB_judgeMove.2.1 24 = .ok (.iload_n 1, 1) := by decide +kernel
theorem d_SB_judgeMove_25 : decode M_SB_judgeMove.2.1 25 = .ok (.invokevirtual 200, 3) := by decide +kernel
theorem d_SB_judgeMove_28 : decode M_SB_judgeMove.2.1 28 = .ok (.ifnonnull 7, 3) := by decide +kernel
theorem d_SB_judgeMove_31 : decode M_SB_judgeMove.2.1 31 = .ok (.iconst 0, 1) := by decide +kernel
theorem d_SB_judgeMove_32 : decode M_SB_judgeMove.2.1 32 = .ok (.goto 4, 3) := by decide +kernel
theorem d_SB_judgeMove_35 : decode M_SB_judgeMove.2.1 35 = .ok (.iconst 3, 1) := by decide +kernel
theorem d_SB_judgeMove_36 : decode M_SB_judgeMove.2.1 36 = .ok (.ireturn, 1) := by decide +kernel
theorem d_SB_findBoardBehind_0 : decode M_SB_findBoardBehind.2.1 0 = .ok (.aload_n 0, 1) := by decide +kernel
theorem d_SB_findBoardBehind_1 : decode M_SB_findBoardBehind.2.1 1 = .ok (.getfield 52, 3) := by decide +kernel
theorem d_SB_findBoardBehind_4 : decode M_SB_findBoardBehind.2.1 4 = .ok (.aload_n 0, 1) := by decide +kernel
theorem d_SB_findBoardBehind_5 : decode M_SB_findBoardBehind.2.1 5 = .ok (.getfield 59, 3) := by decide +kernel
theorem d_SB_findBoardBehind_8 : decode M_SB_findBoardBehind.2.1 8 = .ok (.getfield 96, 3) := by decide +kernel
theorem d_SB_findBoardBehind_11 : decode M_SB_findBoardBehind.2.1 11 = .ok (.getfield 204, 3) := by decide +kernel
theorem d_SB_findBoardBehind_14 : decode M_SB_findBoardBehind.2.1 14 = .ok (.iload_n 1, 1) := by decide +kernel
theorem d_SB_findBoardBehind_15 : decode M_SB_findBoardBehind.2.1 15 = .ok (.aload_n 0, 1) := by decide +kernel
theorem d_SB_findBoardBehind_16 : decode M_SB_findBoardBehind.2.1 16 = .ok (.invokevirtual 205, 3) := by decide +kernel
theorem d_SB_findBoardBehind_19 : decode M_SB_findBoardBehind.2.1 19 = .ok (.invokevirtual 208, 3) := by decide +kernel
theorem d_SB_findBoardBehind_22 : decode M_SB_findBoardBehind.2.1 22 = .ok (.aload_n 0, 1) := by decide +kernel
theorem d_SB_findBoardBehind_23 : decode M_SB_findBoardBehind.2.1 23 = .ok (.getfield 59, 3) := by decide +kernel
theorem d_SB_findBoardBehind_26 : decode M_SB_findBoardBehind.2.1 26 = .ok (.aload_n 0, 1) := by decide +kernel
theorem d_SB_findBoardBehind_27 : decode M_SB_findBoardBehind.2.1 27 = .ok (.getfield 52, 3) := by decide +kernel
theorem d_SB_findBoardBehind_30 : decode M_SB_findBoardBehind.2.1 30 = .ok (.getfield 118, 3) := by decide +kernel
theorem d_SB_findBoardBehind_33 : decode M_SB_findBoardBehind.2.1 33 = .ok (.invokevirtual 212, 3) := by decide +kernel
theorem d_SB_findBoardBehind_36 : decode M_SB_findBoardBehind.2.1 36 = .ok (.areturn, 1) := by decide +kernel
theorem d_SB_moves_0 : decode M_SB_moves.2.1 0 = .ok (.aload_n 0, 1) := by decide +kernel
theorem d_SB_moves_1 : decode M_SB_moves.2.1 1 = .ok (.getfield 59, 3) := by decide +kernel
theorem d_SB_moves_4 : decode M_SB_moves.2.1 4 = .ok (.getfield 96, 3) := by decide +kernel
theorem d_SB_moves_7 : decode M_SB_moves.2.1 7 = .ok (.getfield 100, 3) := by decide +kernel
theorem d_SB_moves_10 : decode M_SB_moves.2.1 10 = .ok (.ireturn, 1) := by decide +kernel
theorem d_SB_at_0 : decode M_SB_at.2.1 0 = .ok (.aload_n 0, 1) := by decide +kernel
theorem d_SB_at_1 : decode M_SB_at.2.1 1 = .ok (.iload_n 1, 1) := by decide +kernel
theorem d_SB_at_2 : decode M_SB_at.2.1 2 = .ok (.invokevirtual 73, 3) := by decide +kernel
theorem d_SB_at_5 : decode M_SB_at.2.1 5 = .ok (.aload_n 0, 1) := by decide +kernel
theorem d_SB_at_6 : decode M_SB_at.2.1 6 = .ok (.getfield 34, 3) := by decide +kernel
theorem d_SB_at_9 : decode M_SB_at.2.1 9 = .ok (.iload_n 1, 1) := by decide +kernel
theorem d_SB_at_10 : decode M_SB_at.2.1 10 = .ok (.iaload, 1) := by decide +kernel
theorem d_SB_at_11 : decode M_SB_at.2.1 11 = .ok (.ireturn, 1) := by decide +kernel
theorem d_SB_checkPoint_0 : decode M_SB_checkPoint.2.1 0 = .ok (.iload_n 1, 1) := by decide +kernel
theorem d_SB_checkPoint_1 : decode M_SB_checkPoint.2.1 1 = .ok (.ifCond .lt 14, 3) := by decide +kernel
theorem d_SB_checkPoint_4 : decode M_SB_checkPoint.2.1 4 = .ok (.iload_n 1, 1) := by decide +kernel
theorem d_SB_checkPoint_5 : decode M_SB_checkPoint.2.1 5 = .ok (.aload_n 0, 1) := by decide +kernel
theorem d_SB_checkPoint_6 : decode M_SB_checkPoint.2.1 6 = .ok (.getfield 30, 3) := by decide +kernel
theorem d_SB_checkPoint_9 : decode M_SB_checkPoint.2.1 9 = .ok (.getfield 23, 3) := by decide +kernel
theorem d_SB_checkPoint_12 : decode M_SB_checkPoint.2.1 12 = .ok (.if_icmp .lt 11, 3) := by decide +kernel
theorem d_SB_checkPoint_15 : decode M_SB_checkPoint.2.1 15 = .ok (.new 144, 3) := by decide +kernel
theorem d_SB_checkPoint_18 : decode M_SB_checkPoint.2.1 18 = .ok (.dup, 1) := by decide +kernel
theorem d_SB_checkPoint_19 : decode M_SB_checkPoint.2.1 19 = .ok (.invokespecial 146, 3) := by decide +kernel
theorem d_SB_checkPoint_22 : decode M_SB_checkPoint.2.1 22 = .ok (.athrow, 1) := by decide +kernel
theorem d_SB_checkPoint_23 : decode M_SB_checkPoint.2.1 23 = .ok (.return_, 1) := by decide +kernel
theorem d_SB_put_0 : decode M_SB_put.2.1 0 = .ok (.aload_n 0, 1) := by decide +kernel
theorem d_SB_put_1 : decode M_SB_put.2.1 1 = .ok (.iload_n 1, 1) := by decide +kernel
theorem d_SB_put_2 : decode M_SB_put.2.1 2 = .ok (.invokevirtual 73, 3) := by decide +kernel
theorem d_SB_put_5 : decode M_SB_put.2.1 5 = .ok (.iload_n 2, 1) := by decide +kernel
theorem d_SB_put_6 : decode M_SB_put.2.1 6 = .ok (.invokestatic 76, 3) := by decide +kernel
theorem d_SB_put_9 : decode M_SB_put.2.1 9 = .ok (.aload_n 0, 1) := by decide +kernel
theorem d_SB_put_10 : decode M_SB_put.2.1 10 = .ok (.invokevirtual 79, 3) := by decide +kernel
theorem d_SB_put_13 : decode M_SB_put.2.1 13 = .ok (.aload_n 0, 1) := by decide +kernel
theorem d_SB_put_14 : decode M_SB_put.2.1 14 = .ok (.getfield 34, 3) := by decide +kernel
theorem d_SB_put_17 : decode M_SB_put.2.1 17 = .ok (.iload_n 1, 1) := by decide +kernel
theorem d_SB_put_18 : decode M_SB_put.2.1 18 = .ok (.iaload, 1) := by decide +kernel
theorem d_SB_put_19 : decode M_SB_put.2.1 19 = .ok (.istore_n 3, 1) := by decide +kernel
theorem d_SB_put_20 : decode M_SB_put.2.1 20 = .ok (.aload_n 0, 1) := by decide +kernel
theorem d_SB_put_21 : decode M_SB_put.2.1 21 = .ok (.getfield 34, 3) := by decide +kernel
theorem d_SB_put_24 : decode M_SB_put.2.1 24 = .ok (.iload_n 1, 1) := by decide +kernel
theorem d_SB_put_25 : decode M_SB_put.2.1 25 = .ok (.iload_n 2, 1) := by decide +kernel
theorem d_SB_put_26 : decode M_SB_put.2.1 26 = .ok (.iastore, 1) := by decide +kernel
theorem d_SB_put_27 : decode M_SB_put.2.1 27 = .ok (.aload_n 0, 1) := by decide +kernel
theorem d_SB_put_28 : decode M_SB_put.2.1 28 = .ok (.getfield 43, 3) := by decide +kernel
theorem d_SB_put_31 : decode M_SB_put.2.1 31 = .ok (.invokevirtual 82, 3) := by decide +kernel
theorem d_SB_put_34 : decode M_SB_put.2.1 34 = .ok (.aload_n 0, 1) := by decide +kernel
theorem d_SB_put_35 : decode M_SB_put.2.1 35 = .ok (.getfield 43, 3) := by decide +kernel
theorem d_SB_put_38 : decode M_SB_put.2.1 38 = .ok (.invokevirtual 85, 3) := by decide +kernel
theorem d_SB_put_41 : decode M_SB_put.2.1 41 = .ok (.ifCond .eq 19, 3) := by decide +kernel
theorem d_SB_put_44 : decode M_SB_put.2.1 44 = .ok (.aload_n 0, 1) := by decide +kernel
theorem d_SB_put_45 : decode M_SB_put.2.1 45 = .ok (.getfield 34, 3) := by decide +kernel
theorem d_SB_put_48 : decode M_SB_put.2.1 48 = .ok (.iload_n 1, 1) := by decide +kernel
theorem d_SB_put_49 : decode M_SB_put.2.1 49 = .ok (.iload_n 3, 1) := by decide +kernel
theorem d_SB_put_50 : decode M_SB_put.2.1 50 = .ok (.iastore, 1) := by decide +kernel
theorem d_SB_put_51 : decode M_SB_put.2.1 51 = .ok (.aload_n 0, 1) := by decide +kernel
theorem d_SB_put_52 : decode M_SB_put.2.1 52 = .ok (.getfield 43, 3) := by decide +kernel
theorem d_SB_put_55 : decode M_SB_put.2.1 55 = .ok (.invokevirtual 82, 3) := by decide +kernel
theorem d_SB_put_58 : decode M_SB_put.2.1 58 = .ok (.iconst 0, 1) := by decide +kernel
theorem d_SB_put_59 : decode M_SB_put.2.1 59 = .ok (.ireturn, 1) := by decide +kernel
theorem d_SB_put_60 : decode M_SB_put.2.1 60 = .ok (.aload_n 0, 1) := by decide +kernel
theorem d_SB_put_61 : decode M_SB_put.2.1 61 = .ok (.getfield 59, 3) := by decide +kernel
theorem d_SB_put_64 : decode M_SB_put.2.1 64 = .ok (.iload_n 1, 1) := by decide +kernel
theorem d_SB_put_65 : decode M_SB_put.2.1 65 = .ok (.iload_n 2, 1) := by decide +kernel
theorem d_SB_put_66 : decode M_SB_put.2.1 66 = .ok (.invokevirtual 89, 3) := by decide +kernel
theorem d_SB_put_69 : decode M_SB_put.2.1 69 = .ok (.iconst 1, 1) := by decide +kernel
theorem d_SB_put_70 : decode M_SB_put.2.1 70 = .ok (.ireturn, 1) := by decide +kernel
theorem d_SB_checkKind_0 : decode M_SB_checkKind.2.1 0 = .ok (.iload_n 0, 1) := by decide +kernel
theorem d_SB_checkKind_1 : decode M_SB_checkKind.2.1 1 = .ok (.ifCond .lt 8, 3) := by decide +kernel
theorem d_SB_checkKind_4 : decode M_SB_checkKind.2.1 4 = .ok (.iload_n 0, 1) := by decide +kernel
theorem d_SB_checkKind_5 : decode M_SB_checkKind.2.1 5 = .ok (.iconst 2, 1) := by decide +kernel
theorem d_SB_checkKind_6 : decode M_SB_checkKind.2.1 6 = .ok (.if_icmp .le 11, 3) := by decide +kernel
theorem d_SB_checkKind_9 : decode M_SB_checkKind.2.1 9 = .ok (.new 156, 3) := by decide +kernel
theorem d_SB_checkKind_12 : decode M_SB_checkKind.2.1 12 = .ok (.dup, 1) := by decide +kernel
theorem d_SB_checkKind_13 : decode M_SB_checkKind.2.1 13 = .ok (.invokespecial 158, 3) := by decide +kernel
theorem d_SB_checkKind_16 : decode M_SB_checkKind.2.1 16 = .ok (.athrow, 1) := by decide +kernel
theorem d_SB_checkKind_17 : decode M_SB_checkKind.2.1 17 = .ok (.return_, 1) := by decide +kernel
theorem d_SB_checkNoMoveYet_0 : decode M_SB_checkNoMoveYet.2.1 0 = .ok (.aload_n 0, 1) := by decide +kernel
theorem d_SB_checkNoMoveYet_1 : decode M_SB_checkNoMoveYet.2.1 1 = .ok (.getfield 59, 3) := by decide +kernel
theorem d_SB_checkNoMoveYet_4 : decode M_SB_checkNoMoveYet.2.1 4 = .ok (.getfield 96, 3) := by decide +kernel
theorem d_SB_checkNoMoveYet_7 : decode M_SB_checkNoMoveYet.2.1 7 = .ok (.getfield 100, 3) := by decide +kernel
theorem d_SB_checkNoMoveYet_10 : decode M_SB_checkNoMoveYet.2.1 10 = .ok (.ifCond .eq 11, 3) := by decide +kernel
theorem d_SB_checkNoMoveYet_13 : decode M_SB_checkNoMoveYet.2.1 13 = .ok (.new 115, 3) := by decide +kernel
theorem d_SB_checkNoMoveYet_16 : decode M_SB_checkNoMoveYet.2.1 16 = .ok (.dup, 1) := by decide +kernel
theorem d_SB_checkNoMoveYet_17 : decode M_SB_checkNoMoveYet.2.1 17 = .ok (.invokespecial 117, 3) := by decide +kernel
theorem d_SB_checkNoMoveYet_20 : decode M_SB_checkNoMoveYet.2.1 20 = .ok (.athrow, 1) := by decide +kernel
theorem d_SB_checkNoMoveYet_21 : decode M_SB_checkNoMoveYet.2.1 21 = .ok (.return_, 1) := by decide +kernel
theorem d_SB_first_0 : decode M_SB_first.2.1 0 = .ok (.iload_n 1, 1) := by decide +kernel
theorem d_SB_first_1 : decode M_SB_first.2.1 1 = .ok (.invokestatic 93, 3) := by decide +kernel
theorem d_SB_first_4 : decode M_SB_first.2.1 4 = .ok (.aload_n 0, 1) := by decide +kernel
theorem d_SB_first_5 : decode M_SB_first.2.1 5 = .ok (.invokevirtual 79, 3) := by decide +kernel
theorem d_SB_first_8 : decode M_SB_first.2.1 8 = .ok (.aload_n 0, 1) := by decide +kernel
theorem d_SB_first_9 : decode M_SB_first.2.1 9 = .ok (.iload_n 1, 1) := by decide +kernel
theorem d_SB_first_10 : decode M_SB_first.2.1 10 = .ok (.putfield 70, 3) := by decide +kernel
theorem d_SB_first_13 : decode M_SB_first.2.1 13 = .ok (.return_, 1) := by decide +kernel
theorem d_SB_checkSide_0 : decode M_SB_checkSide.2.1 0 = .ok (.iload_n 0, 1) := by decide +kernel
theorem d_SB_checkSide_1 : decode M_SB_checkSide.2.1 1 = .ok (.iconst 1, 1) := by decide +kernel
theorem d_SB_checkSide_2 : decode M_SB_checkSide.2.1 2 = .ok (.if_icmp .eq 16, 3) := by decide +kernel
theorem d_SB_checkSide_5 : decode M_SB_checkSide.2.1 5 = .ok (.iload_n 0, 1) := by decide +kernel
theorem d_SB_checkSide_6 : decode M_SB_checkSide.2.1 6 = .ok (.iconst 2, 1) := by decide +kernel
theorem d_SB_checkSide_7 : decode M_SB_checkSide.2.1 7 = .ok (.if_icmp .eq 11, 3) := by decide +kernel
theorem d_SB_checkSide_10 : decode M_SB_checkSide.2.1 10 = .ok (.new 156, 3) := by decide +kernel
theorem d_SB_checkSide_13 : decode M_SB_checkSide.2.1 13 = .ok (.dup, 1) := by decide +kernel
theorem d_SB_checkSide_14 : decode M_SB_checkSide.2.1 14 = .ok (.invokespecial 158, 3) := by decide +kernel
theorem d_SB_checkSide_17 : decode M_SB_checkSide.2.1 17 = .ok (.athrow, 1) := by decide +kernel
theorem d_SB_checkSide_18 : decode M_SB_checkSide.2.1 18 = .ok (.return_, 1) := by decide +kernel
theorem d_SB_play_0 : decode M_SB_play.2.1 0 = .ok (.aload_n 0, 1) := by decide +kernel
theorem d_SB_play_1 : decode M_SB_play.2.1 1 = .ok (.iload_n 1, 1) := by decide +kernel
theorem d_SB_play_2 : decode M_SB_play.2.1 2 = .ok (.invokevirtual 73, 3) := by decide +kernel
theorem d_SB_play_5 : decode M_SB_play.2.1 5 = .ok (.aload_n 0, 1) := by decide +kernel
theorem d_SB_play_6 : decode M_SB_play.2.1 6 = .ok (.invokevirtual 109, 3) := by decide +kernel
theorem d_SB_play_9 : decode M_SB_play.2.1 9 = .ok (.aload_n 0, 1) := by decide +kernel
theorem d_SB_play_10 : decode M_SB_play.2.1 10 = .ok (.iload_n 1, 1) := by decide +kernel
theorem d_SB_play_11 : decode M_SB_play.2.1 11 = .ok (.invokevirtual 112, 3) := by decide +kernel
theorem d_SB_play_14 : decode M_SB_play.2.1 14 = .ok (.ifCond .eq 11, 3) := by decide +kernel
theorem d_SB_play_17 : decode M_SB_play.2.1 17 = .ok (.new 115, 3) := by decide +kernel
theorem d_SB_play_20 : decode M_SB_play.2.1 20 = .ok (.dup, 1) := by decide +kernel
theorem d_SB_play_21 : decode M_SB_play.2.1 21 = .ok (.invokespecial 117, 3) := by decide +kernel
theorem d_SB_play_24 : decode M_SB_play.2.1 24 = .ok (.athrow, 1) := by decide +kernel
theorem d_SB_play_25 : decode M_SB_play.2.1 25 = .ok (.aload_n 0, 1) := by decide +kernel
theorem d_SB_play_26 : decode M_SB_play.2.1 26 = .ok (.getfield 59, 3) := by decide +kernel
theorem d_SB_play_29 : decode M_SB_play.2.1 29 = .ok (.iload_n 1, 1) := by decide +kernel
theorem d_SB_play_30 : decode M_SB_play.2.1 30 = .ok (.aload_n 0, 1) := by decide +kernel
theorem d_SB_play_31 : decode M_SB_play.2.1 31 = .ok (.getfield 52, 3) := by decide +kernel
theorem d_SB_play_34 : decode M_SB_play.2.1 34 = .ok (.getfield 118, 3) := by decide +kernel
theorem d_SB_play_37 : decode M_SB_play.2.1 37 = .ok (.aload_n 0, 1) := by decide +kernel
theorem d_SB_play_38 : decode M_SB_play.2.1 38 = .ok (.getfield 52, 3) := by decide +kernel
theorem d_SB_play_41 : decode M_SB_play.2.1 41 = .ok (.getfield 122, 3) := by decide +kernel
theorem d_SB_play_44 : decode M_SB_play.2.1 44 = .ok (.aload_n 0, 1) := by decide +kernel
theorem d_SB_play_45 : decode M_SB_play.2.1 45 = .ok (.getfield 52, 3) := by decide +kernel
theorem d_SB_play_48 : decode M_SB_play.2.1 48 = .ok (.getfield 125, 3) := by decide +kernel
theorem d_SB_play_51 : decode M_SB_play.2.1 51 = .ok (.invokevirtual 128, 3) := by decide +kernel
theorem d_SB_play_54 : decode M_SB_play.2.1 54 = .ok (.aload_n 0, 1) := by decide +kernel
theorem d_SB_play_55 : decode M_SB_play.2.1 55 = .ok (.invokevirtual 132, 3) := by decide +kernel
theorem d_SB_play_58 : decode M_SB_play.2.1 58 = .ok (.aload_n 0, 1) := by decide +kernel
theorem d_SB_play_59 : decode M_SB_play.2.1 59 = .ok (.getfield 52, 3) := by decide +kernel
theorem d_SB_play_62 : decode M_SB_play.2.1 62 = .ok (.getfield 125, 3) := by decide +kernel
theorem d_SB_play_65 : decode M_SB_play.2.1 65 = .ok (.ireturn, 1) := by decide +kernel
theorem d_SB_checkRoomForMove_0 : decode M_SB_checkRoomForMove.2.1 0 = .ok (.aload_n 0, 1) := by decide +kernel
theorem d_SB_checkRoomForMove_1 : decode M_SB_checkRoomForMove.2.1 1 = .ok (.getfield 59, 3) := by decide +kernel
theorem d_SB_checkRoomForMove_4 : decode M_SB_checkRoomForMove.2.1 4 = .ok (.getfield 96, 3) := by decide +kernel
theorem d_SB_checkRoomForMove_7 : decode M_SB_checkRoomForMove.2.1 7 = .ok (.getfield 100, 3) := by decide +kernel
theorem d_SB_checkRoomForMove_10 : decode M_SB_checkRoomForMove.2.1 10 = .ok (.sipush 1000, 3) := by decide +kernel
theorem d_SB_checkRoomForMove_13 : decode M_SB_checkRoomForMove.2.1 13 = .ok (.if_icmp .lt 11, 3) := by decide +kernel
theorem d_SB_checkRoomForMove_16 : decode M_SB_checkRoomForMove.2.1 16 = .ok (.new 115, 3) := by decide +kernel
theorem d_SB_checkRoomForMove_19 : decode M_SB_checkRoomForMove.2.1 19 = .ok (.dup, 1) := by decide +kernel
theorem d_SB_checkRoomForMove_20 : decode M_SB_checkRoomForMove.2.1 20 = .ok (.invokespecial 117, 3) := by decide +kernel
theorem d_SB_checkRoomForMove_23 : decode M_SB_checkRoomForMove.2.1 23 = .ok (.athrow, 1) := by decide +kernel
theorem d_SB_checkRoomForMove_24 : decode M_SB_checkRoomForMove.2.1 24 = .ok (.return_, 1) := by decide +kernel
theorem d_SB_showLatestBoard_0 : decode M_SB_showLatestBoard.2.1 0 = .ok (.aload_n 0, 1) := by decide +kernel
theorem d_SB_showLatestBoard_1 : decode M_SB_showLatestBoard.2.1 1 = .ok (.getfield 59, 3) := by decide +kernel
theorem d_SB_showLatestBoard_4 : decode M_SB_showLatestBoard.2.1 4 = .ok (.getfield 96, 3) := by decide +kernel
theorem d_SB_showLatestBoard_7 : decode M_SB_showLatestBoard.2.1 7 = .ok (.getfield 204, 3) := by decide +kernel
theorem d_SB_showLatestBoard_10 : decode M_SB_showLatestBoard.2.1 10 = .ok (.aload_n 0, 1) := by decide +kernel
theorem d_SB_showLatestBoard_11 : decode M_SB_showLatestBoard.2.1 11 = .ok (.getfield 34, 3) := by decide +kernel
theorem d_SB_showLatestBoard_14 : decode M_SB_showLatestBoard.2.1 14 = .ok (.invokestatic 216, 3) := by decide +kernel
theorem d_SB_showLatestBoard_17 : decode M_SB_showLatestBoard.2.1 17 = .ok (.aload_n 0, 1) := by decide +kernel
theorem d_SB_showLatestBoard_18 : decode M_SB_showLatestBoard.2.1 18 = .ok (.getfield 43, 3) := by decide +kernel
theorem d_SB_showLatestBoard_21 : decode M_SB_showLatestBoard.2.1 21 = .ok (.invokevirtual 82, 3) := by decide +kernel
theorem d_SB_showLatestBoard_24 : decode M_SB_showLatestBoard.2.1 24 = .ok (.return_, 1) := by decide +kernel
theorem d_SB_why_0 : decode M_SB_why.2.1 0 = .ok (.aload_n 0, 1) := by decide +kernel
theorem d_SB_why_1 : decode M_SB_why.2.1 1 = .ok (.iload_n 1, 1) := by decide +kernel
theorem d_SB_why_2 : decode M_SB_why.2.1 2 = .ok (.invokevirtual 73, 3) := by decide +kernel
theorem d_SB_why_5 : decode M_SB_why.2.1 5 = .ok (.aload_n 0, 1) := by decide +kernel
theorem d_SB_why_6 : decode M_SB_why.2.1 6 = .ok (.iload_n 1, 1) := by decide +kernel
theorem d_SB_why_7 : decode M_SB_why.2.1 7 = .ok (.invokevirtual 112, 3) := by decide +kernel
theorem d_SB_why_10 : decode M_SB_why.2.1 10 = .ok (.ireturn, 1) := by decide +kernel
theorem d_SB_pass_0 : decode M_SB_pass.2.1 0 = .ok (.aload_n 0, 1) := by decide +kernel
theorem d_SB_pass_1 : decode M_SB_pass.2.1 1 = .ok (.invokevirtual 109, 3) := by decide +kernel
theorem d_SB_pass_4 : decode M_SB_pass.2.1 4 = .ok (.aload_n 0, 1) := by decide +kernel
theorem d_SB_pass_5 : decode M_SB_pass.2.1 5 = .ok (.getfield 59, 3) := by decide +kernel
theorem d_SB_pass_8 : decode M_SB_pass.2.1 8 = .ok (.invokevirtual 135, 3) := by decide +kernel
theorem d_SB_pass_11 : decode M_SB_pass.2.1 11 = .ok (.ifCond .eq 11, 3) := by decide +kernel
theorem d_SB_pass_14 : decode M_SB_pass.2.1 14 = .ok (.new 115, 3) := by decide +kernel
theorem d_SB_pass_17 : decode M_SB_pass.2.1 17 = .ok (.dup, 1) := by decide +kernel
theorem d_SB_pass_18 : decode M_SB_pass.2.1 18 = .ok (.invokespecial 117, 3) := by decide +kernel
theorem d_SB_pass_21 : decode M_SB_pass.2.1 21 = .ok (.athrow, 1) := by decide +kernel
theorem d_SB_pass_22 : decode M_SB_pass.2.1 22 = .ok (.aload_n 0, 1) := by decide +kernel
theorem d_SB_pass_23 : decode M_SB_pass.2.1 23 = .ok (.getfield 59, 3) := by decide +kernel
theorem d_SB_pass_26 : decode M_SB_pass.2.1 26 = .ok (.invokevirtual 138, 3) := by decide +kernel
theorem d_SB_pass_29 : decode M_SB_pass.2.1 29 = .ok (.aload_n 0, 1) := by decide +kernel
theorem d_SB_pass_30 : decode M_SB_pass.2.1 30 = .ok (.getfield 59, 3) := by decide +kernel
theorem d_SB_pass_33 : decode M_SB_pass.2.1 33 = .ok (.invokevirtual 135, 3) := by decide +kernel
theorem d_SB_pass_36 : decode M_SB_pass.2.1 36 = .ok (.ireturn, 1) := by decide +kernel
theorem d_SB_back_0 : decode M_SB_back.2.1 0 = .ok (.aload_n 0, 1) := by decide +kernel
theorem d_SB_back_1 : decode M_SB_back.2.1 1 = .ok (.getfield 59, 3) := by decide +kernel
theorem d_SB_back_4 : decode M_SB_back.2.1 4 = .ok (.getfield 96, 3) := by decide +kernel
theorem d_SB_back_7 : decode M_SB_back.2.1 7 = .ok (.getfield 100, 3) := by decide +kernel
theorem d_SB_back_10 : decode M_SB_back.2.1 10 = .ok (.ifCond .ne 11, 3) := by decide +kernel
theorem d_SB_back_13 : decode M_SB_back.2.1 13 = .ok (.new 115, 3) := by decide +kernel
theorem d_SB_back_16 : decode M_SB_back.2.1 16 = .ok (.dup, 1) := by decide +kernel
theorem d_SB_back_17 : decode M_SB_back.2.1 17 = .ok (.invokespecial 117, 3) := by decide +kernel
theorem d_SB_back_20 : decode M_SB_back.2.1 20 = .ok (.athrow, 1) := by decide +kernel
theorem d_SB_back_21 : decode M_SB_back.2.1 21 = .ok (.aload_n 0, 1) := by decide +kernel
theorem d_SB_back_22 : decode M_SB_back.2.1 22 = .ok (.getfield 59, 3) := by decide +kernel
theorem d_SB_back_25 : decode M_SB_back.2.1 25 = .ok (.invokevirtual 141, 3) := by decide +kernel
theorem d_SB_back_28 : decode M_SB_back.2.1 28 = .ok (.aload_n 0, 1) := by decide +kernel
theorem d_SB_back_29 : decode M_SB_back.2.1 29 = .ok (.invokevirtual 132, 3) := by decide +kernel
theorem d_SB_back_32 : decode M_SB_back.2.1 32 = .ok (.aload_n 0, 1) := by decide +kernel
theorem d_SB_back_33 : decode M_SB_back.2.1 33 = .ok (.getfield 59, 3) := by decide +kernel
theorem d_SB_back_36 : decode M_SB_back.2.1 36 = .ok (.getfield 96, 3) := by decide +kernel
theorem d_SB_back_39 : decode M_SB_back.2.1 39 = .ok (.getfield 100, 3) := by decide +kernel
theorem d_SB_back_42 : decode M_SB_back.2.1 42 = .ok (.ireturn, 1) := by decide +kernel
theorem d_SB_move_0 : decode M_SB_move.2.1 0 = .ok (.iload_n 1, 1) := by decide +kernel
theorem d_SB_move_1 : decode M_SB_move.2.1 1 = .ok (.ifCond .lt 17, 3) := by decide +kernel
theorem d_SB_move_4 : decode M_SB_move.2.1 4 = .ok (.iload_n 1, 1) := by decide +kernel
theorem d_SB_move_5 : decode M_SB_move.2.1 5 = .ok (.aload_n 0, 1) := by decide +kernel
theorem d_SB_move_6 : decode M_SB_move.2.1 6 = .ok (.getfield 59, 3) := by decide +kernel
theorem d_SB_move_9 : decode M_SB_move.2.1 9 = .ok (.getfield 96, 3) := by decide +kernel
theorem d_SB_move_12 : decode M_SB_move.2.1 12 = .ok (.getfield 100, 3) := by decide +kernel
theorem d_SB_move_15 : decode M_SB_move.2.1 15 = .ok (.if_icmp .lt 11, 3) := by decide +kernel
theorem d_SB_move_18 : decode M_SB_move.2.1 18 = .ok (.new 144, 3) := by decide +kernel
theorem d_SB_move_21 : decode M_SB_move.2.1 21 = .ok (.dup, 1) := by decide +kernel
theorem d_SB_move_22 : decode M_SB_move.2.1 22 = .ok (.invokespecial 146, 3) := by decide +kernel
theorem d_SB_move_25 : decode M_SB_move.2.1 25 = .ok (.athrow, 1) := by decide +kernel
theorem d_SB_move_26 : decode M_SB_move.2.1 26 = .ok (.aload_n 0, 1) := by decide +kernel
theorem d_SB_move_27 : decode M_SB_move.2.1 27 = .ok (.getfield 59, 3) := by decide +kernel
theorem d_SB_move_30 : decode M_SB_move.2.1 30 = .ok (.iload_n 1, 1) := by decide +kernel
theorem d_SB_move_31 : decode M_SB_move.2.1 31 = .ok (.invokevirtual 147, 3) := by decide +kernel
theorem d_SB_move_34 : decode M_SB_move.2.1 34 = .ok (.ireturn, 1) := by decide +kernel
theorem d_SB_taken_0 : decode M_SB_taken.2.1 0 = .ok (.iload_n 1, 1) := by decide +kernel
theorem d_SB_taken_1 : decode M_SB_taken.2.1 1 = .ok (.invokestatic 93, 3) := by decide +kernel
theorem d_SB_taken_4 : decode M_SB_taken.2.1 4 = .ok (.iload_n 1, 1) := by decide +kernel
theorem d_SB_taken_5 : decode M_SB_taken.2.1 5 = .ok (.iconst 1, 1) := by decide +kernel
theorem d_SB_taken_6 : decode M_SB_taken.2.1 6 = .ok (.if_icmp .ne 16, 3) := by decide +kernel
theorem d_SB_taken_9 : decode M_SB_taken.2.1 9 = .ok (.aload_n 0, 1) := by decide +kernel
theorem d_SB_taken_10 : decode M_SB_taken.2.1 10 = .ok (.getfield 59, 3) := by decide +kernel
theorem d_SB_taken_13 : decode M_SB_taken.2.1 13 = .ok (.getfield 96, 3) := by decide +kernel
theorem d_SB_taken_16 : decode M_SB_taken.2.1 16 = .ok (.getfield 150, 3) := by decide +kernel
theorem d_SB_taken_19 : decode M_SB_taken.2.1 19 = .ok (.goto 13, 3) := by decide +kernel
theorem d_SB_taken_22 : decode M_SB_taken.2.1 22 = .ok (.aload_n 0, 1) := by decide +kernel
theorem d_SB_taken_23 : decode M_SB_taken.2.1 23 = .ok (.getfield 59, 3) := by decide +kernel
theorem d_SB_taken_26 : decode M_SB_taken.2.1 26 = .ok (.getfield 96, 3) := by decide +kernel
theorem d_SB_taken_29 : decode M_SB_taken.2.1 29 = .ok (.getfield 153, 3) := by decide +kernel
theorem d_SB_taken_32 : decode M_SB_taken.2.1 32 = .ok (.ireturn, 1) := by decide +kernel
theorem d_SB_string_0 : decode M_SB_string.2.1 0 = .ok (.aload_n 0, 1) := by decide +kernel
theorem d_SB_string_1 : decode M_SB_string.2.1 1 = .ok (.iload_n 1, 1) := by decide +kernel
theorem d_SB_string_2 : decode M_SB_string.2.1 2 = .ok (.invokevirtual 73, 3) := by decide +kernel
theorem d_SB_string_5 : decode M_SB_string.2.1 5 = .ok (.iload_n 2, 1) := by decide +kernel
theorem d_SB_string_6 : decode M_SB_string.2.1 6 = .ok (.ifCond .lt 8, 3) := by decide +kernel
theorem d_SB_string_9 : decode M_SB_string.2.1 9 = .ok (.iload_n 2, 1) := by decide +kernel
theorem d_SB_string_10 : decode M_SB_string.2.1 10 = .ok (.iconst 3, 1) := by decide +kernel
theorem d_SB_string_11 : decode M_SB_string.2.1 11 = .ok (.if_icmp .le 11, 3) := by decide +kernel
theorem d_SB_string_14 : decode M_SB_string.2.1 14 = .ok (.new 156, 3) := by decide +kernel
theorem d_SB_string_17 : decode M_SB_string.2.1 17 = .ok (.dup, 1) := by decide +kernel
theorem d_SB_string_18 : decode M_SB_string.2.1 18 = .ok (.invokespecial 158, 3) := by decide +kernel
theorem d_SB_string_21 : decode M_SB_string.2.1 21 = .ok (.athrow, 1) := by decide +kernel
theorem d_SB_string_22 : decode M_SB_string.2.1 22 = .ok (.aload_n 0, 1) := by decide +kernel
theorem d_SB_string_23 : decode M_SB_string.2.1 23 = .ok (.getfield 34, 3) := by decide +kernel
theorem d_SB_string_26 : decode M_SB_string.2.1 26 = .ok (.iload_n 1, 1) := by decide +kernel
theorem d_SB_string_27 : decode M_SB_string.2.1 27 = .ok (.iaload, 1) := by decide +kernel
theorem d_SB_string_28 : decode M_SB_string.2.1 28 = .ok (.ifCond .ne 5, 3) := by decide +kernel
theorem d_SB_string_31 : decode M_SB_string.2.1 31 = .ok (.iconst (-1), 1) := by decide +kernel
theorem d_SB_string_32 : decode M_SB_string.2.1 32 = .ok (.ireturn, 1) := by decide +kernel
theorem d_SB_string_33 : decode M_SB_string.2.1 33 = .ok (.aload_n 0, 1) := by decide +kernel
theorem d_SB_string_34 : decode M_SB_string.2.1 34 = .ok (.getfield 43, 3) := by decide +kernel
theorem d_SB_string_37 : decode M_SB_string.2.1 37 = .ok (.getfield 159, 3) := by decide +kernel
theorem d_SB_string_40 : decode M_SB_string.2.1 40 = .ok (.iload_n 1, 1) := by decide +kernel
theorem d_SB_string_41 : decode M_SB_string.2.1 41 = .ok (.invokevirtual 163, 3) := by decide +kernel
theorem d_SB_string_44 : decode M_SB_string.2.1 44 = .ok (.istore_n 3, 1) := by decide +kernel
theorem d_SB_string_45 : decode M_SB_string.2.1 45 = .ok (.iload_n 2, 1) := by decide +kernel
theorem d_SB_string_46 : decode M_SB_string.2.1 46 = .ok (.tableswitch 59 0 2 #[26, 38, 47], 26) := by decide +kernel
theorem d_SB_string_72 : decode M_SB_string.2.1 72 = .ok (.aload_n 0, 1) := by decide +kernel
theorem d_SB_string_73 : decode M_SB_string.2.1 73 = .ok (.getfield 43, 3) := by decide +kernel
theorem d_SB_string_76 : decode M_SB_string.2.1 76 = .ok (.getfield 159, 3) := by decide +kernel
theorem d_SB_string_79 : decode M_SB_string.2.1 79 = .ok (.iload_n 3, 1) := by decide +kernel
theorem d_SB_string_80 : decode M_SB_string.2.1 80 = .ok (.invokevirtual 168, 3) := by decide +kernel
theorem d_SB_string_83 : decode M_SB_string.2.1 83 = .ok (.ireturn, 1) := by decide +kernel
theorem d_SB_string_84 : decode M_SB_string.2.1 84 = .ok (.aload_n 0, 1) := by decide +kernel
theorem d_SB_string_85 : decode M_SB_string.2.1 85 = .ok (.getfield 43, 3) := by decide +kernel
theorem d_SB_string_88 : decode M_SB_string.2.1 88 = .ok (.iload_n 3, 1) := by decide +kernel
theorem d_SB_string_89 : decode M_SB_string.2.1 89 = .ok (.invokevirtual 171, 3) := by decide +kernel
theorem d_SB_string_92 : decode M_SB_string.2.1 92 = .ok (.ireturn, 1) := by decide +kernel
theorem d_SB_string_93 : decode M_SB_string.2.1 93 = .ok (.aload_n 0, 1) := by decide +kernel
theorem d_SB_string_94 : decode M_SB_string.2.1 94 = .ok (.getfield 43, 3) := by decide +kernel
theorem d_SB_string_97 : decode M_SB_string.2.1 97 = .ok (.getfield 159, 3) := by decide +kernel
theorem d_SB_string_100 : decode M_SB_string.2.1 100 = .ok (.iload_n 3, 1) := by decide +kernel
theorem d_SB_string_101 : decode M_SB_string.2.1 101 = .ok (.invokevirtual 174, 3) := by decide +kernel
theorem d_SB_string_104 : decode M_SB_string.2.1 104 = .ok (.ireturn, 1) := by decide +kernel
theorem d_SB_string_105 : decode M_SB_string.2.1 105 = .ok (.aload_n 0, 1) := by decide +kernel
theorem d_SB_string_106 : decode M_SB_string.2.1 106 = .ok (.getfield 43, 3) := by decide +kernel
theorem d_SB_string_109 : decode M_SB_string.2.1 109 = .ok (.iload_n 3, 1) := by decide +kernel
theorem d_SB_string_110 : decode M_SB_string.2.1 110 = .ok (.invokevirtual 177, 3) := by decide +kernel
theorem d_SB_string_113 : decode M_SB_string.2.1 113 = .ok (.ireturn, 1) := by decide +kernel
theorem d_SB_strings_0 : decode M_SB_strings.2.1 0 = .ok (.iload_n 1, 1) := by decide +kernel
theorem d_SB_strings_1 : decode M_SB_strings.2.1 1 = .ok (.invokestatic 93, 3) := by decide +kernel
theorem d_SB_strings_4 : decode M_SB_strings.2.1 4 = .ok (.aload_n 0, 1) := by decide +kernel
theorem d_SB_strings_5 : decode M_SB_strings.2.1 5 = .ok (.getfield 43, 3) := by decide +kernel
theorem d_SB_strings_8 : decode M_SB_strings.2.1 8 = .ok (.iload_n 1, 1) := by decide +kernel
theorem d_SB_strings_9 : decode M_SB_strings.2.1 9 = .ok (.invokevirtual 180, 3) := by decide +kernel
theorem d_SB_strings_12 : decode M_SB_strings.2.1 12 = .ok (.ireturn, 1) := by decide +kernel
theorem d_SB_ground_0 : decode M_SB_ground.2.1 0 = .ok (.iload_n 1, 1) := by decide +kernel
theorem d_SB_ground_1 : decode M_SB_ground.2.1 1 = .ok (.invokestatic 76, 3) := by decide +kernel
theorem d_SB_ground_4 : decode M_SB_ground.2.1 4 = .ok (.aload_n 0, 1) := by decide +kernel
theorem d_SB_ground_5 : decode M_SB_ground.2.1 5 = .ok (.getfield 43, 3) := by decide +kernel
theorem d_SB_ground_8 : decode M_SB_ground.2.1 8 = .ok (.iload_n 1, 1) := by decide +kernel
theorem d_SB_ground_9 : decode M_SB_ground.2.1 9 = .ok (.invokevirtual 183, 3) := by decide +kernel
theorem d_SB_ground_12 : decode M_SB_ground.2.1 12 = .ok (.ireturn, 1) := by decide +kernel
theorem d_SB_owner_0 : decode M_SB_owner.2.1 0 = .ok (.aload_n 0, 1) := by decide +kernel
theorem d_SB_owner_1 : decode M_SB_owner.2.1 1 = .ok (.iload_n 1, 1) := by decide +kernel
theorem d_SB_owner_2 : decode M_SB_owner.2.1 2 = .ok (.invokevirtual 73, 3) := by decide +kernel
theorem d_SB_owner_5 : decode M_SB_owner.2.1 5 = .ok (.aload_n 0, 1) := by decide +kernel
theorem d_SB_owner_6 : decode M_SB_owner.2.1 6 = .ok (.getfield 43, 3) := by decide +kernel
theorem d_SB_owner_9 : decode M_SB_owner.2.1 9 = .ok (.aload_n 0, 1) := by decide +kernel
theorem d_SB_owner_10 : decode M_SB_owner.2.1 10 = .ok (.getfield 43, 3) := by decide +kernel
theorem d_SB_owner_13 : decode M_SB_owner.2.1 13 = .ok (.getfield 159, 3) := by decide +kernel
theorem d_SB_owner_16 : decode M_SB_owner.2.1 16 = .ok (.iload_n 1, 1) := by decide +kernel
theorem d_SB_owner_17 : decode M_SB_owner.2.1 17 = .ok (.invokevirtual 163, 3) := by decide +kernel
theorem d_SB_owner_20 : decode M_SB_owner.2.1 20 = .ok (.invokevirtual 186, 3) := by decide +kernel
theorem d_SB_owner_23 : decode M_SB_owner.2.1 23 = .ok (.ireturn, 1) := by decide +kernel
theorem d_SB_alive_0 : decode M_SB_alive.2.1 0 = .ok (.aload_n 0, 1) := by decide +kernel
theorem d_SB_alive_1 : decode M_SB_alive.2.1 1 = .ok (.iload_n 1, 1) := by decide +kernel
theorem d_SB_alive_2 : decode M_SB_alive.2.1 2 = .ok (.invokevirtual 73, 3) := by decide +kernel
theorem d_SB_alive_5 : decode M_SB_alive.2.1 5 = .ok (.aload_n 0, 1) := by decide +kernel
theorem d_SB_alive_6 : decode M_SB_alive.2.1 6 = .ok (.getfield 34, 3) := by decide +kernel
theorem d_SB_alive_9 : decode M_SB_alive.2.1 9 = .ok (.iload_n 1, 1) := by decide +kernel
theorem d_SB_alive_10 : decode M_SB_alive.2.1 10 = .ok (.iaload, 1) := by decide +kernel
theorem d_SB_alive_11 : decode M_SB_alive.2.1 11 = .ok (.ifCond .ne 5, 3) := by decide +kernel
theorem d_SB_alive_14 : decode M_SB_alive.2.1 14 = .ok (.iconst 0, 1) := by decide +kernel
theorem d_SB_alive_15 : decode M_SB_alive.2.1 15 = .ok (.ireturn, 1) := by decide +kernel
theorem d_SB_alive_16 : decode M_SB_alive.2.1 16 = .ok (.aload_n 0, 1) := by decide +kernel
theorem d_SB_alive_17 : decode M_SB_alive.2.1 17 = .ok (.getfield 66, 3) := by decide +kernel
theorem d_SB_alive_20 : decode M_SB_alive.2.1 20 = .ok (.aload_n 0, 1) := by decide +kernel
theorem d_SB_alive_21 : decode M_SB_alive.2.1 21 = .ok (.getfield 34, 3) := by decide +kernel
theorem d_SB_alive_24 : decode M_SB_alive.2.1 24 = .ok (.iload_n 1, 1) := by decide +kernel
theorem d_SB_alive_25 : decode M_SB_alive.2.1 25 = .ok (.iaload, 1) := by decide +kernel
theorem d_SB_alive_26 : decode M_SB_alive.2.1 26 = .ok (.invokevirtual 189, 3) := by decide +kernel
theorem d_SB_alive_29 : decode M_SB_alive.2.1 29 = .ok (.aload_n 0, 1) := by decide +kernel
theorem d_SB_alive_30 : decode M_SB_alive.2.1 30 = .ok (.getfield 66, 3) := by decide +kernel
theorem d_SB_alive_33 : decode M_SB_alive.2.1 33 = .ok (.iload_n 1, 1) := by decide +kernel
theorem d_SB_alive_34 : decode M_SB_alive.2.1 34 = .ok (.invokevirtual 192, 3) := by decide +kernel
theorem d_SB_alive_37 : decode M_SB_alive.2.1 37 = .ok (.ireturn, 1) := by decide +kernel
theorem d_SB_safe_0 : decode M_SB_safe.2.1 0 = .ok (.iload_n 1, 1) := by decide +kernel
theorem d_SB_safe_1 : decode M_SB_safe.2.1 1 = .ok (.invokestatic 93, 3) := by decide +kernel
theorem d_SB_safe_4 : decode M_SB_safe.2.1 4 = .ok (.aload_n 0, 1) := by decide +kernel
theorem d_SB_safe_5 : decode M_SB_safe.2.1 5 = .ok (.getfield 66, 3) := by decide +kernel
theorem d_SB_safe_8 : decode M_SB_safe.2.1 8 = .ok (.iload_n 1, 1) := by decide +kernel
theorem d_SB_safe_9 : decode M_SB_safe.2.1 9 = .ok (.invokevirtual 189, 3) := by decide +kernel
theorem d_SB_safe_12 : decode M_SB_safe.2.1 12 = .ok (.aload_n 0, 1) := by decide +kernel
theorem d_SB_safe_13 : decode M_SB_safe.2.1 13 = .ok (.getfield 66, 3) := by decide +kernel
theorem d_SB_safe_16 : decode M_SB_safe.2.1 16 = .ok (.invokevirtual 196, 3) := by decide +kernel
theorem d_SB_safe_19 : decode M_SB_safe.2.1 19 = .ok (.ireturn, 1) := by decide +kernel
theorem d_SB_ago_0 : decode M_SB_ago.2.1 0 = .ok (.aload_n 0, 1) := by decide +kernel
theorem d_SB_ago_1 : decode M_SB_ago.2.1 1 = .ok (.iload_n 1, 1) := by decide +kernel
theorem d_SB_ago_2 : decode M_SB_ago.2.1 2 = .ok (.invokevirtual 73, 3) := by decide +kernel
theorem d_SB_ago_5 : decode M_SB_ago.2.1 5 = .ok (.aload_n 0, 1) := by decide +kernel
theorem d_SB_ago_6 : decode M_SB_ago.2.1 6 = .ok (.getfield 34, 3) := by decide +kernel
theorem d_SB_ago_9 : decode M_SB_ago.2.1 9 = .ok (.iload_n 1, 1) := by decide +kernel
theorem d_SB_ago_10 : decode M_SB_ago.2.1 10 = .ok (.iaload, 1) := by decide +kernel
theorem d_SB_ago_11 : decode M_SB_ago.2.1 11 = .ok (.ifCond .eq 5, 3) := by decide +kernel
theorem d_SB_ago_14 : decode M_SB_ago.2.1 14 = .ok (.iconst (-1), 1) := by decide +kernel
theorem d_SB_ago_15 : decode M_SB_ago.2.1 15 = .ok (.ireturn, 1) := by decide +kernel
theorem d_SB_ago_16 : decode M_SB_ago.2.1 16 = .ok (.aload_n 0, 1) := by decide +kernel
theorem d_SB_ago_17 : decode M_SB_ago.2.1 17 = .ok (.iload_n 1, 1) := by decide +kernel
theorem d_SB_ago_18 : decode M_SB_ago.2.1 18 = .ok (.invokevirtual 200, 3) := by decide +kernel
theorem d_SB_ago_21 : decode M_SB_ago.2.1 21 = .ok (.astore_n 2, 1) := by decide +kernel
theorem d_SB_ago_22 : decode M_SB_ago.2.1 22 = .ok (.aload_n 2, 1) := by decide +kernel
theorem d_SB_ago_23 : decode M_SB_ago.2.1 23 = .ok (.ifnonnull 7, 3) := by decide +kernel
theorem d_SB_ago_26 : decode M_SB_ago.2.1 26 = .ok (.iconst (-1), 1) := by decide +kernel
theorem d_SB_ago_27 : decode M_SB_ago.2.1 27 = .ok (.goto 18, 3) := by decide +kernel
theorem d_SB_ago_30 : decode M_SB_ago.2.1 30 = .ok (.aload_n 0, 1) := by decide +kernel
theorem d_SB_ago_31 : decode M_SB_ago.2.1 31 = .ok (.getfield 59, 3) := by decide +kernel
theorem d_SB_ago_34 : decode M_SB_ago.2.1 34 = .ok (.getfield 96, 3) := by decide +kernel
theorem d_SB_ago_37 : decode M_SB_ago.2.1 37 = .ok (.getfield 100, 3) := by decide +kernel
theorem d_SB_ago_40 : decode M_SB_ago.2.1 40 = .ok (.aload_n 2, 1) := by decide +kernel
theorem d_SB_ago_41 : decode M_SB_ago.2.1 41 = .ok (.getfield 100, 3) := by decide +kernel
theorem d_SB_ago_44 : decode M_SB_ago.2.1 44 = .ok (.isub, 1) := by decide +kernel
theorem d_SB_ago_45 : decode M_SB_ago.2.1 45 = .ok (.ireturn, 1) := by decide +kernel
end
section
/-! The board: points, neighbours (the class's order of ways: up, left, right, down), what hangs together, counting, the flood. -/
theorem gb_dm {n r c : Nat} (hc : c < n) : (n * r + c) / n = r ∧ (n * r + c) % n = c := by
  have hn : 0 < n := by omega
  constructor
  · rw [Nat.mul_add_div hn, Nat.div_eq_of_lt hc, Nat.add_zero]
  · rw [Nat.mul_add_mod, Nat.mod_eq_of_lt hc]
theorem gb_lt {n r c : Nat} (hr : r < n) (hc : c < n) : n * r + c < n * n := by
  have h : n * (r + 1) ≤ n * n := Nat.mul_le_mul_left n hr
  rw [Nat.mul_add, Nat.mul_one] at h
  omega
theorem gb_rc {n p : Nat} (hp : p < n * n) : ∃ r c, r < n ∧ c < n ∧ p = n * r + c ∧ p / n = r ∧ p % n = c := by
  have hn : 0 < n := by
    cases n with
    | zero => simp at hp
    | succ k => omega
  exact ⟨p / n, p % n, Nat.div_lt_of_lt_mul hp, Nat.mod_lt _ hn, (Nat.div_add_mod p n).symm, rfl, rfl⟩
def gb_nb (n p w : Nat) : Option Nat :=
  if w = 0 then (if 0 < p / n then some (p - n) else none)
  else if w = 1 then (if 0 < p % n then some (p - 1) else none)
  else if w = 2 then (if p % n < n - 1 then some (p + 1) else none)
  else (if p / n < n - 1 then some (p + n) else none)
def gb_oi (o : Option Nat) : Int32 := match o with
  | none => -1
  | some q => nI q
/-- a neighbour is a point, and it has the point as a neighbour, the other way -/
theorem gb_nb_sym {n p w q : Nat} (hp : p < n * n) (hw : w < 4) (h : gb_nb n p w = some q) : q < n * n ∧ gb_nb n q (3 - w) = some p := by
  obtain ⟨r, c, hr, hc, e, hd, hm⟩ := gb_rc hp
  have hn : 0 < n := by omega
  unfold gb_nb at h
  rw [hd, hm] at h
  have hw4 : w = 0 ∨ w = 1 ∨ w = 2 ∨ w = 3 := by omega
  rcases hw4 with rfl | rfl | rfl | rfl
  · rw [if_pos rfl] at h
    by_cases h0 : 0 < r
    · rw [if_pos h0] at h
      have hq : q = p - n := (Option.some.inj h).symm
      obtain ⟨r', rfl⟩ : ∃ r', r = r' + 1 := ⟨r - 1, by omega⟩
      have hq2 : q = n * r' + c := by rw [hq, e, Nat.mul_add, Nat.mul_one]; omega
      refine ⟨by rw [hq2]; exact gb_lt (by omega) hc, ?_⟩
      obtain ⟨d1, d2⟩ := gb_dm (n := n) (r := r') (c := c) hc
      unfold gb_nb
      rw [hq2, d1]
      rw [if_neg (by decide), if_neg (by decide), if_neg (by decide), if_pos (by omega)]
      rw [e, Nat.mul_add, Nat.mul_one]
      congr 1
      omega
    · rw [if_neg h0] at h; cases h
  · rw [if_neg (by decide), if_pos rfl] at h
    by_cases h0 : 0 < c
    · rw [if_pos h0] at h
      have hq : q = p - 1 := (Option.some.inj h).symm
      have hq2 : q = n * r + (c - 1) := by omega
      refine ⟨by rw [hq2]; exact gb_lt hr (by omega), ?_⟩
      obtain ⟨d1, d2⟩ := gb_dm (n := n) (r := r) (c := c - 1) (by omega)
      unfold gb_nb
      rw [hq2, d2]
      rw [if_neg (by decide), if_neg (by decide), if_pos (by decide), if_pos (by omega)]
      congr 1
      omega
    · rw [if_neg h0] at h; cases h
  · rw [if_neg (by decide), if_neg (by decide), if_pos rfl] at h
    by_cases h0 : c < n - 1
    · rw [if_pos h0] at h
      have hq : q = p + 1 := (Option.some.inj h).symm
      have hq2 : q = n * r + (c + 1) := by omega
      refine ⟨by rw [hq2]; exact gb_lt hr (by omega), ?_⟩
      obtain ⟨d1, d2⟩ := gb_dm (n := n) (r := r) (c := c + 1) (by omega)
      unfold gb_nb
      rw [hq2, d2]
      rw [if_neg (by decide), if_pos (by decide), if_pos (by omega)]
      congr 1
      omega
    · rw [if_neg h0] at h; cases h
  · rw [if_neg (by decide), if_neg (by decide), if_neg (by decide)] at h
    by_cases h0 : r < n - 1
    · rw [if_pos h0] at h
      have hq : q = p + n := (Option.some.inj h).symm
      have hq2 : q = n * (r + 1) + c := by rw [hq, e, Nat.mul_add, Nat.mul_one]; omega
      refine ⟨by rw [hq2]; exact gb_lt (by omega) hc, ?_⟩
      obtain ⟨d1, d2⟩ := gb_dm (n := n) (r := r + 1) (c := c) hc
      unfold gb_nb
      rw [hq2, d1]
      rw [if_pos (by decide), if_pos (by omega)]
      rw [e, Nat.mul_add, Nat.mul_one]
      congr 1
      omega
    · rw [if_neg h0] at h; cases h
theorem gb_nb_lt {n p w q : Nat} (hp : p < n * n) (hw : w < 4) (h : gb_nb n p w = some q) : q < n * n := (gb_nb_sym hp hw h).1
/-- beside one another -/
def gb_adj (n p q : Nat) : Prop := ∃ w, w < 4 ∧ gb_nb n p w = some q
theorem gb_adj_sym {n p q : Nat} (hp : p < n * n) (h : gb_adj n p q) : gb_adj n q p := by
  obtain ⟨w, hw, e⟩ := h
  exact ⟨3 - w, by omega, (gb_nb_sym hp hw e).2⟩
theorem gb_adj_lt {n p q : Nat} (hp : p < n * n) (h : gb_adj n p q) : q < n * n := by
  obtain ⟨w, hw, e⟩ := h
  exact gb_nb_lt hp hw e
/-- one comes from p to q over points of p's kind -/
def gb_conn (n : Nat) (k : Nat → Int32) (p q : Nat) : Prop := ∀ S : Nat → Prop, S p → (∀ a w b, S a → w < 4 → gb_nb n a w = some b → k b = k a → S b) → S q
theorem gb_conn_rf {n : Nat} {k : Nat → Int32} {p : Nat} : gb_conn n k p p := fun _ h _ => h
theorem gb_conn_tr {n : Nat} {k : Nat → Int32} {p q r : Nat} (h1 : gb_conn n k p q) (h2 : gb_conn n k q r) : gb_conn n k p r := fun S hp hc => h2 S (h1 S hp hc) hc
theorem gb_conn_st {n : Nat} {k : Nat → Int32} {p a w b : Nat} (h : gb_conn n k p a) (hw : w < 4) (hb : gb_nb n a w = some b) (hk : k b = k a) : gb_conn n k p b := fun S hp hc => hc a w b (h S hp hc) hw hb hk
theorem gb_conn_k {n : Nat} {k : Nat → Int32} {p q : Nat} (h : gb_conn n k p q) : k q = k p := h (fun x => k x = k p) rfl (fun _ _ _ ha _ _ hk => hk.trans ha)
theorem gb_conn_lt {n : Nat} {k : Nat → Int32} {p q : Nat} (hp : p < n * n) (h : gb_conn n k p q) : q < n * n := h (fun x => x < n * n) hp (fun _ _ _ ha hw hb _ => gb_nb_lt ha hw hb)
theorem gb_conn_sy {n : Nat} {k : Nat → Int32} {p q : Nat} (hp : p < n * n) (h : gb_conn n k p q) : gb_conn n k q p :=
  (h (fun x => x < n * n ∧ gb_conn n k x p) ⟨hp, gb_conn_rf⟩ (fun a w b ha hw hb hk => ⟨gb_nb_lt ha.1 hw hb, gb_conn_tr (gb_conn_st gb_conn_rf (show 3 - w < 4 by omega) (gb_nb_sym ha.1 hw hb).2 hk.symm) ha.2⟩)).2
/-- how many of the first N have it -/
noncomputable def gb_cnt (P : Nat → Prop) : Nat → Nat
  | 0 => 0
  | n + 1 => gb_cnt P n + @ite Nat (P n) (Classical.propDecidable _) 1 0
theorem gb_cnt_y {P : Nat → Prop} {n : Nat} (h : P n) : gb_cnt P (n + 1) = gb_cnt P n + 1 := by
  show gb_cnt P n + @ite Nat (P n) (Classical.propDecidable _) 1 0 = _
  rw [if_pos h]
theorem gb_cnt_n {P : Nat → Prop} {n : Nat} (h : ¬ P n) : gb_cnt P (n + 1) = gb_cnt P n := by
  show gb_cnt P n + @ite Nat (P n) (Classical.propDecidable _) 1 0 = _
  rw [if_neg h]; rfl
theorem gb_cnt_eq {P P' : Nat → Prop} : ∀ N : Nat, (∀ q, q < N → (P q ↔ P' q)) → gb_cnt P N = gb_cnt P' N := by
  intro N
  induction N with
  | zero => intro _; rfl
  | succ n ih =>
    intro h
    have e := ih (fun q hq => h q (by omega))
    by_cases hp : P n
    · rw [gb_cnt_y hp, gb_cnt_y ((h n (by omega)).mp hp), e]
    · rw [gb_cnt_n hp, gb_cnt_n (fun z => hp ((h n (by omega)).mpr z)), e]
theorem gb_cnt_le {P : Nat → Prop} : ∀ N : Nat, gb_cnt P N ≤ N := by
  intro N
  induction N with
  | zero => exact Nat.le_refl _
  | succ n ih =>
    by_cases hp : P n
    · rw [gb_cnt_y hp]; omega
    · rw [gb_cnt_n hp]; omega
theorem gb_cnt_0 {P : Nat → Prop} : ∀ N : Nat, (∀ q, q < N → ¬ P q) → gb_cnt P N = 0 := by
  intro N
  induction N with
  | zero => intro _; rfl
  | succ n ih => intro h; rw [gb_cnt_n (h n (by omega))]; exact ih (fun q hq => h q (by omega))
/-- one more has it -/
theorem gb_cnt_add {P P' : Nat → Prop} {x : Nat} (hx : ¬ P x) (h : ∀ q, P' q ↔ P q ∨ q = x) : ∀ N : Nat, x < N → gb_cnt P' N = gb_cnt P N + 1 := by
  intro N
  induction N with
  | zero => intro hN; omega
  | succ n ih =>
    intro hN
    by_cases hxn : x = n
    · subst hxn
      rw [gb_cnt_y ((h x).mpr (Or.inr rfl)), gb_cnt_n hx]
      congr 1
      exact gb_cnt_eq x (fun q hq => by
        rw [h q]
        exact ⟨fun z => z.resolve_right (by omega), Or.inl⟩)
    · have e := ih (by omega)
      by_cases hp : P n
      · rw [gb_cnt_y hp, gb_cnt_y ((h n).mpr (Or.inl hp)), e]
      · rw [gb_cnt_n hp, gb_cnt_n (fun z => ((h n).mp z).elim hp (fun q => hxn q.symm)), e]
theorem gb_cnt_pos {P : Nat → Prop} {x : Nat} (hx : P x) : ∀ N : Nat, x < N → 0 < gb_cnt P N := by
  intro N
  induction N with
  | zero => intro h; omega
  | succ n ih =>
    intro h
    by_cases hxn : x = n
    · subst hxn; rw [gb_cnt_y hx]; omega
    · have e := ih (by omega)
      by_cases hp : P n
      · rw [gb_cnt_y hp]; omega
      · rw [gb_cnt_n hp]; exact e
/-- a row without a repetition that holds just those: as many -/
theorem gb_enum {N : Nat} : ∀ (e : Nat) (P : Nat → Prop) (f : Nat → Nat), (∀ i, i < e → f i < N ∧ P (f i)) → (∀ i j, i < e → j < e → f i = f j → i = j) → (∀ q, q < N → P q → ∃ i, i < e ∧ f i = q) → gb_cnt P N = e := by
  intro e
  induction e with
  | zero =>
    intro P f _ _ h3
    exact gb_cnt_0 N (fun q hq hp => by obtain ⟨i, hi, -⟩ := h3 q hq hp; omega)
  | succ e ih =>
    intro P f h1 h2 h3
    have hx := h1 e (by omega)
    have k := ih (fun q => P q ∧ q ≠ f e) f (fun i hi => ⟨(h1 i (by omega)).1, (h1 i (by omega)).2, fun z => by have := h2 i e (by omega) (by omega) z; omega⟩)
      (fun i j hi hj => h2 i j (by omega) (by omega))
      (fun q hq hp => by
        obtain ⟨i, hi, hf⟩ := h3 q hq hp.1
        refine ⟨i, ?_, hf⟩
        have : i ≠ e := fun z => hp.2 (by rw [← hf, z])
        omega)
    rw [← k]
    refine gb_cnt_add (x := f e) (fun z => z.2 rfl) (fun q => ?_) N hx.1
    constructor
    · intro hq
      by_cases hz : q = f e
      · exact Or.inr hz
      · exact Or.inl ⟨hq, hz⟩
    · intro hq
      rcases hq with hq | hq
      · exact hq.1
      · rw [hq]; exact hx.2
/-- a row of points without a repetition is no longer than the board; a point that isn't in it makes it shorter -/
theorem gb_fit {N e : Nat} {f : Nat → Nat} (h1 : ∀ i, i < e → f i < N) (h2 : ∀ i j, i < e → j < e → f i = f j → i = j) : e ≤ N := by
  have k := gb_enum (N := N) e (fun q => ∃ i, i < e ∧ f i = q) f (fun i hi => ⟨h1 i hi, i, hi, rfl⟩) h2 (fun q _ hp => hp)
  rw [← k]
  exact gb_cnt_le N
theorem gb_fit1 {N e x : Nat} {f : Nat → Nat} (h1 : ∀ i, i < e → f i < N) (h2 : ∀ i j, i < e → j < e → f i = f j → i = j) (hx : x < N) (hn : ∀ i, i < e → f i ≠ x) : e < N := by
  have k := gb_fit (N := N) (e := e + 1) (f := fun i => if i = e then x else f i)
    (fun i hi => by
      by_cases hie : i = e
      · simp [hie, hx]
      · simp only [if_neg hie]; exact h1 i (by omega))
    (fun i j hi hj hij => by
      by_cases hie : i = e <;> by_cases hje : j = e
      · omega
      · simp only [if_pos hie, if_neg hje] at hij
        exact absurd hij.symm (hn j (by omega))
      · simp only [if_neg hie, if_pos hje] at hij
        exact absurd hij (hn i (by omega))
      · simp only [if_neg hie, if_neg hje] at hij
        exact h2 i j (by omega) (by omega) hij)
  omega
/-- the flood from p: what it has reached (V), in which order (r, e of them) -/
def gb_FI (n : Nat) (k : Nat → Int32) (p : Nat) (V : Nat → Prop) (r : Nat → Nat) (e : Nat) : Prop :=
  r 0 = p ∧ 0 < e ∧ (∀ j, j < e → gb_conn n k p (r j)) ∧ (∀ i j, i < e → j < e → r i = r j → i = j) ∧ ∀ q, V q ↔ ∃ j, j < e ∧ r j = q
/-- all neighbours of the first i, and of the i-th those of the first w ways, are reached, if of the kind -/
def gb_FC (n : Nat) (k : Nat → Int32) (V : Nat → Prop) (r : Nat → Nat) (i w : Nat) : Prop :=
  (∀ j, j < i → ∀ v, v < 4 → ∀ b, gb_nb n (r j) v = some b → k b = k (r j) → V b) ∧ ∀ v, v < w → ∀ b, gb_nb n (r i) v = some b → k b = k (r i) → V b
theorem gb_FI_0 {n : Nat} {k : Nat → Int32} {p : Nat} {r : Nat → Nat} (hr : r 0 = p) : gb_FI n k p (fun q => q = p) r 1 := by
  refine ⟨hr, by omega, fun j hj => ?_, fun i j hi hj _ => by omega, fun q => ⟨fun h => ⟨0, by omega, by rw [hr, h]⟩, fun ⟨j, hj, h⟩ => ?_⟩⟩
  · rw [show j = 0 by omega, hr]; exact gb_conn_rf
  · rw [show j = 0 by omega, hr] at h; exact h.symm
theorem gb_FC_0 {n : Nat} {k : Nat → Int32} {V : Nat → Prop} {r : Nat → Nat} : gb_FC n k V r 0 0 := ⟨fun j hj => by omega, fun v hv => by omega⟩
theorem gb_FC_next {n : Nat} {k : Nat → Int32} {V : Nat → Prop} {r : Nat → Nat} {i : Nat} (h : gb_FC n k V r i 4) : gb_FC n k V r (i + 1) 0 := by
  refine ⟨fun j hj => ?_, fun v hv => by omega⟩
  by_cases hji : j = i
  · subst hji; exact h.2
  · exact h.1 j (by omega)
theorem gb_FC_skip {n : Nat} {k : Nat → Int32} {V : Nat → Prop} {r : Nat → Nat} {i w : Nat} (h : gb_FC n k V r i w) (hs : ∀ b, gb_nb n (r i) w = some b → k b = k (r i) → V b) : gb_FC n k V r i (w + 1) := by
  refine ⟨h.1, fun v hv => ?_⟩
  by_cases hvw : v = w
  · subst hvw; exact hs
  · exact h.2 v (by omega)
theorem gb_FI_add {n : Nat} {k : Nat → Int32} {p : Nat} {V : Nat → Prop} {r : Nat → Nat} {e i w b : Nat} (h : gb_FI n k p V r e) (hi : i < e) (hw : w < 4) (hb : gb_nb n (r i) w = some b) (hk : k b = k (r i)) (hv : ¬ V b) :
    gb_FI n k p (fun q => V q ∨ q = b) (fun j => if j = e then b else r j) (e + 1) := by
  obtain ⟨h1, h2, h3, h4, h5⟩ := h
  have hne : ∀ j, j < e → r j ≠ b := fun j hj z => hv ((h5 b).mpr ⟨j, hj, z⟩)
  refine ⟨?_, by omega, fun j hj => ?_, fun x y hx hy hxy => ?_, fun q => ⟨fun hq => ?_, fun ⟨j, hj, hq⟩ => ?_⟩⟩
  · show (if 0 = e then b else r 0) = p
    rw [if_neg (by omega), h1]
  · show gb_conn n k p (if j = e then b else r j)
    by_cases hje : j = e
    · rw [if_pos hje]; exact gb_conn_st (h3 i hi) hw hb hk
    · rw [if_neg hje]; exact h3 j (by omega)
  · have hxy' : (if x = e then b else r x) = (if y = e then b else r y) := hxy
    by_cases hxe : x = e <;> by_cases hye : y = e
    · omega
    · rw [if_pos hxe, if_neg hye] at hxy'; exact absurd hxy'.symm (hne y (by omega))
    · rw [if_neg hxe, if_pos hye] at hxy'; exact absurd hxy' (hne x (by omega))
    · rw [if_neg hxe, if_neg hye] at hxy'; exact h4 x y (by omega) (by omega) hxy'
  · rcases hq with hq | hq
    · obtain ⟨j, hj, e1⟩ := (h5 q).mp hq
      exact ⟨j, by omega, by show (if j = e then b else r j) = q; rw [if_neg (by omega)]; exact e1⟩
    · exact ⟨e, by omega, by show (if e = e then b else r e) = q; rw [if_pos rfl]; exact hq.symm⟩
  · have hq' : (if j = e then b else r j) = q := hq
    by_cases hje : j = e
    · rw [if_pos hje] at hq'; exact Or.inr hq'.symm
    · rw [if_neg hje] at hq'; exact Or.inl ((h5 q).mpr ⟨j, by omega, hq'⟩)
theorem gb_FC_add {n : Nat} {k : Nat → Int32} {V : Nat → Prop} {r : Nat → Nat} {e i w b : Nat} (h : gb_FC n k V r i w) (hi : i < e) (hb : gb_nb n (r i) w = some b) :
    gb_FC n k (fun q => V q ∨ q = b) (fun j => if j = e then b else r j) i (w + 1) := by
  refine ⟨fun j hj v hv x hx hk => ?_, fun v hv x hx hk => ?_⟩
  · have hr : (if j = e then b else r j) = r j := if_neg (by omega)
    simp only [hr] at hx hk
    exact Or.inl (h.1 j hj v hv x hx hk)
  · have hr : (if i = e then b else r i) = r i := if_neg (by omega)
    simp only [hr] at hx hk
    by_cases hvw : v = w
    · subst hvw
      rw [hb] at hx
      exact Or.inr (Option.some.inj hx).symm
    · exact Or.inl (h.2 v (by omega) x hx hk)
/-- the flood has ended: it has reached just what hangs together with p -/
theorem gb_FI_end {n : Nat} {k : Nat → Int32} {p : Nat} {V : Nat → Prop} {r : Nat → Nat} {e : Nat} (h : gb_FI n k p V r e) (hc : gb_FC n k V r e 0) (q : Nat) : V q ↔ gb_conn n k p q := by
  obtain ⟨h1, h2, h3, h4, h5⟩ := h
  constructor
  · intro hq
    obtain ⟨j, hj, e1⟩ := (h5 q).mp hq
    rw [← e1]; exact h3 j hj
  · intro hq
    refine hq V ((h5 p).mpr ⟨0, h2, h1⟩) (fun a w b ha hw hb hk => ?_)
    obtain ⟨j, hj, e1⟩ := (h5 a).mp ha
    rw [← e1] at hb hk
    exact hc.1 j hj w hw b hb hk
/-- its length is the number of those points -/
theorem gb_FI_len {n : Nat} {k : Nat → Int32} {p : Nat} {V : Nat → Prop} {r : Nat → Nat} {e : Nat} (hp : p < n * n) (h : gb_FI n k p V r e) (hc : gb_FC n k V r e 0) : gb_cnt (gb_conn n k p) (n * n) = e := by
  have hV := gb_FI_end h hc
  obtain ⟨h1, h2, h3, h4, h5⟩ := h
  exact gb_enum e _ r (fun i hi => ⟨gb_conn_lt hp (h3 i hi), h3 i hi⟩) h4 (fun q _ hq => by
    obtain ⟨j, hj, e1⟩ := (h5 q).mp ((hV q).mpr hq)
    exact ⟨j, hj, e1⟩)
end
section
/-! The split of a board into areas (pure part): the flood inside it, the rows of points and of beginnings. -/
def gs_pre (n : Nat) (K A0 : Nat → Int32) (o : Nat → Nat) (b p : Nat) : Prop :=
  p < n * n ∧ (∀ i, i < b → o i < n * n ∧ A0 (o i) ≠ -1) ∧ (∀ i j, i < b → j < b → o i = o j → i = j) ∧ ∀ q, gb_conn n K p q → A0 q = -1
def gs_in (n : Nat) (K A0 O0 : Nat → Int32) (b p c : Nat) (V : Nat → Prop) (r : Nat → Nat) (e : Nat) (A O : Nat → Int32) : Prop :=
  gb_FI n K p V r e ∧ (∀ q, V q → A q = nI c) ∧ (∀ q, ¬ V q → A q = A0 q) ∧ (∀ j, j < e → O (b + j) = nI (r j)) ∧ ∀ j, (j < b ∨ b + e ≤ j) → O j = O0 j
theorem gs_room {n : Nat} {K A0 : Nat → Int32} {o r : Nat → Nat} {b p e x : Nat} (h : gs_pre n K A0 o b p) (h3 : ∀ j, j < e → gb_conn n K p (r j)) (h4 : ∀ i j, i < e → j < e → r i = r j → i = j) (hx : gb_conn n K p x) (hv : ∀ j, j < e → r j ≠ x) : b + e < n * n := by
  obtain ⟨hp, ho, hi, hu⟩ := h
  refine gb_fit1 (N := n * n) (e := b + e) (x := x) (f := fun i => if i < b then o i else r (i - b)) (fun i hi' => ?_) (fun i j hi' hj' hij => ?_) (gb_conn_lt hp hx) (fun i hi' => ?_)
  · by_cases h1 : i < b
    · simp only [if_pos h1]; exact (ho i h1).1
    · simp only [if_neg h1]; exact gb_conn_lt hp (h3 _ (by omega))
  · by_cases h1 : i < b <;> by_cases h2 : j < b
    · simp only [if_pos h1, if_pos h2] at hij; exact hi i j h1 h2 hij
    · simp only [if_pos h1, if_neg h2] at hij
      exact absurd (hu _ (h3 (j - b) (by omega))) (by rw [← hij]; exact (ho i h1).2)
    · simp only [if_neg h1, if_pos h2] at hij
      exact absurd (hu _ (h3 (i - b) (by omega))) (by rw [hij]; exact (ho j h2).2)
    · simp only [if_neg h1, if_neg h2] at hij
      have := h4 (i - b) (j - b) (by omega) (by omega) hij
      omega
  · by_cases h1 : i < b
    · simp only [if_pos h1]; intro z; exact (ho i h1).2 (by rw [z]; exact hu x hx)
    · simp only [if_neg h1]; exact hv _ (by omega)
theorem gs_start {n : Nat} {K A0 O0 : Nat → Int32} {b p c : Nat} : gs_in n K A0 O0 b p c (fun q => q = p) (fun _ => p) 1 (upd A0 p (nI c)) (upd O0 b (nI p)) := by
  refine ⟨gb_FI_0 rfl, fun q hq => ?_, fun q hq => ?_, fun j hj => ?_, fun j hj => ?_⟩
  · simp [upd, hq]
  · simp [upd, hq]
  · simp [upd, show j = 0 by omega]
  · have : j ≠ b := by omega
    simp [upd, this]
/-- one point more -/
theorem gs_add {n : Nat} {K A0 O0 : Nat → Int32} {b p c : Nat} {V : Nat → Prop} {r : Nat → Nat} {e : Nat} {A O : Nat → Int32} {i w x : Nat} (h : gs_in n K A0 O0 b p c V r e A O) (hi : i < e) (hw : w < 4) (hx : gb_nb n (r i) w = some x) (hk : K x = K (r i)) (hv : ¬ V x) :
    gs_in n K A0 O0 b p c (fun q => V q ∨ q = x) (fun j => if j = e then x else r j) (e + 1) (upd A x (nI c)) (upd O (b + e) (nI x)) := by
  obtain ⟨h1, h2, h3, h4, h5⟩ := h
  refine ⟨gb_FI_add h1 hi hw hx hk hv, fun q hq => ?_, fun q hq => ?_, fun j hj => ?_, fun j hj => ?_⟩
  · by_cases hqx : q = x
    · simp [upd, hqx]
    · simp only [upd, if_neg hqx]; exact h2 q (hq.resolve_right hqx)
  · have hqx : q ≠ x := fun z => hq (Or.inr z)
    simp only [upd, if_neg hqx]; exact h3 q (fun z => hq (Or.inl z))
  · by_cases hje : j = e
    · simp [upd, hje]
    · have : b + j ≠ b + e := by omega
      simp only [upd, if_neg this, if_neg hje]; exact h4 j (by omega)
  · have : j ≠ b + e := by omega
    simp only [upd, if_neg this]; exact h5 j (by omega)
/-- a marked point is reached, or not of the kind -/
theorem gs_skip {n : Nat} {K A0 O0 : Nat → Int32} {o : Nat → Nat} {b p c : Nat} {V : Nat → Prop} {r : Nat → Nat} {e : Nat} {A O : Nat → Int32} {i w x : Nat} (hp : gs_pre n K A0 o b p) (h : gs_in n K A0 O0 b p c V r e A O) (hi : i < e) (hw : w < 4) (hx : gb_nb n (r i) w = some x) (hA : A x ≠ -1) (hk : K x = K (r i)) : V x := by
  obtain ⟨h1, h2, h3, h4, h5⟩ := h
  by_cases hv : V x
  · exact hv
  · exact absurd ((h3 x hv).trans (hp.2.2.2 x (gb_conn_st (h1.2.2.1 i hi) hw hx hk))) hA
theorem gs_free {n : Nat} {K A0 O0 : Nat → Int32} {b p c : Nat} {V : Nat → Prop} {r : Nat → Nat} {e : Nat} {A O : Nat → Int32} {x : Nat} (h : gs_in n K A0 O0 b p c V r e A O) (hc : nI c ≠ -1) (hA : A x = -1) : ¬ V x := fun hv => hc ((h.2.1 x hv).symm.trans hA)
/-- what a flood leaves -/
def gs_out (n : Nat) (K A0 O0 : Nat → Int32) (b p c : Nat) (r : Nat → Nat) (e : Nat) (A O : Nat → Int32) : Prop :=
  r 0 = p ∧ 0 < e ∧ (∀ i j, i < e → j < e → r i = r j → i = j) ∧ (∀ q, gb_conn n K p q ↔ ∃ j, j < e ∧ r j = q) ∧ (∀ q, gb_conn n K p q → A q = nI c) ∧ (∀ q, ¬ gb_conn n K p q → A q = A0 q) ∧ (∀ j, j < e → O (b + j) = nI (r j)) ∧ ∀ j, (j < b ∨ b + e ≤ j) → O j = O0 j
theorem gs_end {n : Nat} {K A0 O0 : Nat → Int32} {b p c : Nat} {V : Nat → Prop} {r : Nat → Nat} {e : Nat} {A O : Nat → Int32} (h : gs_in n K A0 O0 b p c V r e A O) (hc : gb_FC n K V r e 0) : gs_out n K A0 O0 b p c r e A O := by
  obtain ⟨h1, h2, h3, h4, h5⟩ := h
  have hV := gb_FI_end h1 hc
  exact ⟨h1.1, h1.2.1, h1.2.2.2.1, fun q => by rw [← hV q]; exact h1.2.2.2.2 q, fun q hq => h2 q ((hV q).mpr hq), fun q hq => h3 q (fun z => hq ((hV q).mp z)), h4, h5⟩
/-- the split so far: c areas, e points in them; all points below p are in one -/
def gs_S (n : Nat) (K : Nat → Int32) (p c e : Nat) (o s : Nat → Nat) (A O S : Nat → Int32) : Prop :=
  (∀ q, q < n * n → A q = -1 ∨ ∃ a, a < c ∧ A q = nI a) ∧ (∀ q, q < p → A q ≠ -1) ∧ (∀ q r, q < n * n → gb_conn n K q r → A r = A q) ∧ (∀ q r, q < n * n → r < n * n → A q ≠ -1 → A r = A q → gb_conn n K q r) ∧
  (∀ i, i < e → o i < n * n ∧ A (o i) ≠ -1 ∧ O i = nI (o i)) ∧ (∀ i j, i < e → j < e → o i = o j → i = j) ∧ (∀ q, q < n * n → A q ≠ -1 → ∃ i, i < e ∧ o i = q) ∧
  (∀ a, a < c → S a = nI (s a)) ∧ s 0 = 0 ∧ s c = e ∧ (∀ a, a < c → s a < s (a + 1)) ∧ (∀ a i, a < c → s a ≤ i → i < s (a + 1) → A (o i) = nI a) ∧ ∀ a, a < c → ∀ q, q < n * n → A q = nI a → o (s a) ≤ q
theorem gs_S_0 {n : Nat} {K A O S : Nat → Int32} (hA : ∀ q, q < n * n → A q = -1) (o : Nat → Nat) : gs_S n K 0 0 0 o (fun _ => 0) A O S :=
  ⟨fun q hq => Or.inl (hA q hq), fun q hq => absurd hq (Nat.not_lt_zero _), fun q r hq hr => (hA r (gb_conn_lt hq hr)).trans (hA q hq).symm, fun q r hq hr h => absurd (hA q hq) h, fun i hi => absurd hi (Nat.not_lt_zero _), fun i j hi => absurd hi (Nat.not_lt_zero _), fun q hq h => absurd (hA q hq) h, fun a ha => absurd ha (Nat.not_lt_zero _), rfl, rfl, fun a ha => absurd ha (Nat.not_lt_zero _), fun a i ha => absurd ha (Nat.not_lt_zero _), fun a ha => absurd ha (Nat.not_lt_zero _)⟩
theorem gs_S_le {n : Nat} {K : Nat → Int32} {p c e : Nat} {o s : Nat → Nat} {A O S : Nat → Int32} (h : gs_S n K p c e o s A O S) : (∀ a, a ≤ c → a ≤ s a) ∧ (∀ a, a ≤ c → s a ≤ e) ∧ e ≤ n * n := by
  obtain ⟨-, -, -, -, h5, h6, -, -, h9, h10, h11, -, -⟩ := h
  refine ⟨fun a => ?_, fun a ha => ?_, gb_fit (fun i hi => (h5 i hi).1) h6⟩
  · induction a with
    | zero => intro _; omega
    | succ a ih => intro ha; have h1 := h11 a (by omega); have h2 := ih (by omega); omega
  · have key : ∀ d, a + d ≤ c → s a ≤ s (a + d) := by
      intro d
      induction d with
      | zero => intro _; exact Nat.le_refl _
      | succ d ih => intro hd; have h1 := h11 (a + d) (by omega); have h2 := ih (by omega); show s a ≤ s (a + d + 1); omega
    have h1 := key (c - a) (by omega)
    rw [show a + (c - a) = c by omega, h10] at h1
    exact h1
theorem gs_S_pass {n : Nat} {K : Nat → Int32} {p c e : Nat} {o s : Nat → Nat} {A O S : Nat → Int32} (h : gs_S n K p c e o s A O S) (hp : A p ≠ -1) : gs_S n K (p + 1) c e o s A O S := by
  refine ⟨h.1, fun q hq => ?_, h.2.2⟩
  by_cases hqp : q = p
  · rw [hqp]; exact hp
  · exact h.2.1 q (by omega)
theorem gs_S_pre {n : Nat} {K : Nat → Int32} {p c e : Nat} {o s : Nat → Nat} {A O S : Nat → Int32} (h : gs_S n K p c e o s A O S) (hpN : p < n * n) (hp : A p = -1) : gs_pre n K A o e p :=
  ⟨hpN, fun i hi => ⟨(h.2.2.2.2.1 i hi).1, (h.2.2.2.2.1 i hi).2.1⟩, h.2.2.2.2.2.1, fun q hq => (h.2.2.1 p q hpN hq).trans hp⟩
theorem gs_S_add {n : Nat} {K : Nat → Int32} {p c e : Nat} {o s r : Nat → Nat} {m : Nat} {A O S A' O' : Nat → Int32} (h : gs_S n K p c e o s A O S) (hpN : p < n * n) (hp : A p = -1) (hc : ∀ a, a ≤ c → nI a ≠ -1) (hcc : ∀ a, a < c → nI a ≠ nI c) (h' : gs_out n K A O e p c r m A' O') :
    gs_S n K (p + 1) (c + 1) (e + m) (fun i => if i < e then o i else r (i - e)) (fun a => if a ≤ c then s a else e + m) A' O' (upd S c (nI e)) := by
  obtain ⟨h1, h2, h3, h4, h5, h6, h7, h8, h9, h10, h11, h12, h13⟩ := h
  obtain ⟨g1, g2, g3, g4, g5, g6, g7, g8⟩ := h'
  have hcon : ∀ q, q < n * n → A q ≠ -1 → ¬ gb_conn n K p q := fun q hq ha hz => ha ((h3 p q hpN hz).trans hp)
  have hAold : ∀ q, q < n * n → A q ≠ -1 → A' q = A q := fun q hq ha => g6 q (hcon q hq ha)
  have hself : gb_conn n K p p := gb_conn_rf
  refine ⟨fun q hq => ?_, fun q hq => ?_, fun q x hq hx => ?_, fun q x hq hx ha he => ?_, fun i hi => ?_, fun i j hi hj hij => ?_, fun q hq ha => ?_, fun a ha => ?_, ?_, ?_, fun a ha => ?_, fun a i ha hi1 hi2 => ?_, fun a ha q hq hqa => ?_⟩
  · by_cases hz : gb_conn n K p q
    · exact Or.inr ⟨c, by omega, g5 q hz⟩
    · rw [g6 q hz]
      rcases h1 q hq with h | ⟨a, ha, h⟩
      · exact Or.inl h
      · exact Or.inr ⟨a, by omega, h⟩
  · by_cases hz : gb_conn n K p q
    · rw [g5 q hz]; exact hc c (by omega)
    · rw [g6 q hz]
      by_cases hqp : q = p
      · exact absurd (by rw [hqp]; exact hself) hz
      · exact h2 q (by omega)
  · by_cases hz : gb_conn n K p q
    · rw [g5 q hz, g5 x (gb_conn_tr hz hx)]
    · have hzx : ¬ gb_conn n K p x := fun w => hz (gb_conn_tr w (gb_conn_sy hq hx))
      rw [g6 q hz, g6 x hzx]; exact h3 q x hq hx
  · by_cases hz : gb_conn n K p q <;> by_cases hzx : gb_conn n K p x
    · exact gb_conn_tr (gb_conn_sy hpN hz) hzx
    · rw [g5 q hz, g6 x hzx] at he
      rcases h1 x hx with h | ⟨a, ha', h⟩
      · exact absurd (he.symm.trans h) (hc c (by omega))
      · exact absurd (h.symm.trans he) (hcc a ha')
    · rw [g6 q hz, g5 x hzx] at he
      rcases h1 q hq with h | ⟨a, ha', h⟩
      · rw [g6 q hz] at ha; exact absurd h ha
      · exact absurd (h.symm.trans he.symm) (hcc a ha')
    · rw [g6 q hz] at ha he; rw [g6 x hzx] at he
      exact h4 q x hq hx ha he
  · by_cases hie : i < e
    · simp only [if_pos hie]
      obtain ⟨a1, a2, a3⟩ := h5 i hie
      exact ⟨a1, by rw [hAold _ a1 a2]; exact a2, by rw [g8 i (Or.inl hie)]; exact a3⟩
    · simp only [if_neg hie]
      have hr : gb_conn n K p (r (i - e)) := (g4 _).mpr ⟨i - e, by omega, rfl⟩
      refine ⟨gb_conn_lt hpN hr, by rw [g5 _ hr]; exact hc c (by omega), ?_⟩
      have := g7 (i - e) (by omega)
      rw [show e + (i - e) = i by omega] at this
      exact this
  · by_cases hie : i < e <;> by_cases hje : j < e
    · simp only [if_pos hie, if_pos hje] at hij; exact h6 i j hie hje hij
    · simp only [if_pos hie, if_neg hje] at hij
      exact absurd ((g4 _).mpr ⟨j - e, by omega, hij.symm⟩) (hcon _ (h5 i hie).1 (h5 i hie).2.1)
    · simp only [if_neg hie, if_pos hje] at hij
      exact absurd ((g4 _).mpr ⟨i - e, by omega, hij⟩) (hcon _ (h5 j hje).1 (h5 j hje).2.1)
    · simp only [if_neg hie, if_neg hje] at hij
      have := g3 (i - e) (j - e) (by omega) (by omega) hij
      omega
  · by_cases hz : gb_conn n K p q
    · obtain ⟨j, hj, hr⟩ := (g4 q).mp hz
      refine ⟨e + j, by omega, ?_⟩
      simp only [if_neg (show ¬ e + j < e by omega), show e + j - e = j by omega]
      exact hr
    · rw [g6 q hz] at ha
      obtain ⟨i, hi, ho⟩ := h7 q hq ha
      exact ⟨i, by omega, by simp only [if_pos hi]; exact ho⟩
  · by_cases hac : a = c
    · subst hac
      simp only [upd, if_pos, Nat.le_refl]
      rw [h10]
    · simp only [upd, if_neg hac, if_pos (show a ≤ c by omega)]
      exact h8 a (by omega)
  · simp only [if_pos (Nat.zero_le c)]; exact h9
  · simp only [if_neg (show ¬ c + 1 ≤ c by omega)]
  · by_cases hac : a = c
    · subst hac
      simp only [if_pos (Nat.le_refl a), if_neg (show ¬ a + 1 ≤ a by omega)]
      omega
    · simp only [if_pos (show a ≤ c by omega), if_pos (show a + 1 ≤ c by omega)]
      exact h11 a (by omega)
  · by_cases hac : a = c
    · subst hac
      simp only [if_pos (Nat.le_refl a), if_neg (show ¬ a + 1 ≤ a by omega)] at hi1 hi2
      have hie : ¬ i < e := by omega
      simp only [if_neg hie]
      exact g5 _ ((g4 _).mpr ⟨i - e, by omega, rfl⟩)
    · simp only [if_pos (show a ≤ c by omega), if_pos (show a + 1 ≤ c by omega)] at hi1 hi2
      have hle := (gs_S_le (K := K) (p := p) (c := c) (e := e) (o := o) (s := s) (A := A) (O := O) (S := S) ⟨h1, h2, h3, h4, h5, h6, h7, h8, h9, h10, h11, h12, h13⟩).2.1 (a + 1) (by omega)
      have hie : i < e := by omega
      simp only [if_pos hie]
      rw [hAold _ (h5 i hie).1 (h5 i hie).2.1]
      exact h12 a i (by omega) hi1 hi2
  · by_cases hac : a = c
    · subst hac
      simp only [if_pos (Nat.le_refl a)]
      rw [h10]
      simp only [if_neg (Nat.lt_irrefl e), Nat.sub_self, g1]
      by_cases hz : gb_conn n K p q
      · by_cases hqp : q < p
        · exact absurd (h3 p q hpN hz) (by rw [hp]; exact h2 q hqp)
        · omega
      · rw [g6 q hz] at hqa
        rcases h1 q hq with h | ⟨x, hx, h⟩
        · exact absurd (hqa.symm.trans h) (hc a (by omega))
        · exact absurd (h.symm.trans hqa) (hcc x hx)
    · simp only [if_pos (show a ≤ c by omega)]
      have hle := (gs_S_le (K := K) (p := p) (c := c) (e := e) (o := o) (s := s) (A := A) (O := O) (S := S) ⟨h1, h2, h3, h4, h5, h6, h7, h8, h9, h10, h11, h12, h13⟩).2.1 (a + 1) (by omega)
      have hlt := h11 a (by omega)
      have hie : s a < e := by omega
      simp only [if_pos hie]
      by_cases hz : gb_conn n K p q
      · rw [g5 q hz] at hqa
        exact absurd hqa.symm (hcc a (by omega))
      · rw [g6 q hz] at hqa
        exact h13 a (by omega) q hq hqa
/-- the split of a whole board, in naturals -/
def gs_W (n : Nat) (K : Nat → Int32) (c : Nat) (ar o s : Nat → Nat) : Prop :=
  (∀ q, q < n * n → ar q < c) ∧ (∀ q r, q < n * n → r < n * n → (ar q = ar r ↔ gb_conn n K q r)) ∧ (∀ i, i < n * n → o i < n * n) ∧ (∀ i j, i < n * n → j < n * n → o i = o j → i = j) ∧ (∀ q, q < n * n → ∃ i, i < n * n ∧ o i = q) ∧
  s 0 = 0 ∧ s c = n * n ∧ (∀ a, a < c → s a < s (a + 1)) ∧ (∀ a i, a < c → s a ≤ i → i < s (a + 1) → ar (o i) = a) ∧ (∀ a, a < c → ∀ q, q < n * n → ar q = a → o (s a) ≤ q) ∧ c ≤ n * n
theorem gs_S_end {n : Nat} {K : Nat → Int32} {c e : Nat} {o s : Nat → Nat} {A O S : Nat → Int32} (hn : n * n < 2 ^ 31) (h : gs_S n K (n * n) c e o s A O S) : e = n * n ∧ ∃ ar : Nat → Nat, (∀ q, q < n * n → A q = nI (ar q)) ∧ gs_W n K c ar o s := by
  have hle := gs_S_le h
  obtain ⟨h1, h2, h3, h4, h5, h6, h7, h8, h9, h10, h11, h12, h13⟩ := h
  have he : e = n * n := by
    have k := gb_enum (N := n * n) e (fun q => A q ≠ -1) o (fun i hi => ⟨(h5 i hi).1, (h5 i hi).2.1⟩) h6 h7
    have k2 := gb_enum (N := n * n) (n * n) (fun q => A q ≠ -1) (fun i => i) (fun i hi => ⟨hi, h2 i hi⟩) (fun i j _ _ h => h) (fun q hq _ => ⟨q, hq, rfl⟩)
    omega
  subst he
  have hcN : c ≤ n * n := by have := hle.1 c (Nat.le_refl c); rw [h10] at this; exact this
  refine ⟨rfl, fun q => if q < n * n then (A q).toNatClampNeg else 0, ?_, ?_⟩
  · intro q hq
    simp only [if_pos hq]
    rcases h1 q hq with h | ⟨a, ha, h⟩
    · exact absurd h (h2 q hq)
    · rw [h, nI_clamp (by omega)]
  · have har : ∀ q, q < n * n → ∃ a, a < c ∧ A q = nI a ∧ (if q < n * n then (A q).toNatClampNeg else 0) = a := by
      intro q hq
      rcases h1 q hq with h | ⟨a, ha, h⟩
      · exact absurd h (h2 q hq)
      · exact ⟨a, ha, h, by rw [if_pos hq, h, nI_clamp (by omega)]⟩
    refine ⟨fun q hq => ?_, fun q x hq hx => ?_, fun i hi => (h5 i hi).1, h6, fun q hq => h7 q hq (h2 q hq), h9, h10, h11, fun a i ha hi1 hi2 => ?_, fun a ha q hq hqa => ?_, hcN⟩
    · obtain ⟨a, ha, -, e1⟩ := har q hq
      simp only [e1]; exact ha
    · obtain ⟨a, ha, e0, e1⟩ := har q hq
      obtain ⟨a', ha', e0', e1'⟩ := har x hx
      simp only [e1, e1']
      constructor
      · intro z; exact h4 q x hq hx (h2 q hq) (by rw [e0, e0', z])
      · intro z
        have := h3 q x hq z
        rw [e0, e0'] at this
        exact ((nI_eq (by omega) (by omega)).mp this).symm
    · have hlt : i < n * n := Nat.lt_of_lt_of_le hi2 (hle.2.1 (a + 1) (by omega))
      have hA := h12 a i ha hi1 hi2
      obtain ⟨a', ha', e0', e1'⟩ := har (o i) (h5 i hlt).1
      rw [e0'] at hA
      simp only [e1']
      exact (nI_eq (by omega) (by omega)).mp hA
    · obtain ⟨a', ha', e0', e1'⟩ := har q hq
      simp only [e1'] at hqa
      exact h13 a ha q hq (by rw [e0', hqa])
end
section
/-! Breaths, and what a move does (pure part). -/
/-- q is a breath of the string at p -/
def gt_br (n : Nat) (b : Nat → Int32) (p q : Nat) : Prop := q < n * n ∧ b q = 0 ∧ ∃ w x, w < 4 ∧ gb_nb n q w = some x ∧ gb_conn n b p x
theorem gt_br_of {n : Nat} {b : Nat → Int32} {p x w q : Nat} (hp : p < n * n) (h : gb_conn n b p x) (hw : w < 4) (hq : gb_nb n x w = some q) (h0 : b q = 0) : gt_br n b p q := by
  have hx := gb_conn_lt hp h
  obtain ⟨h1, h2⟩ := gb_nb_sym hx hw hq
  exact ⟨h1, h0, 3 - w, x, by omega, h2, h⟩
/-- two boards that differ only where neither has the string's kind: the string is the same -/
theorem gt_conn_eq {n : Nat} {b t : Nat → Int32} {p x : Nat} (hd : ∀ q, q ≠ p → t q = b q) (hb : b p ≠ b x) (ht : t p ≠ b x) (q : Nat) : gb_conn n b x q ↔ gb_conn n t x q := by
  have hxp : x ≠ p := fun z => hb (by rw [z])
  constructor
  · intro h
    have k : gb_conn n b x q ∧ gb_conn n t x q := h (fun y => gb_conn n b x y ∧ gb_conn n t x y) ⟨gb_conn_rf, gb_conn_rf⟩ (fun a w c ha hw hc hk => by
      have ka : b a = b x := gb_conn_k ha.1
      have hap : a ≠ p := fun z => hb (by rw [← z]; exact ka)
      have hcp : c ≠ p := fun z => hb (by rw [← z, hk]; exact ka)
      exact ⟨gb_conn_st ha.1 hw hc hk, gb_conn_st ha.2 hw hc (by rw [hd c hcp, hd a hap]; exact hk)⟩)
    exact k.2
  · intro h
    have k : gb_conn n t x q ∧ gb_conn n b x q := h (fun y => gb_conn n t x y ∧ gb_conn n b x y) ⟨gb_conn_rf, gb_conn_rf⟩ (fun a w c ha hw hc hk => by
      have ka : t a = b x := (gb_conn_k ha.1).trans (hd x hxp)
      have hap : a ≠ p := fun z => ht (by rw [← z]; exact ka)
      have hcp : c ≠ p := fun z => ht (by rw [← z, hk]; exact ka)
      exact ⟨gb_conn_st ha.1 hw hc hk, gb_conn_st ha.2 hw hc (by rw [← hd c hcp, ← hd a hap]; exact hk)⟩)
    exact k.2
/-- a stone of another kind at p takes p, and nothing else, from a string's breaths -/
theorem gt_br_put {n : Nat} {b t : Nat → Int32} {p x : Nat} (hd : ∀ q, q ≠ p → t q = b q) (hb : b p ≠ b x) (ht : t p ≠ b x) (ht0 : t p ≠ 0) (q : Nat) : gt_br n t x q ↔ gt_br n b x q ∧ q ≠ p := by
  constructor
  · rintro ⟨h1, h2, w, y, hw, hy, hc⟩
    have hqp : q ≠ p := fun z => ht0 (by rw [← z]; exact h2)
    exact ⟨⟨h1, by rw [← hd q hqp]; exact h2, w, y, hw, hy, (gt_conn_eq hd hb ht y).mpr hc⟩, hqp⟩
  · rintro ⟨⟨h1, h2, w, y, hw, hy, hc⟩, hqp⟩
    exact ⟨h1, by rw [hd q hqp]; exact h2, w, y, hw, hy, (gt_conn_eq hd hb ht y).mp hc⟩
/-- so it has none left just if p was its last -/
theorem gt_last {n : Nat} {b t : Nat → Int32} {p x w : Nat} (hp : p < n * n) (hw : w < 4) (hx : gb_nb n p w = some x) (h0 : b p = 0) (hd : ∀ q, q ≠ p → t q = b q) (hbx : b x ≠ 0) (ht : t p ≠ b x) (ht0 : t p ≠ 0) : gb_cnt (gt_br n b x) (n * n) = gb_cnt (gt_br n t x) (n * n) + 1 := by
  have hb : b p ≠ b x := by rw [h0]; exact fun z => hbx z.symm
  refine gb_cnt_add (x := p) (fun z => ((gt_br_put hd hb ht ht0 p).mp z).2 rfl) (fun q => ?_) (n * n) hp
  constructor
  · intro h
    by_cases hqp : q = p
    · exact Or.inr hqp
    · exact Or.inl ((gt_br_put hd hb ht ht0 q).mpr ⟨h, hqp⟩)
  · intro h
    rcases h with h | h
    · exact ((gt_br_put hd hb ht ht0 q).mp h).1
    · rw [h]; exact ⟨hp, h0, w, x, hw, hx, gb_conn_rf⟩
/-- what hangs together with the stone that was put at p: it, and the strings of its side beside it -/
theorem gt_own {n : Nat} {b t : Nat → Int32} {p : Nat} (hp : p < n * n) (h0 : b p = 0) (hd : ∀ q, q ≠ p → t q = b q) (ht0 : t p ≠ 0) (q : Nat) : gb_conn n t p q ↔ q = p ∨ ∃ w x, w < 4 ∧ gb_nb n p w = some x ∧ b x = t p ∧ gb_conn n b x q := by
  have hne : ∀ x, b x = t p → x ≠ p := fun x hx z => ht0 (by rw [← hx, z]; exact h0)
  constructor
  · intro h
    have k : gb_conn n t p q ∧ (q = p ∨ ∃ w x, w < 4 ∧ gb_nb n p w = some x ∧ b x = t p ∧ gb_conn n b x q) := h (fun y => gb_conn n t p y ∧ (y = p ∨ ∃ w x, w < 4 ∧ gb_nb n p w = some x ∧ b x = t p ∧ gb_conn n b x y)) ⟨gb_conn_rf, Or.inl rfl⟩ (fun a w c ha hw hc hk => by
      have ka : t a = t p := gb_conn_k ha.1
      refine ⟨gb_conn_st ha.1 hw hc hk, ?_⟩
      by_cases hcp : c = p
      · exact Or.inl hcp
      · have hbc : b c = t p := by rw [← hd c hcp, hk]; exact ka
        rcases ha.2 with hap | ⟨v, x, hv, hx, hbx, hxa⟩
        · subst hap
          exact Or.inr ⟨w, c, hw, hc, hbc, gb_conn_rf⟩
        · refine Or.inr ⟨v, x, hv, hx, hbx, gb_conn_st hxa hw hc ?_⟩
          rw [hbc, ← hbx]; exact (gb_conn_k hxa).symm)
    exact k.2
  · intro h
    rcases h with h | ⟨w, x, hw, hx, hbx, hxq⟩
    · rw [h]; exact gb_conn_rf
    · have hxp := hne x hbx
      have h1 : gb_conn n t p x := gb_conn_st gb_conn_rf hw hx (by rw [hd x hxp]; exact hbx)
      refine gb_conn_tr h1 ?_
      have k : gb_conn n b x q ∧ gb_conn n t x q := hxq (fun y => gb_conn n b x y ∧ gb_conn n t x y) ⟨gb_conn_rf, gb_conn_rf⟩ (fun a v c ha hv hc hk => by
        have ka : b a = b x := gb_conn_k ha.1
        have hap := hne a (ka.trans hbx)
        have hcp := hne c ((hk.trans ka).trans hbx)
        exact ⟨gb_conn_st ha.1 hv hc hk, gb_conn_st ha.2 hv hc (by rw [hd c hcp, hd a hap]; exact hk)⟩)
      exact k.2
/-- it has a breath just if a free point is beside p, or a string of its side beside p has another breath than p -/
theorem gt_own_br {n : Nat} {b t : Nat → Int32} {p : Nat} (hp : p < n * n) (h0 : b p = 0) (hd : ∀ q, q ≠ p → t q = b q) (ht0 : t p ≠ 0) (q : Nat) : gt_br n t p q ↔ (q < n * n ∧ q ≠ p ∧ b q = 0 ∧ ∃ w, w < 4 ∧ gb_nb n p w = some q) ∨ ∃ w x, w < 4 ∧ gb_nb n p w = some x ∧ b x = t p ∧ gt_br n b x q ∧ q ≠ p := by
  constructor
  · rintro ⟨h1, h2, w, y, hw, hy, hc⟩
    have hqp : q ≠ p := fun z => ht0 (by rw [← z]; exact h2)
    have hbq : b q = 0 := by rw [← hd q hqp]; exact h2
    rcases (gt_own hp h0 hd ht0 y).mp hc with h | ⟨v, x, hv, hx, hbx, hxy⟩
    · subst h
      obtain ⟨-, hs⟩ := gb_nb_sym h1 hw hy
      exact Or.inl ⟨h1, hqp, hbq, 3 - w, by omega, hs⟩
    · exact Or.inr ⟨v, x, hv, hx, hbx, ⟨h1, hbq, w, y, hw, hy, hxy⟩, hqp⟩
  · intro h
    rcases h with ⟨h1, hqp, hbq, w, hw, hq⟩ | ⟨v, x, hv, hx, hbx, ⟨h1, hbq, w, y, hw, hy, hxy⟩, hqp⟩
    · obtain ⟨-, hs⟩ := gb_nb_sym hp hw hq
      exact ⟨h1, by rw [hd q hqp]; exact hbq, 3 - w, p, by omega, hs, gb_conn_rf⟩
    · exact ⟨h1, by rw [hd q hqp]; exact hbq, w, y, hw, hy, (gt_own hp h0 hd ht0 y).mpr (Or.inr ⟨v, x, hv, hx, hbx, hxy⟩)⟩
end
section
/-! Grid.neighbour and the small methods of Areas. -/
section GA
variable {l : Launch} {D : va_G} {H0 : Heap} {h : xa_H} {sz : Nat}
theorem c_Grid_neighbour {N g ar p w : Nat} {f : Nat → Int32} (hg : h g = some (.inr (3, [.int (nI N), .ref ar]))) (har : h ar = some (.inl (D.1 100, 4 * N, .inl f))) (hN : N < 1000) (hp : p < N) (hw : w < 4) :
    xa_M l D H0 M_Grid_neighbour 0 0 0 0 [.ref g, .int (nI p), .int (nI w)] h sz (fun v h' sz' => v = some (.int (f (4 * p + w))) ∧ h' = h ∧ sz' = sz) := by
  refine xa_enter (by decide) rfl rfl ?_
  refine xa_aload_n d_Grid_neighbour_0 rfl ?_
  refine xa_getf f_Grid_15 d_Grid_neighbour_1 (by assumption) (by rfl) ?_
  refine xa_iconst (v := nI 4) d_Grid_neighbour_4 rfl ?_
  refine xa_iload_n d_Grid_neighbour_5 rfl ?_
  refine xa_imulN d_Grid_neighbour_6 ?_
  refine xa_iload_n d_Grid_neighbour_7 rfl ?_
  refine xa_iaddN d_Grid_neighbour_8 ?_
  refine xa_ialdE d_Grid_neighbour_9 (by assumption) rfl (by omega) (by omega) (by rfl) ?_
  exact xa_ireturn d_Grid_neighbour_10 rfl (by omega) (by omega) ⟨rfl, rfl, rfl⟩
theorem c_Areas_areaAt {N a g aA aO aS p x : Nat} {c : Int32} {A : Nat → Int32} (ha : h a = some (.inr (1, [.int c, .ref g, .ref aA, .ref aO, .ref aS]))) (hA : h aA = some (.inl (D.1 100, N, .inl A))) (hN : N < 1000) (hp : p < N) (hx : A p = nI x) :
    xa_M l D H0 M_Areas_areaAt 0 0 0 0 [.ref a, .int (nI p)] h sz (fun v h' sz' => v = some (.int (nI x)) ∧ h' = h ∧ sz' = sz) := by
  refine xa_enter (by decide) rfl rfl ?_
  refine xa_aload_n d_Areas_areaAt_0 rfl ?_
  refine xa_getf f_Areas_21 d_Areas_areaAt_1 (by assumption) (by rfl) ?_
  refine xa_iload_n d_Areas_areaAt_4 rfl ?_
  refine xa_ialdE d_Areas_areaAt_5 hA rfl (hp) (by omega) (hx) ?_
  exact xa_ireturn d_Areas_areaAt_6 rfl (by omega) (by omega) ⟨rfl, rfl, rfl⟩
theorem c_Areas_sizeOf {N a g aA aO aS q : Nat} {c : Int32} {S : Nat → Int32} {s : Nat → Nat} (ha : h a = some (.inr (1, [.int c, .ref g, .ref aA, .ref aO, .ref aS]))) (hS : h aS = some (.inl (D.1 100, N + 1, .inl S))) (hN : N < 1000) (hq : q < N) (h1 : S q = nI (s q)) (h2 : S (q + 1) = nI (s (q + 1))) (hle : s q ≤ s (q + 1)) :
    xa_M l D H0 M_Areas_sizeOf 0 0 0 0 [.ref a, .int (nI q)] h sz (fun v h' sz' => v = some (.int (nI (s (q + 1) - s q))) ∧ h' = h ∧ sz' = sz) := by
  refine xa_enter (by decide) rfl rfl ?_
  refine xa_aload_n d_Areas_sizeOf_0 rfl ?_
  refine xa_getf f_Areas_28 d_Areas_sizeOf_1 (by assumption) (by rfl) ?_
  refine xa_iload_n d_Areas_sizeOf_4 rfl ?_
  refine xa_iconst (v := nI 1) d_Areas_sizeOf_5 rfl ?_
  refine xa_iaddN d_Areas_sizeOf_6 ?_
  refine xa_ialdE d_Areas_sizeOf_7 hS rfl (by omega) (by omega) (h2) ?_
  refine xa_aload_n d_Areas_sizeOf_8 rfl ?_
  refine xa_getf f_Areas_28 d_Areas_sizeOf_9 (by assumption) (by rfl) ?_
  refine xa_iload_n d_Areas_sizeOf_12 rfl ?_
  refine xa_ialdE d_Areas_sizeOf_13 hS rfl (by omega) (by omega) (h1) ?_
  refine xa_isubN d_Areas_sizeOf_14 (by omega) ?_
  exact xa_ireturn d_Areas_sizeOf_15 rfl (by omega) (by omega) ⟨rfl, rfl, rfl⟩
theorem c_Areas_leastOf {N a g aA aO aS q : Nat} {c : Int32} {O S : Nat → Int32} {o s : Nat → Nat} (ha : h a = some (.inr (1, [.int c, .ref g, .ref aA, .ref aO, .ref aS]))) (hO : h aO = some (.inl (D.1 100, N, .inl O))) (hS : h aS = some (.inl (D.1 100, N + 1, .inl S))) (hN : N < 1000) (hq : q < N) (h1 : S q = nI (s q)) (h2 : s q < N) (h3 : O (s q) = nI (o (s q))) :
    xa_M l D H0 M_Areas_leastOf 0 0 0 0 [.ref a, .int (nI q)] h sz (fun v h' sz' => v = some (.int (nI (o (s q)))) ∧ h' = h ∧ sz' = sz) := by
  refine xa_enter (by decide) rfl rfl ?_
  refine xa_aload_n d_Areas_leastOf_0 rfl ?_
  refine xa_getf f_Areas_25 d_Areas_leastOf_1 (by assumption) (by rfl) ?_
  refine xa_aload_n d_Areas_leastOf_4 rfl ?_
  refine xa_getf f_Areas_28 d_Areas_leastOf_5 (by assumption) (by rfl) ?_
  refine xa_iload_n d_Areas_leastOf_8 rfl ?_
  refine xa_ialdE d_Areas_leastOf_9 hS rfl (by omega) (by omega) (h1) ?_
  refine xa_ialdE d_Areas_leastOf_10 hO rfl (by omega) (by omega) (h3) ?_
  exact xa_ireturn d_Areas_leastOf_11 rfl (by omega) (by omega) ⟨rfl, rfl, rfl⟩
theorem c_Areas_pointOf {N a g aA aO aS q i : Nat} {c : Int32} {O S : Nat → Int32} {o s : Nat → Nat} (ha : h a = some (.inr (1, [.int c, .ref g, .ref aA, .ref aO, .ref aS]))) (hO : h aO = some (.inl (D.1 100, N, .inl O))) (hS : h aS = some (.inl (D.1 100, N + 1, .inl S))) (hN : N < 1000) (hq : q < N) (h1 : S q = nI (s q)) (h2 : s q + i < N) (h3 : O (s q + i) = nI (o (s q + i))) :
    xa_M l D H0 M_Areas_pointOf 0 0 0 0 [.ref a, .int (nI q), .int (nI i)] h sz (fun v h' sz' => v = some (.int (nI (o (s q + i)))) ∧ h' = h ∧ sz' = sz) := by
  refine xa_enter (by decide) rfl rfl ?_
  refine xa_aload_n d_Areas_pointOf_0 rfl ?_
  refine xa_getf f_Areas_25 d_Areas_pointOf_1 (by assumption) (by rfl) ?_
  refine xa_aload_n d_Areas_pointOf_4 rfl ?_
  refine xa_getf f_Areas_28 d_Areas_pointOf_5 (by assumption) (by rfl) ?_
  refine xa_iload_n d_Areas_pointOf_8 rfl ?_
  refine xa_ialdE d_Areas_pointOf_9 hS rfl (by omega) (by omega) (h1) ?_
  refine xa_iload_n d_Areas_pointOf_10 rfl ?_
  refine xa_iaddN d_Areas_pointOf_11 ?_
  refine xa_ialdE d_Areas_pointOf_12 hO rfl (by omega) (by omega) (h3) ?_
  exact xa_ireturn d_Areas_pointOf_13 rfl (by omega) (by omega) ⟨rfl, rfl, rfl⟩
end GA
end
section
/-! Heaps that are written: laws of xa_u; cells that look alike; Arrays.fill. -/
theorem xa_uu (h : xa_H) (a : Nat) (e1 e2 : va_E) : xa_u (xa_u h a e1) a e2 = xa_u h a e2 := by
  funext q
  by_cases hq : q = a <;> simp [xa_u, hq]
theorem xa_uc (h : xa_H) {a b : Nat} (hab : a ≠ b) (e1 e2 e3 : va_E) : xa_u (xa_u (xa_u h a e1) b e2) a e3 = xa_u (xa_u h a e3) b e2 := by
  funext q
  by_cases hq : q = a
  · subst hq
    simp [xa_u, hab]
  · have hba : ¬ b = a := fun z => hab z.symm
    by_cases hqb : q = b <;> simp [xa_u, hq, hqb, hba]
theorem xa_us (h : xa_H) {a : Nat} {e : va_E} (ha : h a = some e) : xa_u h a e = h := by
  funext q
  by_cases hq : q = a
  · subst hq
    simp [xa_u, ha]
  · simp [xa_u, hq]
theorem xa_cell_i {cA : ClassId} {N : Nat} {f g : Nat → Int32} (he : ∀ j, j < N → f j = g j) : vp_cell cA (N, .inl f) = vp_cell cA (N, .inl g) := by
  rw [vp_cell_i, vp_cell_i]
  unfold arrV
  congr 2
  funext j
  show Value.int (f j.val) = Value.int (g j.val)
  rw [he j.val j.isLt]
theorem xa_P.alike {D : va_G} {H0 : Heap} {h h' : xa_H} {sz : Nat} {H : Heap} (hP : xa_P D H0 h sz H) (he : ∀ (a : Nat) (e : va_E), h' a = some e → ∃ e0, h a = some e0 ∧ (va_at D xa_cl (a, e0) H → va_at D xa_cl (a, e) H)) : xa_P D H0 h' sz H := by
  refine ⟨hP.1, hP.2.1, hP.2.2.1, fun a e ha => ?_⟩
  obtain ⟨e0, h0, hv⟩ := he a e ha
  exact ⟨(hP.2.2.2 a e0 h0).1, hv (hP.2.2.2 a e0 h0).2⟩
section XO
variable {l : Launch} {D : va_G} {H0 : Heap} {μ : xa_Mu} {R : Room} {Z : xa_Z} {k n : Nat} {h : xa_H} {sz pc : Nat} {ls : List (Nat × Value)} {st : List Value}
/-- a cell's numbers count only below its length -/
theorem xa_cellI {a N : Nat} {cA : ClassId} {f g : Nat → Int32} (he : ∀ j, j < N → f j = g j) (kk : xa_X l D H0 μ R Z k n (xa_u h a (.inl (cA, N, .inl g))) sz pc ls st) : xa_X l D H0 μ R Z k n (xa_u h a (.inl (cA, N, .inl f))) sz pc ls st := by
  intro p e s m args below meth c H locs la C hP hL hl
  refine kk p e s m args below meth c H locs la C (hP.alike fun b e' hb => ?_) hL hl
  unfold xa_u at hb ⊢
  by_cases hq : b = a
  · rw [if_pos hq] at hb ⊢
    cases hb
    refine ⟨_, rfl, fun hv => ?_⟩
    have hv' : H[b]? = some (vp_cell cA (N, .inl f)) := hv
    show H[b]? = some (vp_cell cA (N, .inl g))
    rw [← xa_cell_i he]
    exact hv'
  · rw [if_neg hq] at hb ⊢
    exact ⟨e', hb, fun hv => hv⟩
end XO
section AF
variable {l : Launch} {D : va_G} {H0 : Heap} {h : xa_H} {sz : Nat}
theorem w_Arrays_fill {N a : Nat} {f : Nat → Int32} {x : Int32} {R : Room} (hN : N < 2 ^ 31) (i : Nat) (hi : i ≤ N) : xa_X l D H0 M_Arrays_fill R (xa_Zr D H0 0 0 (fun v h' sz' => v = none ∧ h' = xa_u h a (.inl (D.1 100, N, .inl (fun _ => x))) ∧ sz' = sz)) 0 0 (xa_u h a (.inl (D.1 100, N, .inl (fun j => if j < i then x else f j)))) sz 5 [(0, .ref a), (1, .int x), (3, .int (nI N)), (2, .int (nI i))] [] := by
  refine xa_iload_n d_Arrays_fill_5 rfl ?_
  refine xa_iload_n d_Arrays_fill_6 rfl ?_
  refine xa_icmp_geN (tgt := 20) d_Arrays_fill_7 (by decide) (by omega) (by omega) (fun hb => ?_) (fun hb => ?_)
  · refine xa_cellI (g := fun _ => x) (fun j hj => if_pos (by omega)) ?_
    exact xa_return d_Arrays_fill_20 rfl (by omega) (by omega) ⟨rfl, rfl, rfl⟩
  ·
    refine xa_aload_n d_Arrays_fill_10 rfl ?_
    refine xa_iload_n d_Arrays_fill_11 rfl ?_
    refine xa_iload_n d_Arrays_fill_12 rfl ?_
    refine xa_iastE d_Arrays_fill_13 (xa_u_eq _ _ _) rfl hb hN ?_
    refine xa_iincN d_Arrays_fill_14 rfl rfl rfl ?_
    refine xa_goto (tgt := 5) d_Arrays_fill_17 (by decide) ?_
    rw [xa_uu]
    refine xa_cellI (g := fun j => if j < i + 1 then x else f j) (fun j hj => ?_) ?_
    · show (if j = i then x else if j < i then x else f j) = if j < i + 1 then x else f j
      by_cases h1 : j = i
      · rw [if_pos h1, if_pos (by omega)]
      · rw [if_neg h1]
        by_cases h2 : j < i
        · rw [if_pos h2, if_pos (by omega)]
        · rw [if_neg h2, if_neg (by omega)]
    refine xa_ls ?_ (w_Arrays_fill hN (i + 1) (by omega))
    exact ⟨rfl, rfl, rfl, rfl, trivial⟩
termination_by N - i
decreasing_by omega
theorem c_Arrays_fill {N a : Nat} {f : Nat → Int32} {x : Int32} (ha : h a = some (.inl (D.1 100, N, .inl f))) (hN : N < 2 ^ 31) :
    xa_M l D H0 M_Arrays_fill 0 0 0 0 [.ref a, .int x] h sz (fun v h' sz' => v = none ∧ h' = xa_u h a (.inl (D.1 100, N, .inl (fun _ => x))) ∧ sz' = sz) := by
  refine xa_enter (by decide) rfl rfl ?_
  refine xa_iconst (v := nI 0) d_Arrays_fill_0 rfl ?_
  refine xa_istore_n d_Arrays_fill_1 rfl rfl ?_
  refine xa_aload_n d_Arrays_fill_2 rfl ?_
  refine xa_alen (t0 := 0) rfl d_Arrays_fill_3 (by assumption) (by rfl) ?_
  refine xa_istore_n d_Arrays_fill_4 rfl rfl ?_
  refine xa_ls (ls' := [(0, .ref a), (1, .int x), (3, .int (nI N)), (2, .int (nI 0))]) ⟨rfl, rfl, rfl, rfl, trivial⟩ ?_
  refine xa_heap (xa_us h ha).symm ?_
  refine xa_cellI (g := fun j => if j < 0 then x else f j) (fun j hj => (if_neg (by omega)).symm) ?_
  exact w_Arrays_fill hN 0 (by omega)
end AF
end
section
/-! Calls of methods whose answer and heap are known as terms. -/
section XQ
variable {l : Launch} {D : va_G} {H0 : Heap} {μ ν : xa_Mu} {R : Room} {Z : xa_Z} {k n : Nat} {h : xa_H} {sz pc : Nat} {ls : List (Nat × Value)} {st : List Value}
theorem xa_callSr {idx fr lo mc ms np : Nat} {As st0 : List Value} {v0 : Option Value} {h1 : xa_H} {sz1 : Nat} (hd : decode μ.2.1 pc = .ok (.invokestatic idx, 3)) (hLk : xa_LS μ.1.cls idx ν np) (hM : xa_M l D H0 ν fr lo mc ms As h sz (fun v h' sz' => v = v0 ∧ h' = h1 ∧ sz' = sz1)) (hst : st0 = As.reverse ++ st) (hn : As.length = np) (hw : (st.map fun v => v.category).sum ≤ 8) (hR : fr + 1 ≤ R.frames ∧ 8 + (ν.2.2.1 + 11) + lo ≤ R.locals) (hc : k + mc ≤ R.cells) (hs : n + ms ≤ R.slots) (kk : xa_X l D H0 μ R Z (k + mc) (n + ms) h1 sz1 (pc + 3) ls (v0.toList ++ st)) : xa_X l D H0 μ R Z k n h sz pc ls st0 := xa_callS hd hLk hM hst hn hw hR hc hs (fun v h' sz' hq => by rw [hq.1, hq.2.1, hq.2.2]; exact kk)
theorem xa_callSNr {idx fr lo mc ms np : Nat} {As st0 : List Value} {v0 : Option Value} {h1 : xa_H} {sz1 : Nat} {host : String} (hd : decode μ.2.1 pc = .ok (.invokestatic idx, 3)) (hLk : xa_LSN μ.1.cls idx ν np host) (hM : xa_M l D H0 ν fr lo mc ms As h sz (fun v h' sz' => v = v0 ∧ h' = h1 ∧ sz' = sz1)) (hst : st0 = As.reverse ++ st) (hn : As.length = np) (hw : (st.map fun v => v.category).sum ≤ 8) (hR : fr + 1 ≤ R.frames ∧ 8 + (ν.2.2.1 + 11) + lo ≤ R.locals) (hc : k + mc ≤ R.cells) (hs : n + ms ≤ R.slots) (kk : xa_X l D H0 μ R Z (k + mc) (n + ms) h1 sz1 (pc + 3) ls (v0.toList ++ st)) : xa_X l D H0 μ R Z k n h sz pc ls st0 := xa_callSN hd hLk hM hst hn hw hR hc hs (fun v h' sz' hq => by rw [hq.1, hq.2.1, hq.2.2]; exact kk)
theorem xa_callIr {idx fr lo mc ms np : Nat} {As st0 : List Value} {v0 : Option Value} {h1 : xa_H} {sz1 : Nat} {b : Nat} (hd : decode μ.2.1 pc = .ok (.invokespecial idx, 3)) (hLk : xa_LI μ.1.cls idx ν np) (hM : xa_M l D H0 ν fr lo mc ms (.ref b :: As) h sz (fun v h' sz' => v = v0 ∧ h' = h1 ∧ sz' = sz1)) (hst : st0 = As.reverse ++ .ref b :: st) (hn : As.length = np) (hw : (st.map fun v => v.category).sum ≤ 8) (hR : fr + 1 ≤ R.frames ∧ 8 + (ν.2.2.1 + 11) + lo ≤ R.locals) (hc : k + mc ≤ R.cells) (hs : n + ms ≤ R.slots) (kk : xa_X l D H0 μ R Z (k + mc) (n + ms) h1 sz1 (pc + 3) ls (v0.toList ++ st)) : xa_X l D H0 μ R Z k n h sz pc ls st0 := xa_callI hd hLk hM hst hn hw hR hc hs (fun v h' sz' hq => by rw [hq.1, hq.2.1, hq.2.2]; exact kk)
theorem xa_callVr {idx fr lo mc ms np : Nat} {As st0 : List Value} {v0 : Option Value} {h1 : xa_H} {sz1 : Nat} {b ci : Nat} {fs : List Value} (hd : decode μ.2.1 pc = .ok (.invokevirtual idx, 3)) (hLk : xa_LV μ.1.cls idx ν ci np) (hb : h b = some (.inr (ci, fs))) (hM : xa_M l D H0 ν fr lo mc ms (.ref b :: As) h sz (fun v h' sz' => v = v0 ∧ h' = h1 ∧ sz' = sz1)) (hst : st0 = As.reverse ++ .ref b :: st) (hn : As.length = np) (hw : (st.map fun v => v.category).sum ≤ 8) (hR : fr + 1 ≤ R.frames ∧ 8 + (ν.2.2.1 + 11) + lo ≤ R.locals) (hc : k + mc ≤ R.cells) (hs : n + ms ≤ R.slots) (kk : xa_X l D H0 μ R Z (k + mc) (n + ms) h1 sz1 (pc + 3) ls (v0.toList ++ st)) : xa_X l D H0 μ R Z k n h sz pc ls st0 := xa_callV hd hLk hb hM hst hn hw hR hc hs (fun v h' sz' hq => by rw [hq.1, hq.2.1, hq.2.2]; exact kk)
end XQ
end
section
/-! Areas.spread: the flood. -/
def xs_h (D : va_G) (h : xa_H) (aA aO N : Nat) (A O : Nat → Int32) : xa_H := xa_u (xa_u h aA (.inl (D.1 100, N, .inl A))) aO (.inl (D.1 100, N, .inl O))
theorem xs_hA {D : va_G} {h : xa_H} {aA aO N : Nat} {A O : Nat → Int32} (hab : aA ≠ aO) (A' : Nat → Int32) : xa_u (xs_h D h aA aO N A O) aA (.inl (D.1 100, N, .inl A')) = xs_h D h aA aO N A' O := xa_uc h hab _ _ _
theorem xs_hO {D : va_G} {h : xa_H} {aA aO N : Nat} {A O : Nat → Int32} (O' : Nat → Int32) : xa_u (xs_h D h aA aO N A O) aO (.inl (D.1 100, N, .inl O')) = xs_h D h aA aO N A O' := xa_uu _ _ _ _
theorem xs_hn {D : va_G} {h : xa_H} {aA aO N : Nat} {A O : Nat → Int32} {q : Nat} {e : Option va_E} (hq : h q = e) (h1 : q ≠ aA) (h2 : q ≠ aO) : xs_h D h aA aO N A O q = e := xa_u_ne (xa_u_ne hq h1) h2
theorem xs_ha {D : va_G} {h : xa_H} {aA aO N : Nat} {A O : Nat → Int32} (hab : aA ≠ aO) : xs_h D h aA aO N A O aA = some (.inl (D.1 100, N, .inl A)) := xa_u_ne (xa_u_eq _ _ _) hab
theorem xs_ho {D : va_G} {h : xa_H} {aA aO N : Nat} {A O : Nat → Int32} : xs_h D h aA aO N A O aO = some (.inl (D.1 100, N, .inl O)) := xa_u_eq _ _ _
theorem gb_m1 {a : Nat} (ha : a < 2 ^ 31) : nI a ≠ -1 := by
  intro z
  have h1 := nI_toInt ha
  rw [z] at h1
  have h2 : (-1 : Int32).toInt = -1 := by decide
  omega
section SP
variable {l : Launch} {D : va_G} {H0 : Heap} {h : xa_H} {sz : Nat} {R : Room} {Z : xa_Z}
theorem w_spread_in {n a g ar aA aO aS aK b p c x : Nat} {f K A0 O0 : Nat → Int32} {o : Nat → Nat} (hR : 1 ≤ R.frames ∧ 22 ≤ R.locals)
    (ha : h a = some (.inr (1, [.int (nI c), .ref g, .ref aA, .ref aO, .ref aS]))) (hg : h g = some (.inr (3, [.int (nI (n * n)), .ref ar]))) (har : h ar = some (.inl (D.1 100, 4 * (n * n), .inl f))) (hK : h aK = some (.inl (D.1 100, n * n, .inl K)))
    (hne : aA ≠ aO ∧ a ≠ aA ∧ a ≠ aO ∧ g ≠ aA ∧ g ≠ aO ∧ ar ≠ aA ∧ ar ≠ aO ∧ aK ≠ aA ∧ aK ≠ aO) (hN : n * n < 1000) (hf : ∀ q w, q < n * n → w < 4 → f (4 * q + w) = gb_oi (gb_nb n q w)) (hc : c < 1000) (hp : gs_pre n K A0 o b p)
    (kont : ∀ (V : Nat → Prop) (r : Nat → Nat) (e : Nat) (A O : Nat → Int32), gs_in n K A0 O0 b p c V r e A O → gb_FC n K V r x 4 → x < e → b + e ≤ n * n → xa_X l D H0 M_Areas_spread R Z 0 0 (xs_h D h aA aO (n * n) A O) sz 127 [(0, .ref a), (1, .int (nI p)), (2, .int (nI b)), (3, .ref aK), (4, .int (nI (b + e))), (5, .int (nI (b + x)))] [])
    (w : Nat) (V : Nat → Prop) (r : Nat → Nat) (e : Nat) (A O : Nat → Int32) (hw : w ≤ 4) (hI : gs_in n K A0 O0 b p c V r e A O) (hF : gb_FC n K V r x w) (hx : x < e) (he : b + e ≤ n * n) :
    xa_X l D H0 M_Areas_spread R Z 0 0 (xs_h D h aA aO (n * n) A O) sz 47 [(0, .ref a), (1, .int (nI p)), (2, .int (nI b)), (3, .ref aK), (4, .int (nI (b + e))), (5, .int (nI (b + x))), (6, .int (nI w))] [] := by
  have ha' : xs_h D h aA aO (n * n) A O a = some (.inr (1, [.int (nI c), .ref g, .ref aA, .ref aO, .ref aS])) := xs_hn ha (by omega) (by omega)
  have hg' : xs_h D h aA aO (n * n) A O g = some (.inr (3, [.int (nI (n * n)), .ref ar])) := xs_hn hg (by omega) (by omega)
  have har' : xs_h D h aA aO (n * n) A O ar = some (.inl (D.1 100, 4 * (n * n), .inl f)) := xs_hn har (by omega) (by omega)
  have hK' : xs_h D h aA aO (n * n) A O aK = some (.inl (D.1 100, n * n, .inl K)) := xs_hn hK (by omega) (by omega)
  have hA' : xs_h D h aA aO (n * n) A O aA = some (.inl (D.1 100, n * n, .inl A)) := xs_ha hne.1
  have hO' : xs_h D h aA aO (n * n) A O aO = some (.inl (D.1 100, n * n, .inl O)) := xs_ho
  have hr : r x < n * n := gb_conn_lt hp.1 (hI.1.2.2.1 x hx)
  have hkx : K (r x) = K p := gb_conn_k (hI.1.2.2.1 x hx)
  have hpN := hp.1
  refine xa_iload d_Areas_spread_47 rfl ?_
  refine xa_iconst (v := nI 4) d_Areas_spread_49 rfl ?_
  refine xa_icmp_geN (tgt := 127) d_Areas_spread_50 (by decide) (by omega) (by omega) (fun hb => ?_) (fun hb => ?_)
  · have hw4 : w = 4 := by omega
    subst hw4
    refine xa_ls ?_ (kont V r e A O hI hF hx he)
    exact ⟨rfl, rfl, rfl, rfl, rfl, rfl, trivial⟩
  ·
    refine xa_aload_n d_Areas_spread_53 rfl ?_
    refine xa_getf f_Areas_9 d_Areas_spread_54 (by assumption) (by rfl) ?_
    refine xa_aload_n d_Areas_spread_57 rfl ?_
    refine xa_getf f_Areas_25 d_Areas_spread_58 (by assumption) (by rfl) ?_
    refine xa_iload d_Areas_spread_61 rfl ?_
    refine xa_ialdE d_Areas_spread_63 hO' rfl (by omega) (by omega) (hI.2.2.2.1 x hx) ?_
    refine xa_iload d_Areas_spread_64 rfl ?_
    refine xa_callVr (As := [.int (nI (r x)), .int (nI w)]) (st := []) d_Areas_spread_66 k_Areas_42 hg' (c_Grid_neighbour hg' har' hN hr hb) rfl rfl (by decide) ⟨hR.1, hR.2⟩ (by omega) (by omega) ?_
    have again : (∀ y, gb_nb n (r x) w = some y → K y = K (r x) → V y) → ∀ z : Int32, xa_X l D H0 M_Areas_spread R Z 0 0 (xs_h D h aA aO (n * n) A O) sz 121 [(0, .ref a), (1, .int (nI p)), (2, .int (nI b)), (3, .ref aK), (4, .int (nI (b + e))), (5, .int (nI (b + x))), (6, .int (nI w)), (7, .int z)] [] := by
      intro hs z
      refine xa_iincN d_Areas_spread_121 rfl rfl rfl ?_
      refine xa_goto (tgt := 47) d_Areas_spread_124 (by decide) ?_
      refine xa_ls ?_ (w_spread_in hR ha hg har hK hne hN hf hc hp kont (w + 1) V r e A O (by omega) hI (gb_FC_skip hF hs) hx he)
      exact ⟨rfl, rfl, rfl, rfl, rfl, rfl, rfl, trivial⟩
    have hv := hf (r x) w hr hb
    cases hnb : gb_nb n (r x) w with
    | none =>
      rw [hnb] at hv again
      refine xa_int (show f (4 * r x + w) = -1 from hv) ?_
      refine xa_istore d_Areas_spread_69 rfl rfl ?_
      refine xa_iload d_Areas_spread_71 rfl ?_
      refine xa_iconst (v := -1) d_Areas_spread_73 rfl ?_
      refine xa_icmp_eq (tgt := 121) d_Areas_spread_74 (by decide) (fun hz => ?_) (fun hz => ?_)
      · exact again (fun y hy => by cases hy) (-1)
      · exact absurd rfl hz
    | some y =>
      rw [hnb] at hv again
      have hy := gb_nb_lt hr hb hnb
      refine xa_int (show f (4 * r x + w) = nI y from hv) ?_
      refine xa_istore d_Areas_spread_69 rfl rfl ?_
      refine xa_iload d_Areas_spread_71 rfl ?_
      refine xa_iconst (v := -1) d_Areas_spread_73 rfl ?_
      refine xa_icmp_eq (tgt := 121) d_Areas_spread_74 (by decide) (fun hz => ?_) (fun hz => ?_)
      · exact absurd hz (gb_m1 (by omega))
      ·
        refine xa_aload_n d_Areas_spread_77 rfl ?_
        refine xa_getf f_Areas_21 d_Areas_spread_78 (by assumption) (by rfl) ?_
        refine xa_iload d_Areas_spread_81 rfl ?_
        refine xa_ialdE d_Areas_spread_83 (by assumption) rfl (by omega) (by omega) (by rfl) ?_
        refine xa_iconst (v := -1) d_Areas_spread_84 rfl ?_
        refine xa_icmp_ne (tgt := 121) d_Areas_spread_85 (by decide) (fun hz2 => ?_) (fun hz2 => ?_)
        · exact again (fun y' hy' hk => by cases hy'; exact gs_skip hp hI hx hb hnb hz2 hk) (nI y)
        ·
          refine xa_aload_n d_Areas_spread_88 rfl ?_
          refine xa_iload d_Areas_spread_89 rfl ?_
          refine xa_ialdE d_Areas_spread_91 (by assumption) rfl (by omega) (by omega) (by rfl) ?_
          refine xa_aload_n d_Areas_spread_92 rfl ?_
          refine xa_iload_n d_Areas_spread_93 rfl ?_
          refine xa_ialdE d_Areas_spread_94 (by assumption) rfl (by omega) (by omega) (by rfl) ?_
          refine xa_icmp_ne (tgt := 121) d_Areas_spread_95 (by decide) (fun hz3 => ?_) (fun hz3 => ?_)
          · exact again (fun y' hy' hk => by cases hy'; exact absurd (hk.trans hkx) hz3) (nI y)
          · have hvy : ¬ V y := gs_free hI (gb_m1 (by omega)) hz2
            have hroom : b + e < n * n := gs_room hp hI.1.2.2.1 hI.1.2.2.2.1 (gb_conn_st (hI.1.2.2.1 x hx) hb hnb (hz3.trans hkx.symm)) (fun j hj z => hvy ((hI.1.2.2.2.2 y).mpr ⟨j, hj, z⟩))
            refine xa_aload_n d_Areas_spread_98 rfl ?_
            refine xa_getf f_Areas_21 d_Areas_spread_99 (by assumption) (by rfl) ?_
            refine xa_iload d_Areas_spread_102 rfl ?_
            refine xa_aload_n d_Areas_spread_104 rfl ?_
            refine xa_getf f_Areas_37 d_Areas_spread_105 (by assumption) (by rfl) ?_
            refine xa_iastE d_Areas_spread_108 hA' rfl hy (by omega) ?_
            rw [xs_hA hne.1]
            have ha2 : xs_h D h aA aO (n * n) (upd A y (nI c)) O a = some (.inr (1, [.int (nI c), .ref g, .ref aA, .ref aO, .ref aS])) := xs_hn ha (by omega) (by omega)
            refine xa_aload_n d_Areas_spread_109 rfl ?_
            refine xa_getf f_Areas_25 d_Areas_spread_110 (by assumption) (by rfl) ?_
            refine xa_iload d_Areas_spread_113 rfl ?_
            refine xa_iload d_Areas_spread_115 rfl ?_
            refine xa_iastE d_Areas_spread_117 xs_ho rfl hroom (by omega) ?_
            rw [xs_hO]
            refine xa_iincN d_Areas_spread_118 rfl rfl rfl ?_
            refine xa_iincN d_Areas_spread_121 rfl rfl rfl ?_
            refine xa_goto (tgt := 47) d_Areas_spread_124 (by decide) ?_
            refine xa_ls ?_ (w_spread_in hR ha hg har hK hne hN hf hc hp kont (w + 1) _ _ (e + 1) _ _ (by omega) (gs_add hI hx hb hnb (hz3.trans hkx.symm) hvy) (gb_FC_add hF hx hnb) (by omega) (by omega))
            exact ⟨rfl, rfl, rfl, rfl, rfl, rfl, rfl, trivial⟩
termination_by 4 - w
decreasing_by all_goals omega
end SP
end
section
/-! Areas.spread as a whole, and Areas.split. -/
section SQ
variable {l : Launch} {D : va_G} {H0 : Heap} {h : xa_H} {sz : Nat} {R : Room}
theorem w_spread_out {n a g ar aA aO aS aK b p c : Nat} {f K A0 O0 : Nat → Int32} {o : Nat → Nat} (hR : 1 ≤ R.frames ∧ 22 ≤ R.locals)
    (ha : h a = some (.inr (1, [.int (nI c), .ref g, .ref aA, .ref aO, .ref aS]))) (hg : h g = some (.inr (3, [.int (nI (n * n)), .ref ar]))) (har : h ar = some (.inl (D.1 100, 4 * (n * n), .inl f))) (hK : h aK = some (.inl (D.1 100, n * n, .inl K)))
    (hne : aA ≠ aO ∧ a ≠ aA ∧ a ≠ aO ∧ g ≠ aA ∧ g ≠ aO ∧ ar ≠ aA ∧ ar ≠ aO ∧ aK ≠ aA ∧ aK ≠ aO) (hN : n * n < 1000) (hf : ∀ q w, q < n * n → w < 4 → f (4 * q + w) = gb_oi (gb_nb n q w)) (hc : c < 1000) (hp : gs_pre n K A0 o b p)
    (x : Nat) (V : Nat → Prop) (r : Nat → Nat) (e : Nat) (A O : Nat → Int32) (hI : gs_in n K A0 O0 b p c V r e A O) (hF : gb_FC n K V r x 0) (hx : x ≤ e) (he : b + e ≤ n * n) :
    xa_X l D H0 M_Areas_spread R (xa_Zr D H0 0 0 (fun v h' sz' => ∃ (r : Nat → Nat) (e : Nat) (A O : Nat → Int32), gs_out n K A0 O0 b p c r e A O ∧ b + e ≤ n * n ∧ v = some (.int (nI (b + e))) ∧ h' = xs_h D h aA aO (n * n) A O ∧ sz' = sz)) 0 0 (xs_h D h aA aO (n * n) A O) sz 25 [(0, .ref a), (1, .int (nI p)), (2, .int (nI b)), (3, .ref aK), (4, .int (nI (b + e))), (5, .int (nI (b + x)))] [] := by
  have ha' : xs_h D h aA aO (n * n) A O a = some (.inr (1, [.int (nI c), .ref g, .ref aA, .ref aO, .ref aS])) := xs_hn ha (by omega) (by omega)
  have hg' : xs_h D h aA aO (n * n) A O g = some (.inr (3, [.int (nI (n * n)), .ref ar])) := xs_hn hg (by omega) (by omega)
  have hend : x = e → xa_X l D H0 M_Areas_spread R (xa_Zr D H0 0 0 (fun v h' sz' => ∃ (r : Nat → Nat) (e : Nat) (A O : Nat → Int32), gs_out n K A0 O0 b p c r e A O ∧ b + e ≤ n * n ∧ v = some (.int (nI (b + e))) ∧ h' = xs_h D h aA aO (n * n) A O ∧ sz' = sz)) 0 0 (xs_h D h aA aO (n * n) A O) sz 133 [(0, .ref a), (1, .int (nI p)), (2, .int (nI b)), (3, .ref aK), (4, .int (nI (b + e))), (5, .int (nI (b + x)))] [] := by
    intro hxe
    rw [hxe] at hF
    refine xa_iload d_Areas_spread_133 rfl ?_
    exact xa_ireturn d_Areas_spread_135 rfl (by omega) (by omega) ⟨r, e, A, O, gs_end hI hF, he, rfl, rfl, rfl⟩
  refine xa_iload d_Areas_spread_25 rfl ?_
  refine xa_iload d_Areas_spread_27 rfl ?_
  refine xa_icmp_geN (tgt := 133) d_Areas_spread_29 (by decide) (by omega) (by omega) (fun hb => ?_) (fun hb => ?_)
  · exact hend (by omega)
  ·
    refine xa_iload d_Areas_spread_32 rfl ?_
    refine xa_aload_n d_Areas_spread_34 rfl ?_
    refine xa_getf f_Areas_9 d_Areas_spread_35 (by assumption) (by rfl) ?_
    refine xa_getf f_Areas_15 d_Areas_spread_38 (by assumption) (by rfl) ?_
    refine xa_icmp_geN (tgt := 133) d_Areas_spread_41 (by decide) (by omega) (by omega) (fun hb2 => ?_) (fun hb2 => ?_)
    · omega
    ·
      refine xa_iconst (v := nI 0) d_Areas_spread_44 rfl ?_
      refine xa_istore d_Areas_spread_45 rfl rfl ?_
      refine xa_ls ?_ (w_spread_in hR ha hg har hK hne hN hf hc hp (fun V' r' e' A' O' hI' hF' hx' he' => ?_) 0 V r e A O (by omega) hI hF (by omega) he)
      · exact ⟨rfl, rfl, rfl, rfl, rfl, rfl, rfl, trivial⟩
      ·
        refine xa_iincN d_Areas_spread_127 rfl rfl rfl ?_
        refine xa_goto (tgt := 25) d_Areas_spread_130 (by decide) ?_
        refine xa_ls ?_ (w_spread_out hR ha hg har hK hne hN hf hc hp (x + 1) V' r' e' A' O' hI' (gb_FC_next hF') (by omega) he')
        exact ⟨rfl, rfl, rfl, rfl, rfl, rfl, trivial⟩
termination_by n * n - (b + x)
decreasing_by omega
theorem c_Areas_spread {n a g ar aA aO aS aK b p c : Nat} {f K A0 O0 : Nat → Int32} {o : Nat → Nat}
    (ha : h a = some (.inr (1, [.int (nI c), .ref g, .ref aA, .ref aO, .ref aS]))) (hg : h g = some (.inr (3, [.int (nI (n * n)), .ref ar]))) (har : h ar = some (.inl (D.1 100, 4 * (n * n), .inl f))) (hK : h aK = some (.inl (D.1 100, n * n, .inl K))) (hA : h aA = some (.inl (D.1 100, n * n, .inl A0))) (hO : h aO = some (.inl (D.1 100, n * n, .inl O0)))
    (hne : aA ≠ aO ∧ a ≠ aA ∧ a ≠ aO ∧ g ≠ aA ∧ g ≠ aO ∧ ar ≠ aA ∧ ar ≠ aO ∧ aK ≠ aA ∧ aK ≠ aO) (hN : n * n < 1000) (hf : ∀ q w, q < n * n → w < 4 → f (4 * q + w) = gb_oi (gb_nb n q w)) (hc : c < 1000) (hp : gs_pre n K A0 o b p) :
    xa_M l D H0 M_Areas_spread 1 22 0 0 [.ref a, .int (nI p), .int (nI b), .ref aK] h sz (fun v h' sz' => ∃ (r : Nat → Nat) (e : Nat) (A O : Nat → Int32), gs_out n K A0 O0 b p c r e A O ∧ b + e ≤ n * n ∧ v = some (.int (nI (b + e))) ∧ h' = xs_h D h aA aO (n * n) A O ∧ sz' = sz) := by
  refine xa_enter (by decide) rfl rfl ?_
  have hpN := hp.1
  have hroom : b + 0 < n * n := gs_room (r := fun _ => p) hp (fun j hj => absurd hj (Nat.not_lt_zero _)) (fun i j hi => absurd hi (Nat.not_lt_zero _)) gb_conn_rf (fun j hj => absurd hj (Nat.not_lt_zero _))
  refine xa_heap (show h = xs_h D h aA aO (n * n) A0 O0 from by unfold xs_h; rw [xa_us h hA, xa_us h hO]) ?_
  have ha' : xs_h D h aA aO (n * n) A0 O0 a = some (.inr (1, [.int (nI c), .ref g, .ref aA, .ref aO, .ref aS])) := xs_hn ha (by omega) (by omega)
  refine xa_aload_n d_Areas_spread_0 rfl ?_
  refine xa_getf f_Areas_21 d_Areas_spread_1 (by assumption) (by rfl) ?_
  refine xa_iload_n d_Areas_spread_4 rfl ?_
  refine xa_aload_n d_Areas_spread_5 rfl ?_
  refine xa_getf f_Areas_37 d_Areas_spread_6 (by assumption) (by rfl) ?_
  refine xa_iastE d_Areas_spread_9 (xs_ha hne.1) rfl hpN (by omega) ?_
  rw [xs_hA hne.1]
  have ha2 : xs_h D h aA aO (n * n) (upd A0 p (nI c)) O0 a = some (.inr (1, [.int (nI c), .ref g, .ref aA, .ref aO, .ref aS])) := xs_hn ha (by omega) (by omega)
  refine xa_aload_n d_Areas_spread_10 rfl ?_
  refine xa_getf f_Areas_25 d_Areas_spread_11 (by assumption) (by rfl) ?_
  refine xa_iload_n d_Areas_spread_14 rfl ?_
  refine xa_iload_n d_Areas_spread_15 rfl ?_
  refine xa_iastE d_Areas_spread_16 xs_ho rfl hroom (by omega) ?_
  rw [xs_hO]
  refine xa_iload_n d_Areas_spread_17 rfl ?_
  refine xa_iconst (v := nI 1) d_Areas_spread_18 rfl ?_
  refine xa_iaddN d_Areas_spread_19 ?_
  refine xa_istore d_Areas_spread_20 rfl rfl ?_
  refine xa_iload_n d_Areas_spread_22 rfl ?_
  refine xa_istore d_Areas_spread_23 rfl rfl ?_
  refine xa_ls ?_ (w_spread_out ⟨by decide, by decide⟩ ha hg har hK hne hN hf hc hp 0 _ _ 1 _ _ gs_start gb_FC_0 (by omega) (by omega))
  exact ⟨rfl, rfl, rfl, rfl, rfl, rfl, trivial⟩
end SQ
end
section
/-! Areas.split. -/
def xt_h (D : va_G) (h : xa_H) (a g aA aO aS N c : Nat) (A O S : Nat → Int32) : xa_H := xa_u (xa_u (xs_h D h aA aO N A O) aS (.inl (D.1 100, N + 1, .inl S))) a (.inr (1, [.int (nI c), .ref g, .ref aA, .ref aO, .ref aS]))
section TH
variable {D : va_G} {h : xa_H} {a g aA aO aS N c : Nat} {A O S : Nat → Int32}
theorem xt_hn {q : Nat} {e : Option va_E} (hq : h q = e) (h1 : q ≠ aA) (h2 : q ≠ aO) (h3 : q ≠ aS) (h4 : q ≠ a) : xt_h D h a g aA aO aS N c A O S q = e := xa_u_ne (xa_u_ne (xs_hn hq h1 h2) h3) h4
theorem xt_ha : xt_h D h a g aA aO aS N c A O S a = some (.inr (1, [.int (nI c), .ref g, .ref aA, .ref aO, .ref aS])) := xa_u_eq _ _ _
theorem xt_hS (h1 : aS ≠ a) : xt_h D h a g aA aO aS N c A O S aS = some (.inl (D.1 100, N + 1, .inl S)) := xa_u_ne (xa_u_eq _ _ _) h1
theorem xt_hO (h1 : aO ≠ a) (h2 : aO ≠ aS) : xt_h D h a g aA aO aS N c A O S aO = some (.inl (D.1 100, N, .inl O)) := xa_u_ne (xa_u_ne xs_ho h2) h1
theorem xt_hA (h1 : aA ≠ a) (h2 : aA ≠ aS) (h3 : aA ≠ aO) : xt_h D h a g aA aO aS N c A O S aA = some (.inl (D.1 100, N, .inl A)) := xa_u_ne (xa_u_ne (xs_ha h3) h2) h1
theorem xt_uc (c' : Nat) : xa_u (xt_h D h a g aA aO aS N c A O S) a (.inr (1, [.int (nI c'), .ref g, .ref aA, .ref aO, .ref aS])) = xt_h D h a g aA aO aS N c' A O S := xa_uu _ _ _ _
theorem xt_uS (h1 : aS ≠ a) (S' : Nat → Int32) : xa_u (xt_h D h a g aA aO aS N c A O S) aS (.inl (D.1 100, N + 1, .inl S')) = xt_h D h a g aA aO aS N c A O S' := xa_uc _ h1 _ _ _
theorem xt_uA (h1 : aA ≠ a) (h2 : aA ≠ aS) (h3 : aA ≠ aO) (A' : Nat → Int32) : xa_u (xt_h D h a g aA aO aS N c A O S) aA (.inl (D.1 100, N, .inl A')) = xt_h D h a g aA aO aS N c A' O S := by
  funext q
  unfold xt_h xs_h xa_u
  by_cases k1 : q = aA
  · subst k1; simp [h1, h2, h3]
  · simp [k1]
theorem xt_us (h1 : aA ≠ a) (h2 : aA ≠ aS) (h3 : aA ≠ aO) (h4 : aO ≠ a) (h5 : aO ≠ aS) (A' O' : Nat → Int32) : xs_h D (xt_h D h a g aA aO aS N c A O S) aA aO N A' O' = xt_h D h a g aA aO aS N c A' O' S := by
  funext q
  unfold xt_h xs_h xa_u
  by_cases k1 : q = aA
  · subst k1; simp [h1, h2, h3]
  · by_cases k2 : q = aO
    · subst k2; simp [h4, h5]
    · simp [k1, k2]
theorem xt_0 {A O S : Nat → Int32} (ha : h a = some (.inr (1, [.int (nI c), .ref g, .ref aA, .ref aO, .ref aS]))) (hA : h aA = some (.inl (D.1 100, N, .inl A))) (hO : h aO = some (.inl (D.1 100, N, .inl O))) (hS : h aS = some (.inl (D.1 100, N + 1, .inl S))) : h = xt_h D h a g aA aO aS N c A O S := by
  unfold xt_h xs_h
  rw [xa_us h hA, xa_us h hO, xa_us h hS, xa_us h ha]
end TH
section SR
variable {l : Launch} {D : va_G} {H0 : Heap} {h : xa_H} {sz : Nat} {R : Room}
/-- what Areas.split leaves -/
def xt_W (n : Nat) (K : Nat → Int32) (c : Nat) (ar o s : Nat → Nat) (A O S : Nat → Int32) : Prop := gs_W n K c ar o s ∧ (∀ q, q < n * n → A q = nI (ar q)) ∧ (∀ i, i < n * n → O i = nI (o i)) ∧ ∀ q, q ≤ c → S q = nI (s q)
theorem w_split {n a g aK : Nat} {f K : Nat → Int32} (hR : 2 ≤ R.frames ∧ 49 ≤ R.locals)
    (hg : h g = some (.inr (3, [.int (nI (n * n)), .ref (g + 1)]))) (hag : h (g + 1) = some (.inl (D.1 100, 4 * (n * n), .inl f))) (hK : h aK = some (.inl (D.1 100, n * n, .inl K)))
    (hne : g + 1 < a ∧ aK < a) (hN : n * n < 1000) (hf : ∀ q w, q < n * n → w < 4 → f (4 * q + w) = gb_oi (gb_nb n q w))
    (p c e : Nat) (o s : Nat → Nat) (A O S : Nat → Int32) (hp : p ≤ n * n) (hI : gs_S n K p c e o s A O S) :
    xa_X l D H0 M_Areas_split R (xa_Zr D H0 0 0 (fun v h' sz' => ∃ (c : Nat) (ar o s : Nat → Nat) (A O S : Nat → Int32), xt_W n K c ar o s A O S ∧ v = none ∧ h' = xt_h D h a g (a + 1) (a + 2) (a + 3) (n * n) c A O S ∧ sz' = sz)) 0 0 (xt_h D h a g (a + 1) (a + 2) (a + 3) (n * n) c A O S) sz 17 [(0, .ref a), (1, .ref aK), (2, .int (nI e)), (3, .int (nI p))] [] := by
  have ha' : xt_h D h a g (a + 1) (a + 2) (a + 3) (n * n) c A O S a = some (.inr (1, [.int (nI c), .ref g, .ref (a + 1), .ref (a + 2), .ref (a + 3)])) := xt_ha
  have hg' : xt_h D h a g (a + 1) (a + 2) (a + 3) (n * n) c A O S g = some (.inr (3, [.int (nI (n * n)), .ref (g + 1)])) := xt_hn hg (by omega) (by omega) (by omega) (by omega)
  have hA' : xt_h D h a g (a + 1) (a + 2) (a + 3) (n * n) c A O S (a + 1) = some (.inl (D.1 100, n * n, .inl A)) := xt_hA (by omega) (by omega) (by omega)
  have hS' : xt_h D h a g (a + 1) (a + 2) (a + 3) (n * n) c A O S (a + 3) = some (.inl (D.1 100, n * n + 1, .inl S)) := xt_hS (by omega)
  obtain ⟨hle1, hle2, hle3⟩ := gs_S_le hI
  have hce : c ≤ e := by have h1 := hle1 c (Nat.le_refl c); rw [hI.2.2.2.2.2.2.2.2.2.1] at h1; exact h1
  refine xa_iload_n d_Areas_split_17 rfl ?_
  refine xa_aload_n d_Areas_split_18 rfl ?_
  refine xa_getf f_Areas_9 d_Areas_split_19 (by assumption) (by rfl) ?_
  refine xa_getf f_Areas_15 d_Areas_split_22 (by assumption) (by rfl) ?_
  refine xa_icmp_geN (tgt := 72) d_Areas_split_25 (by decide) (by omega) (by omega) (fun hb => ?_) (fun hb => ?_)
  · have hpe : p = n * n := by omega
    rw [hpe] at hI
    obtain ⟨he, ar, har, hW⟩ := gs_S_end (by omega) hI
    refine xa_aload_n d_Areas_split_72 rfl ?_
    refine xa_getf f_Areas_28 d_Areas_split_73 (by assumption) (by rfl) ?_
    refine xa_aload_n d_Areas_split_76 rfl ?_
    refine xa_getf f_Areas_37 d_Areas_split_77 (by assumption) (by rfl) ?_
    refine xa_iload_n d_Areas_split_80 rfl ?_
    refine xa_iastE d_Areas_split_81 hS' rfl (by omega) (by omega) ?_
    rw [xt_uS (by omega)]
    refine xa_return d_Areas_split_82 rfl (by omega) (by omega) ⟨c, ar, o, s, A, O, upd S c (nI e), ⟨hW, har, fun i hi => (hI.2.2.2.2.1 i (by omega)).2.2, fun q hq => ?_⟩, rfl, rfl, rfl⟩
    by_cases hqc : q = c
    · rw [hqc, hI.2.2.2.2.2.2.2.2.2.1]; simp [upd]
    · simp only [upd, if_neg hqc]; exact hI.2.2.2.2.2.2.2.1 q (by omega)
  ·
    refine xa_aload_n d_Areas_split_28 rfl ?_
    refine xa_getf f_Areas_21 d_Areas_split_29 (by assumption) (by rfl) ?_
    refine xa_iload_n d_Areas_split_32 rfl ?_
    refine xa_ialdE d_Areas_split_33 (by assumption) rfl (by omega) (by omega) (by rfl) ?_
    refine xa_iconst (v := -1) d_Areas_split_34 rfl ?_
    refine xa_icmp_ne (tgt := 66) d_Areas_split_35 (by decide) (fun hz => ?_) (fun hz => ?_)
    ·
      refine xa_iincN d_Areas_split_66 rfl rfl rfl ?_
      refine xa_goto (tgt := 17) d_Areas_split_69 (by decide) ?_
      refine xa_ls ?_ (w_split hR hg hag hK hne hN hf (p + 1) c e o s A O S (by omega) (gs_S_pass hI hz))
      exact ⟨rfl, rfl, rfl, rfl, trivial⟩
    ·
      refine xa_aload_n d_Areas_split_38 rfl ?_
      refine xa_getf f_Areas_28 d_Areas_split_39 (by assumption) (by rfl) ?_
      refine xa_aload_n d_Areas_split_42 rfl ?_
      refine xa_getf f_Areas_37 d_Areas_split_43 (by assumption) (by rfl) ?_
      refine xa_iload_n d_Areas_split_46 rfl ?_
      refine xa_iastE d_Areas_split_47 hS' rfl (by omega) (by omega) ?_
      rw [xt_uS (by omega)]
      have hcN : c < n * n := by
        have h1 := gs_S_pre hI hb hz
        have h2 : e + 0 < n * n := gs_room (r := fun _ => p) h1 (fun j hj => absurd hj (Nat.not_lt_zero _)) (fun i j hi => absurd hi (Nat.not_lt_zero _)) gb_conn_rf (fun j hj => absurd hj (Nat.not_lt_zero _))
        omega
      have ha2 : xt_h D h a g (a + 1) (a + 2) (a + 3) (n * n) c A O (upd S c (nI e)) a = some (.inr (1, [.int (nI c), .ref g, .ref (a + 1), .ref (a + 2), .ref (a + 3)])) := xt_ha
      refine xa_aload_n d_Areas_split_48 rfl ?_
      refine xa_iload_n d_Areas_split_49 rfl ?_
      refine xa_iload_n d_Areas_split_50 rfl ?_
      refine xa_aload_n d_Areas_split_51 rfl ?_
      refine xa_callV (As := [.int (nI p), .int (nI e), .ref aK]) (st := []) d_Areas_split_52 k_Areas_38 ha2 (c_Areas_spread (o := o) ha2 (xt_hn hg (by omega) (by omega) (by omega) (by omega)) (xt_hn hag (by omega) (by omega) (by omega) (by omega)) (xt_hn hK (by omega) (by omega) (by omega) (by omega)) (xt_hA (by omega) (by omega) (by omega)) (xt_hO (by omega) (by omega)) (by omega) hN hf (by omega) (gs_S_pre hI hb hz)) rfl rfl (by decide) ⟨hR.1, hR.2⟩ (by omega) (by omega) (fun v h' sz' hq => ?_)
      obtain ⟨r, m, A2, O2, hout, hem, hv, hh, hsz⟩ := hq
      rw [hv, hh, hsz, xt_us (by omega) (by omega) (by omega) (by omega) (by omega)]
      have ha3 : xt_h D h a g (a + 1) (a + 2) (a + 3) (n * n) c A2 O2 (upd S c (nI e)) a = some (.inr (1, [.int (nI c), .ref g, .ref (a + 1), .ref (a + 2), .ref (a + 3)])) := xt_ha
      refine xa_istore_n d_Areas_split_55 rfl rfl ?_
      refine xa_aload_n d_Areas_split_56 rfl ?_
      refine xa_dup d_Areas_split_57 rfl ?_
      refine xa_getf f_Areas_37 d_Areas_split_58 (by assumption) (by rfl) ?_
      refine xa_iconst (v := nI 1) d_Areas_split_61 rfl ?_
      refine xa_iaddN d_Areas_split_62 ?_
      refine xa_putf f_Areas_37 d_Areas_split_63 ha3 (Nat.le_of_ble_eq_true rfl) rfl rfl ?_
      refine xa_heap (xt_uc (c + 1)) ?_
      refine xa_iincN d_Areas_split_66 rfl rfl rfl ?_
      refine xa_goto (tgt := 17) d_Areas_split_69 (by decide) ?_
      refine xa_ls ?_ (w_split hR hg hag hK hne hN hf (p + 1) (c + 1) (e + m) _ _ A2 O2 (upd S c (nI e)) (by omega) (gs_S_add hI hb hz (fun x hx => gb_m1 (by omega)) (fun x hx z => by have := (nI_eq (by omega) (by omega)).mp z; omega) hout))
      exact ⟨rfl, rfl, rfl, rfl, trivial⟩
termination_by n * n - p
decreasing_by all_goals omega
theorem c_Areas_split {n a g aK : Nat} {f K A O S : Nat → Int32} {c : Nat} (ha : h a = some (.inr (1, [.int (nI c), .ref g, .ref (a + 1), .ref (a + 2), .ref (a + 3)])))
    (hg : h g = some (.inr (3, [.int (nI (n * n)), .ref (g + 1)]))) (hag : h (g + 1) = some (.inl (D.1 100, 4 * (n * n), .inl f))) (hK : h aK = some (.inl (D.1 100, n * n, .inl K))) (hA : h (a + 1) = some (.inl (D.1 100, n * n, .inl A))) (hO : h (a + 2) = some (.inl (D.1 100, n * n, .inl O))) (hS : h (a + 3) = some (.inl (D.1 100, n * n + 1, .inl S)))
    (hne : g + 1 < a ∧ aK < a) (hN : n * n < 1000) (hf : ∀ q w, q < n * n → w < 4 → f (4 * q + w) = gb_oi (gb_nb n q w)) :
    xa_M l D H0 M_Areas_split 2 49 0 0 [.ref a, .ref aK] h sz (fun v h' sz' => ∃ (c : Nat) (ar o s : Nat → Nat) (A O S : Nat → Int32), xt_W n K c ar o s A O S ∧ v = none ∧ h' = xt_h D h a g (a + 1) (a + 2) (a + 3) (n * n) c A O S ∧ sz' = sz) := by
  refine xa_enter (by decide) rfl rfl ?_
  refine xa_heap (xt_0 ha hA hO hS) ?_
  have ha' : xt_h D h a g (a + 1) (a + 2) (a + 3) (n * n) c A O S a = some (.inr (1, [.int (nI c), .ref g, .ref (a + 1), .ref (a + 2), .ref (a + 3)])) := xt_ha
  have hA' : xt_h D h a g (a + 1) (a + 2) (a + 3) (n * n) c A O S (a + 1) = some (.inl (D.1 100, n * n, .inl A)) := xt_hA (by omega) (by omega) (by omega)
  refine xa_aload_n d_Areas_split_0 rfl ?_
  refine xa_getf f_Areas_21 d_Areas_split_1 (by assumption) (by rfl) ?_
  refine xa_iconst (v := -1) d_Areas_split_4 rfl ?_
  refine xa_callSr (As := [.ref (a + 1), .int (-1)]) (st := []) d_Areas_split_5 k_Areas_31 (c_Arrays_fill hA' (by omega)) rfl rfl (by decide) ⟨by decide, by decide⟩ (by decide) (by decide) ?_
  rw [xt_uA (by omega) (by omega) (by omega)]
  have ha2 : xt_h D h a g (a + 1) (a + 2) (a + 3) (n * n) c (fun _ => -1) O S a = some (.inr (1, [.int (nI c), .ref g, .ref (a + 1), .ref (a + 2), .ref (a + 3)])) := xt_ha
  refine xa_aload_n d_Areas_split_8 rfl ?_
  refine xa_iconst (v := nI 0) d_Areas_split_9 rfl ?_
  refine xa_putf f_Areas_37 d_Areas_split_10 ha2 (Nat.le_of_ble_eq_true rfl) rfl rfl ?_
  refine xa_heap (xt_uc 0) ?_
  refine xa_iconst (v := nI 0) d_Areas_split_13 rfl ?_
  refine xa_istore_n d_Areas_split_14 rfl rfl ?_
  refine xa_iconst (v := nI 0) d_Areas_split_15 rfl ?_
  refine xa_istore_n d_Areas_split_16 rfl rfl ?_
  refine xa_ls ?_ (w_split ⟨by decide, by decide⟩ hg hag hK hne hN hf 0 0 0 (fun _ => 0) (fun _ => 0) (fun _ => -1) O S (by omega) (gs_S_0 (fun q hq => rfl) _))
  exact ⟨rfl, rfl, rfl, rfl, trivial⟩
end SR
end
section
/-! What the chart says (pure part): an area's points one behind the other, their neighbours, breaths, holders. -/
theorem gs_W_area {n : Nat} {K : Nat → Int32} {c : Nat} {ar o s : Nat → Nat} (h : gs_W n K c ar o s) {a : Nat} (ha : a < c) : s a < n * n ∧ s (a + 1) ≤ n * n ∧ o (s a) < n * n ∧ ar (o (s a)) = a ∧ ∀ q, gb_conn n K (o (s a)) q ↔ ∃ j, j < s (a + 1) - s a ∧ o (s a + j) = q := by
  obtain ⟨h1, h2, h3, h4, h5, h6, h7, h8, h9, h10, h11⟩ := h
  have mono : ∀ d x, x + d ≤ c → s x ≤ s (x + d) := by
    intro d
    induction d with
    | zero => intro x _; exact Nat.le_refl _
    | succ d ih =>
      intro x hx
      have e1 := h8 (x + d) (by omega)
      have e2 := ih x (by omega)
      show s x ≤ s (x + d + 1)
      omega
  have hs1 : s (a + 1) ≤ n * n := by
    have e := mono (c - (a + 1)) (a + 1) (by omega)
    rw [show a + 1 + (c - (a + 1)) = c by omega, h7] at e
    exact e
  have hlt := h8 a ha
  have hsa : s a < n * n := by omega
  have hp := h3 (s a) hsa
  have hpa : ar (o (s a)) = a := h9 a (s a) ha (Nat.le_refl _) hlt
  refine ⟨hsa, hs1, hp, hpa, fun q => ⟨fun hq => ?_, fun ⟨j, hj, hq⟩ => ?_⟩⟩
  · have hqN := gb_conn_lt hp hq
    have hqa : ar q = a := by rw [← (h2 _ _ hp hqN).mpr hq]; exact hpa
    obtain ⟨i, hi, rfl⟩ := h5 q hqN
    -- i lies in the area's part of the row
    have key : ∀ x, x ≤ c → ∀ i, i < s x → ∃ y, y < x ∧ s y ≤ i ∧ i < s (y + 1) := by
      intro x
      induction x with
      | zero => intro _ i hi; rw [h6] at hi; omega
      | succ x ih =>
        intro hx i hi
        by_cases hix : i < s x
        · obtain ⟨y, e1, e2, e3⟩ := ih (by omega) i hix
          exact ⟨y, by omega, e2, e3⟩
        · exact ⟨x, by omega, by omega, hi⟩
    obtain ⟨y, e1, e2, e3⟩ := key c (Nat.le_refl c) i (by rw [h7]; exact hi)
    have hy := h9 y i e1 e2 e3
    rw [hqa] at hy
    subst hy
    exact ⟨i - s a, by omega, by rw [show s a + (i - s a) = i by omega]⟩
  · have hb : s a + j < s (a + 1) := by omega
    have hqN := h3 (s a + j) (by omega)
    have := h9 a (s a + j) ha (by omega) hb
    rw [← hq]
    exact (h2 _ _ hp hqN).mp (by rw [hpa, this])
def gc_nb (n : Nat) (P : Nat → Nat) (i w x : Nat) : Prop := ∃ j v, (j < i ∧ v < 4 ∨ j = i ∧ v < w) ∧ gb_nb n (P j) v = some x
theorem gc_nb_0 {n : Nat} {P : Nat → Nat} {x : Nat} : ¬ gc_nb n P 0 0 x := by
  rintro ⟨j, v, h, -⟩
  omega
theorem gc_nb_w {n : Nat} {P : Nat → Nat} {i w x : Nat} : gc_nb n P i (w + 1) x ↔ gc_nb n P i w x ∨ gb_nb n (P i) w = some x := by
  constructor
  · rintro ⟨j, v, h, e⟩
    by_cases hv : j = i ∧ v = w
    · obtain ⟨rfl, rfl⟩ := hv
      exact Or.inr e
    · exact Or.inl ⟨j, v, by omega, e⟩
  · rintro (⟨j, v, h, e⟩ | e)
    · exact ⟨j, v, by omega, e⟩
    · exact ⟨i, w, by omega, e⟩
theorem gc_nb_i {n : Nat} {P : Nat → Nat} {i x : Nat} : gc_nb n P (i + 1) 0 x ↔ gc_nb n P i 4 x := by
  constructor
  · rintro ⟨j, v, h, e⟩
    exact ⟨j, v, by omega, e⟩
  · rintro ⟨j, v, h, e⟩
    exact ⟨j, v, by omega, e⟩
theorem gc_nb_end {n : Nat} {K : Nat → Int32} {P : Nat → Nat} {p m x : Nat} (hP : ∀ q, gb_conn n K p q ↔ ∃ j, j < m ∧ P j = q) : gc_nb n P m 0 x ↔ ∃ q w, gb_conn n K p q ∧ w < 4 ∧ gb_nb n q w = some x := by
  constructor
  · rintro ⟨j, v, h, e⟩
    exact ⟨P j, v, (hP _).mpr ⟨j, by omega, rfl⟩, by omega, e⟩
  · rintro ⟨q, w, hq, hw, e⟩
    obtain ⟨j, hj, rfl⟩ := (hP q).mp hq
    exact ⟨j, w, by omega, e⟩
/-- the breaths found so far -/
def gc_F (n : Nat) (b : Nat → Nat) (P : Nat → Nat) (i w x : Nat) : Prop := x < n * n ∧ b x = 0 ∧ gc_nb n P i w x
theorem gc_F_end {n : Nat} {b : Nat → Nat} {P : Nat → Nat} {p m x : Nat} (hp : p < n * n) (hb : ∀ q, q < n * n → b q ≤ 2) (hP : ∀ q, gb_conn n (fun q => nI (b q)) p q ↔ ∃ j, j < m ∧ P j = q) : gc_F n b P m 0 x ↔ gt_br n (fun q => nI (b q)) p x := by
  constructor
  · rintro ⟨h1, h2, h3⟩
    obtain ⟨q, w, hq, hw, e⟩ := (gc_nb_end hP).mp h3
    exact gt_br_of hp hq hw e (by show nI (b x) = 0; rw [h2]; decide)
  · rintro ⟨h1, h2, w, y, hw, hy, hc⟩
    have h0 : b x = 0 := by
      have h3 : nI (b x) = nI 0 := h2
      have h4 := hb x h1
      exact (nI_eq (by omega) (by omega)).mp h3
    exact ⟨h1, h0, (gc_nb_end hP).mpr ⟨y, 3 - w, hc, by omega, (gb_nb_sym h1 hw hy).2⟩⟩
/-- the least of them, or the bound -/
def gc_least (N : Nat) (F : Nat → Prop) (m : Nat) : Prop := m ≤ N ∧ (∀ q, F q → m ≤ q) ∧ (m < N → F m)
theorem gc_least_eq {N : Nat} {F F' : Nat → Prop} {m : Nat} (h : gc_least N F m) (he : ∀ q, F' q ↔ F q) : gc_least N F' m := ⟨h.1, fun q hq => h.2.1 q ((he q).mp hq), fun hm => (he m).mpr (h.2.2 hm)⟩
theorem gc_least_add {N : Nat} {F F' : Nat → Prop} {m x : Nat} (h : gc_least N F m) (hx : x < N) (he : ∀ q, F' q ↔ F q ∨ q = x) : gc_least N F' (if x < m then x else m) := by
  by_cases hxm : x < m
  · rw [if_pos hxm]
    refine ⟨by omega, fun q hq => ?_, fun _ => (he x).mpr (Or.inr rfl)⟩
    rcases (he q).mp hq with h1 | h1
    · have := h.2.1 q h1; omega
    · omega
  · rw [if_neg hxm]
    refine ⟨h.1, fun q hq => ?_, fun hm => (he m).mpr (Or.inl (h.2.2 hm))⟩
    rcases (he q).mp hq with h1 | h1
    · exact h.2.1 q h1
    · omega
theorem gc_least_un {N : Nat} {F : Nat → Prop} {m m' : Nat} (h : gc_least N F m) (h' : gc_least N F m') : m = m' := by
  rcases Nat.lt_trichotomy m m' with h1 | h1 | h1
  · have := h'.2.1 m (h.2.2 (by have := h'.1; omega)); omega
  · exact h1
  · have := h.2.1 m' (h'.2.2 (by have := h.1; omega)); omega
/-- a side is met beside what hangs together with p -/
def gc_meet (n : Nat) (b : Nat → Nat) (p x : Nat) : Prop := ∃ q w y, gb_conn n (fun q => nI (b q)) p q ∧ w < 4 ∧ gb_nb n q w = some y ∧ b y = x
noncomputable def gc_hold (n : Nat) (b : Nat → Nat) (p : Nat) : Nat := @ite Nat (gc_meet n b p 1 ∧ ¬ gc_meet n b p 2) (Classical.propDecidable _) 1 (@ite Nat (gc_meet n b p 2 ∧ ¬ gc_meet n b p 1) (Classical.propDecidable _) 2 0)
theorem gc_hold_1 {n : Nat} {b : Nat → Nat} {p : Nat} (h1 : gc_meet n b p 1) (h2 : ¬ gc_meet n b p 2) : gc_hold n b p = 1 := by
  unfold gc_hold
  exact if_pos ⟨h1, h2⟩
theorem gc_hold_2 {n : Nat} {b : Nat → Nat} {p : Nat} (h1 : ¬ gc_meet n b p 1) (h2 : gc_meet n b p 2) : gc_hold n b p = 2 := by
  unfold gc_hold
  rw [if_neg (fun z => h1 z.1)]
  exact if_pos ⟨h2, h1⟩
theorem gc_hold_0 {n : Nat} {b : Nat → Nat} {p : Nat} (h : (gc_meet n b p 1 ∧ gc_meet n b p 2) ∨ (¬ gc_meet n b p 1 ∧ ¬ gc_meet n b p 2)) : gc_hold n b p = 0 := by
  unfold gc_hold
  rw [if_neg (fun z => h.elim (fun w => z.2 w.2) (fun w => w.1 z.1)), if_neg (fun z => h.elim (fun w => z.2 w.1) (fun w => w.2 z.1))]
/-- which side was met so far: t; 0: none -/
def gc_M (n : Nat) (b : Nat → Nat) (P : Nat → Nat) (i w t : Nat) : Prop := t ≤ 2 ∧ (∀ x, gc_nb n P i w x → b x = 0 ∨ b x = t) ∧ (t ≠ 0 → ∃ x, gc_nb n P i w x ∧ b x = t)
theorem gc_M_end {n : Nat} {b : Nat → Nat} {P : Nat → Nat} {p m t : Nat} (hP : ∀ q, gb_conn n (fun q => nI (b q)) p q ↔ ∃ j, j < m ∧ P j = q) (h : gc_M n b P m 0 t) : gc_hold n b p = t := by
  obtain ⟨h1, h2, h3⟩ := h
  have hm : ∀ x, x ≠ 0 → (gc_meet n b p x ↔ ∃ y, gc_nb n P m 0 y ∧ b y = x) := fun x hx => by
    constructor
    · rintro ⟨q, w, y, hq, hw, e, hb⟩
      exact ⟨y, (gc_nb_end hP).mpr ⟨q, w, hq, hw, e⟩, hb⟩
    · rintro ⟨y, hy, hb⟩
      obtain ⟨q, w, hq, hw, e⟩ := (gc_nb_end hP).mp hy
      exact ⟨q, w, y, hq, hw, e, hb⟩
  have no : ∀ x, x ≠ 0 → x ≠ t → ¬ gc_meet n b p x := fun x hx hxt hz => by
    obtain ⟨y, hy, hb⟩ := (hm x hx).mp hz
    rcases h2 y hy with e | e <;> omega
  have ht : t = 0 ∨ t = 1 ∨ t = 2 := by omega
  rcases ht with rfl | rfl | rfl
  · exact gc_hold_0 (Or.inr ⟨no 1 (by decide) (by decide), no 2 (by decide) (by decide)⟩)
  · exact gc_hold_1 ((hm 1 (by decide)).mpr (h3 (by decide))) (no 2 (by decide) (by decide))
  · exact gc_hold_2 (no 1 (by decide) (by decide)) ((hm 2 (by decide)).mpr (h3 (by decide)))
end
section
/-! Chart: the small methods, isFree, findHolder. -/
section CH
variable {l : Launch} {D : va_G} {H0 : Heap} {h : xa_H} {sz : Nat} {R : Room} {Z : xa_Z}
theorem c_SB_otherSide {x : Nat} (hx : x ≤ 3) : xa_M l D H0 M_SB_otherSide 0 0 0 0 [.int (nI x)] h sz (fun v h' sz' => v = some (.int (nI (3 - x))) ∧ h' = h ∧ sz' = sz) := by
  refine xa_enter (by decide) rfl rfl ?_
  refine xa_iconst (v := nI 3) d_SB_otherSide_0 rfl ?_
  refine xa_iload_n d_SB_otherSide_1 rfl ?_
  refine xa_isubN d_SB_otherSide_2 (by omega) ?_
  exact xa_ireturn d_SB_otherSide_3 rfl (by omega) (by omega) ⟨rfl, rfl, rfl⟩
/-- what is read of a chart -/
def xc_R (D : va_G) (h : xa_H) (n ch g aK c : Nat) (f A O S : Nat → Int32) (b : Nat → Nat) : Prop :=
  h ch = some (.inr (2, [.ref (ch + 1), .ref g, .ref aK, .ref (ch + 5), .ref (ch + 6), .ref (ch + 7), .ref (ch + 8)])) ∧ h (ch + 1) = some (.inr (1, [.int (nI c), .ref g, .ref (ch + 2), .ref (ch + 3), .ref (ch + 4)])) ∧ h (ch + 2) = some (.inl (D.1 100, n * n, .inl A)) ∧ h (ch + 3) = some (.inl (D.1 100, n * n, .inl O)) ∧ h (ch + 4) = some (.inl (D.1 100, n * n + 1, .inl S)) ∧
  h g = some (.inr (3, [.int (nI (n * n)), .ref (g + 1)])) ∧ h (g + 1) = some (.inl (D.1 100, 4 * (n * n), .inl f)) ∧ h aK = some (.inl (D.1 100, n * n, .inl (fun q => nI (b q)))) ∧ n * n < 1000 ∧ (∀ q w, q < n * n → w < 4 → f (4 * q + w) = gb_oi (gb_nb n q w)) ∧ ∀ q, q < n * n → b q ≤ 2
theorem c_Chart_isFree {n ch g aK c q : Nat} {f A O S : Nat → Int32} {b ar o s : Nat → Nat} (hr : xc_R D h n ch g aK c f A O S b) (hW : xt_W n (fun q => nI (b q)) c ar o s A O S) (hq : q < c) :
    xa_M l D H0 M_Chart_isFree 1 21 0 0 [.ref ch, .int (nI q)] h sz (fun v h' sz' => v = some (.int (if b (o (s q)) = 0 then 1 else 0)) ∧ h' = h ∧ sz' = sz) := by
  obtain ⟨r1, r2, r3, r4, r5, r6, r7, r8, hN, hf, hb⟩ := hr
  obtain ⟨w1, w2, w3, w4⟩ := hW
  obtain ⟨a1, a2, a3, a4, a5⟩ := gs_W_area w1 hq
  have hcN : c ≤ n * n := w1.2.2.2.2.2.2.2.2.2.2
  have hb2 := hb _ a3
  refine xa_enter (by decide) rfl rfl ?_
  refine xa_aload_n d_Chart_isFree_0 rfl ?_
  refine xa_getf f_Chart_15 d_Chart_isFree_1 (by assumption) (by rfl) ?_
  refine xa_aload_n d_Chart_isFree_4 rfl ?_
  refine xa_getf f_Chart_24 d_Chart_isFree_5 (by assumption) (by rfl) ?_
  refine xa_iload_n d_Chart_isFree_8 rfl ?_
  refine xa_callVr (As := [.int (nI q)]) (st := [.ref aK]) d_Chart_isFree_9 k_Chart_68 r2 (c_Areas_leastOf (o := o) (s := s) r2 r4 r5 hN (by omega) (w4 q (by omega)) a1 (w3 _ a1)) rfl rfl (Nat.le_of_ble_eq_true rfl) ⟨by decide, by decide⟩ (by decide) (by decide) ?_
  refine xa_ialdE (j := o (s q)) d_Chart_isFree_12 r8 rfl a3 (by omega) rfl ?_
  refine xa_if_neN (tgt := 20) d_Chart_isFree_13 (by decide) (by omega) (fun hz => ?_) (fun hz => ?_)
  ·
    refine xa_iconst (v := nI 0) d_Chart_isFree_20 rfl ?_
    exact xa_zreturn d_Chart_isFree_21 rfl rfl (by omega) (by omega) ⟨by rw [if_neg (by omega)]; rfl, rfl, rfl⟩
  ·
    refine xa_iconst (v := nI 1) d_Chart_isFree_16 rfl ?_
    refine xa_goto (tgt := 21) d_Chart_isFree_17 (by decide) ?_
    exact xa_zreturn d_Chart_isFree_21 rfl rfl (by omega) (by omega) ⟨by rw [if_pos hz]; rfl, rfl, rfl⟩
theorem w_holder_in {n ch g aK c q i : Nat} {f A O S : Nat → Int32} {b ar o s : Nat → Nat} (hR : 1 ≤ R.frames ∧ 22 ≤ R.locals) (hr : xc_R D h n ch g aK c f A O S b) (hW : xt_W n (fun q => nI (b q)) c ar o s A O S) (hq : q < c) (hi : i < s (q + 1) - s q)
    (kont : ∀ t, gc_M n b (fun j => o (s q + j)) i 4 t → xa_X l D H0 M_Chart_findHolder R (xa_Zr D H0 0 0 (fun v h' sz' => v = some (.int (nI (gc_hold n b (o (s q))))) ∧ h' = h ∧ sz' = sz)) 0 0 h sz 94 [(0, .ref ch), (1, .int (nI q)), (2, .int (nI t)), (3, .int (nI i))] [])
    (w t : Nat) (hw : w ≤ 4) (hM : gc_M n b (fun j => o (s q + j)) i w t) :
    xa_X l D H0 M_Chart_findHolder R (xa_Zr D H0 0 0 (fun v h' sz' => v = some (.int (nI (gc_hold n b (o (s q))))) ∧ h' = h ∧ sz' = sz)) 0 0 h sz 19 [(0, .ref ch), (1, .int (nI q)), (2, .int (nI t)), (3, .int (nI i)), (4, .int (nI w))] [] := by
  obtain ⟨r1, r2, r3, r4, r5, r6, r7, r8, hN, hf, hb⟩ := id hr
  obtain ⟨w1, w2, w3, w4⟩ := id hW
  obtain ⟨a1, a2, a3, a4, a5⟩ := gs_W_area w1 hq
  have hcN : c ≤ n * n := w1.2.2.2.2.2.2.2.2.2.2
  have hpi : o (s q + i) < n * n := w1.2.2.1 _ (by omega)
  have hcon : gb_conn n (fun q => nI (b q)) (o (s q)) (o (s q + i)) := (a5 _).mpr ⟨i, hi, rfl⟩
  have ht2 := hM.1
  refine xa_iload d_Chart_findHolder_19 rfl ?_
  refine xa_iconst (v := nI 4) d_Chart_findHolder_21 rfl ?_
  refine xa_icmp_geN (tgt := 94) d_Chart_findHolder_22 (by decide) (by omega) (by omega) (fun hb4 => ?_) (fun hb4 => ?_)
  · have hw4 : w = 4 := by omega
    subst hw4
    refine xa_ls ?_ (kont t hM)
    exact ⟨rfl, rfl, rfl, rfl, trivial⟩
  ·
    refine xa_aload_n d_Chart_findHolder_25 rfl ?_
    refine xa_getf f_Chart_9 d_Chart_findHolder_26 (by assumption) (by rfl) ?_
    refine xa_aload_n d_Chart_findHolder_29 rfl ?_
    refine xa_getf f_Chart_24 d_Chart_findHolder_30 (by assumption) (by rfl) ?_
    refine xa_iload_n d_Chart_findHolder_33 rfl ?_
    refine xa_iload_n d_Chart_findHolder_34 rfl ?_
    refine xa_callVr (As := [.int (nI q), .int (nI i)]) (st := [.ref g]) d_Chart_findHolder_35 k_Chart_78 r2 (c_Areas_pointOf (o := o) (s := s) r2 r4 r5 hN (by omega) (w4 q (by omega)) (by omega) (w3 _ (by omega))) rfl rfl (Nat.le_of_ble_eq_true rfl) ⟨hR.1, hR.2⟩ (by omega) (by omega) ?_
    refine xa_iload d_Chart_findHolder_38 rfl ?_
    refine xa_callVr (As := [.int (nI (o (s q + i))), .int (nI w)]) (st := []) d_Chart_findHolder_40 k_Chart_82 r6 (c_Grid_neighbour r6 r7 hN hpi hb4) rfl rfl (Nat.le_of_ble_eq_true rfl) ⟨hR.1, by have := hR.2; show 8 + (3 + 11) + 0 ≤ _; omega⟩ (by omega) (by omega) ?_
    have again : ∀ t' : Nat, gc_M n b (fun j => o (s q + j)) i (w + 1) t' → ∀ z : Int32, xa_X l D H0 M_Chart_findHolder R (xa_Zr D H0 0 0 (fun v h' sz' => v = some (.int (nI (gc_hold n b (o (s q))))) ∧ h' = h ∧ sz' = sz)) 0 0 h sz 88 [(0, .ref ch), (1, .int (nI q)), (2, .int (nI t')), (3, .int (nI i)), (4, .int (nI w)), (5, .int z)] [] := by
      intro t' hM' z
      refine xa_iincN d_Chart_findHolder_88 rfl rfl rfl ?_
      refine xa_goto (tgt := 19) d_Chart_findHolder_91 (by decide) ?_
      refine xa_ls ?_ (w_holder_in hR hr hW hq hi kont (w + 1) t' (by omega) hM')
      exact ⟨rfl, rfl, rfl, rfl, rfl, trivial⟩
    have hv := hf (o (s q + i)) w hpi hb4
    cases hnb : gb_nb n (o (s q + i)) w with
    | none =>
      rw [hnb] at hv
      refine xa_int (show f (4 * o (s q + i) + w) = -1 from hv) ?_
      refine xa_istore d_Chart_findHolder_43 rfl rfl ?_
      refine xa_iload d_Chart_findHolder_45 rfl ?_
      refine xa_iconst (v := -1) d_Chart_findHolder_47 rfl ?_
      refine xa_icmp_eq (tgt := 88) d_Chart_findHolder_48 (by decide) (fun hz => ?_) (fun hz => ?_)
      · refine xa_ls ?_ (again t ⟨hM.1, fun x hx => ?_, fun hx => ?_⟩ (-1))
        · exact ⟨rfl, rfl, rfl, rfl, rfl, rfl, trivial⟩
        · rcases gc_nb_w.mp hx with e | e
          · exact hM.2.1 x e
          · rw [hnb] at e; cases e
        · obtain ⟨x, e1, e2⟩ := hM.2.2 hx
          exact ⟨x, gc_nb_w.mpr (Or.inl e1), e2⟩
      · exact absurd rfl hz
    | some y =>
      rw [hnb] at hv
      have hy := gb_nb_lt hpi hb4 hnb
      have hby := hb y hy
      refine xa_int (show f (4 * o (s q + i) + w) = nI y from hv) ?_
      refine xa_istore d_Chart_findHolder_43 rfl rfl ?_
      refine xa_iload d_Chart_findHolder_45 rfl ?_
      refine xa_iconst (v := -1) d_Chart_findHolder_47 rfl ?_
      refine xa_icmp_eq (tgt := 88) d_Chart_findHolder_48 (by decide) (fun hz => ?_) (fun hz => ?_)
      · exact absurd hz (gb_m1 (by omega))
      ·
        refine xa_aload_n d_Chart_findHolder_51 rfl ?_
        refine xa_getf f_Chart_15 d_Chart_findHolder_52 (by assumption) (by rfl) ?_
        refine xa_iload d_Chart_findHolder_55 rfl ?_
        refine xa_ialdE d_Chart_findHolder_57 (by assumption) rfl (by omega) (by omega) (by rfl) ?_
        refine xa_if_neN (tgt := 64) d_Chart_findHolder_58 (by decide) (by omega) (fun hz2 => ?_) (fun hz2 => ?_)
        ·
          refine xa_iload_n d_Chart_findHolder_64 rfl ?_
          refine xa_aload_n d_Chart_findHolder_65 rfl ?_
          refine xa_getf f_Chart_15 d_Chart_findHolder_66 (by assumption) (by rfl) ?_
          refine xa_iload d_Chart_findHolder_69 rfl ?_
          refine xa_ialdE d_Chart_findHolder_71 (by assumption) rfl (by omega) (by omega) (by rfl) ?_
          refine xa_callSNr (As := [.int (nI (b y))]) (st := [.int (nI t)]) d_Chart_findHolder_72 k_Chart_85 (c_SB_otherSide (by omega)) rfl rfl (Nat.le_of_ble_eq_true rfl) ⟨hR.1, by have := hR.2; show 8 + (1 + 11) + 0 ≤ _; omega⟩ (by omega) (by omega) ?_
          refine xa_icmp_neN (tgt := 80) d_Chart_findHolder_75 (by decide) (by omega) (by omega) (fun hz3 => ?_) (fun hz3 => ?_)
          ·
            refine xa_aload_n d_Chart_findHolder_80 rfl ?_
            refine xa_getf f_Chart_15 d_Chart_findHolder_81 (by assumption) (by rfl) ?_
            refine xa_iload d_Chart_findHolder_84 rfl ?_
            refine xa_ialdE d_Chart_findHolder_86 (by assumption) rfl (by omega) (by omega) (by rfl) ?_
            refine xa_istore_n d_Chart_findHolder_87 rfl rfl ?_
            refine xa_ls ?_ (again (b y) ⟨hby, fun x hx => ?_, fun hx => ⟨y, gc_nb_w.mpr (Or.inr hnb), rfl⟩⟩ (nI y))
            · exact ⟨rfl, rfl, rfl, rfl, rfl, rfl, trivial⟩
            · rcases gc_nb_w.mp hx with e | e
              · rcases hM.2.1 x e with e1 | e1
                · exact Or.inl e1
                · by_cases h0 : t = 0
                  · exact Or.inl (by omega)
                  · exact Or.inr (by omega)
              · rw [hnb] at e; cases e; exact Or.inr rfl
          ·
            refine xa_iconst (v := nI 0) d_Chart_findHolder_78 rfl ?_
            obtain ⟨x, ⟨j, v, hjv, e1⟩, e2⟩ := hM.2.2 (by omega)
            have m1 : gc_meet n b (o (s q)) t := ⟨o (s q + j), v, x, (a5 _).mpr ⟨j, by omega, rfl⟩, by omega, e1, e2⟩
            have m2 : gc_meet n b (o (s q)) (b y) := ⟨o (s q + i), w, y, hcon, hb4, hnb, rfl⟩
            have h0 : gc_hold n b (o (s q)) = 0 := gc_hold_0 (Or.inl (by
              rcases (show (t = 1 ∧ b y = 2) ∨ (t = 2 ∧ b y = 1) by omega) with ⟨e3, e4⟩ | ⟨e3, e4⟩
              · rw [e3] at m1; rw [e4] at m2; exact ⟨m1, m2⟩
              · rw [e3] at m1; rw [e4] at m2; exact ⟨m2, m1⟩))
            exact xa_ireturn d_Chart_findHolder_79 rfl (by omega) (by omega) ⟨by rw [h0], rfl, rfl⟩
        ·
          refine xa_goto (tgt := 88) d_Chart_findHolder_61 (by decide) ?_
          refine xa_ls ?_ (again t ⟨hM.1, fun x hx => ?_, fun hx => ?_⟩ (nI y))
          · exact ⟨rfl, rfl, rfl, rfl, rfl, rfl, trivial⟩
          · rcases gc_nb_w.mp hx with e | e
            · exact hM.2.1 x e
            · rw [hnb] at e; cases e; exact Or.inl hz2
          · obtain ⟨x, e1, e2⟩ := hM.2.2 hx
            exact ⟨x, gc_nb_w.mpr (Or.inl e1), e2⟩
termination_by 4 - w
decreasing_by omega
theorem w_holder {n ch g aK c q : Nat} {f A O S : Nat → Int32} {b ar o s : Nat → Nat} (hR : 1 ≤ R.frames ∧ 22 ≤ R.locals) (hr : xc_R D h n ch g aK c f A O S b) (hW : xt_W n (fun q => nI (b q)) c ar o s A O S) (hq : q < c)
    (i t : Nat) (hi : i ≤ s (q + 1) - s q) (hM : gc_M n b (fun j => o (s q + j)) i 0 t) :
    xa_X l D H0 M_Chart_findHolder R (xa_Zr D H0 0 0 (fun v h' sz' => v = some (.int (nI (gc_hold n b (o (s q))))) ∧ h' = h ∧ sz' = sz)) 0 0 h sz 4 [(0, .ref ch), (1, .int (nI q)), (2, .int (nI t)), (3, .int (nI i))] [] := by
  obtain ⟨r1, r2, r3, r4, r5, r6, r7, r8, hN, hf, hb⟩ := id hr
  obtain ⟨w1, w2, w3, w4⟩ := id hW
  obtain ⟨a1, a2, a3, a4, a5⟩ := gs_W_area w1 hq
  have hcN : c ≤ n * n := w1.2.2.2.2.2.2.2.2.2.2
  have hlt := w1.2.2.2.2.2.2.2.1 q hq
  refine xa_iload_n d_Chart_findHolder_4 rfl ?_
  refine xa_aload_n d_Chart_findHolder_5 rfl ?_
  refine xa_getf f_Chart_24 d_Chart_findHolder_6 (by assumption) (by rfl) ?_
  refine xa_iload_n d_Chart_findHolder_9 rfl ?_
  refine xa_callVr (As := [.int (nI q)]) (st := [.int (nI i)]) d_Chart_findHolder_10 k_Chart_75 r2 (c_Areas_sizeOf (s := s) r2 r5 hN (by omega) (w4 q (by omega)) (w4 (q + 1) (by omega)) (by omega)) rfl rfl (Nat.le_of_ble_eq_true rfl) ⟨hR.1, by have := hR.2; show 8 + (2 + 11) + 0 ≤ _; omega⟩ (by omega) (by omega) ?_
  refine xa_icmp_geN (tgt := 100) d_Chart_findHolder_13 (by decide) (by omega) (by omega) (fun hb4 => ?_) (fun hb4 => ?_)
  ·
    refine xa_iload_n d_Chart_findHolder_100 rfl ?_
    have hie : i = s (q + 1) - s q := by omega
    rw [hie] at hM
    exact xa_ireturn d_Chart_findHolder_101 rfl (by omega) (by omega) ⟨by rw [gc_M_end a5 hM], rfl, rfl⟩
  ·
    refine xa_iconst (v := nI 0) d_Chart_findHolder_16 rfl ?_
    refine xa_istore d_Chart_findHolder_17 rfl rfl ?_
    refine xa_ls ?_ (w_holder_in hR hr hW hq hb4 (fun t' hM' => ?_) 0 t (by omega) hM)
    · exact ⟨rfl, rfl, rfl, rfl, rfl, trivial⟩
    ·
      refine xa_iincN d_Chart_findHolder_94 rfl rfl rfl ?_
      refine xa_goto (tgt := 4) d_Chart_findHolder_97 (by decide) ?_
      refine xa_ls ?_ (w_holder hR hr hW hq (i + 1) t' (by omega) ⟨hM'.1, fun x hx => hM'.2.1 x (gc_nb_i.mp hx), fun hx => ?_⟩)
      · exact ⟨rfl, rfl, rfl, rfl, trivial⟩
      · obtain ⟨x, e1, e2⟩ := hM'.2.2 hx
        exact ⟨x, gc_nb_i.mpr e1, e2⟩
termination_by s (q + 1) - s q - i
decreasing_by omega
theorem c_Chart_findHolder {n ch g aK c q : Nat} {f A O S : Nat → Int32} {b ar o s : Nat → Nat} (hr : xc_R D h n ch g aK c f A O S b) (hW : xt_W n (fun q => nI (b q)) c ar o s A O S) (hq : q < c) :
    xa_M l D H0 M_Chart_findHolder 1 22 0 0 [.ref ch, .int (nI q)] h sz (fun v h' sz' => v = some (.int (nI (gc_hold n b (o (s q))))) ∧ h' = h ∧ sz' = sz) := by
  refine xa_enter (by decide) rfl rfl ?_
  refine xa_iconst (v := nI 0) d_Chart_findHolder_0 rfl ?_
  refine xa_istore_n d_Chart_findHolder_1 rfl rfl ?_
  refine xa_iconst (v := nI 0) d_Chart_findHolder_2 rfl ?_
  refine xa_istore_n d_Chart_findHolder_3 rfl rfl ?_
  refine xa_ls ?_ (w_holder ⟨by decide, by decide⟩ hr hW hq 0 0 (by omega) ⟨by omega, fun x hx => absurd hx gc_nb_0, fun hx => absurd rfl hx⟩)
  exact ⟨rfl, rfl, rfl, rfl, trivial⟩
theorem c_Chart_get5 {ch a1 g aK N q x : Nat} {w : Nat} {F : Nat → Int32} {v2 v3 v4 : Value} (hc : h ch = some (.inr (2, [.ref a1, .ref g, .ref aK, .ref w, v2, v3, v4]))) (hF : h w = some (.inl (D.1 100, N, .inl F))) (hN : N < 1000) (hq : q < N) (hx : F q = nI x) :
    xa_M l D H0 M_Chart_breathsOf 0 0 0 0 [.ref ch, .int (nI q)] h sz (fun v h' sz' => v = some (.int (nI x)) ∧ h' = h ∧ sz' = sz) := by
  refine xa_enter (by decide) rfl rfl ?_
  refine xa_aload_n d_Chart_breathsOf_0 rfl ?_
  refine xa_getf f_Chart_34 d_Chart_breathsOf_1 (by assumption) (by rfl) ?_
  refine xa_iload_n d_Chart_breathsOf_4 rfl ?_
  refine xa_ialdE d_Chart_breathsOf_5 hF rfl (hq) (by omega) (hx) ?_
  exact xa_ireturn d_Chart_breathsOf_6 rfl (by omega) (by omega) ⟨rfl, rfl, rfl⟩
theorem c_Chart_get6 {ch a1 g aK N q x : Nat} {w : Nat} {F : Nat → Int32} {v2 v3 v4 : Value} (hc : h ch = some (.inr (2, [.ref a1, .ref g, .ref aK, v2, .ref w, v3, v4]))) (hF : h w = some (.inl (D.1 100, N, .inl F))) (hN : N < 1000) (hq : q < N) (hx : F q = nI x) :
    xa_M l D H0 M_Chart_leastBreathOf 0 0 0 0 [.ref ch, .int (nI q)] h sz (fun v h' sz' => v = some (.int (nI x)) ∧ h' = h ∧ sz' = sz) := by
  refine xa_enter (by decide) rfl rfl ?_
  refine xa_aload_n d_Chart_leastBreathOf_0 rfl ?_
  refine xa_getf f_Chart_37 d_Chart_leastBreathOf_1 (by assumption) (by rfl) ?_
  refine xa_iload_n d_Chart_leastBreathOf_4 rfl ?_
  refine xa_ialdE d_Chart_leastBreathOf_5 hF rfl (hq) (by omega) (hx) ?_
  exact xa_ireturn d_Chart_leastBreathOf_6 rfl (by omega) (by omega) ⟨rfl, rfl, rfl⟩
theorem c_Chart_get7 {ch a1 g aK N q x : Nat} {w : Nat} {F : Nat → Int32} {v2 v3 v4 : Value} (hc : h ch = some (.inr (2, [.ref a1, .ref g, .ref aK, v2, v3, .ref w, v4]))) (hF : h w = some (.inl (D.1 100, N, .inl F))) (hN : N < 1000) (hq : q < N) (hx : F q = nI x) :
    xa_M l D H0 M_Chart_holderOf 0 0 0 0 [.ref ch, .int (nI q)] h sz (fun v h' sz' => v = some (.int (nI x)) ∧ h' = h ∧ sz' = sz) := by
  refine xa_enter (by decide) rfl rfl ?_
  refine xa_aload_n d_Chart_holderOf_0 rfl ?_
  refine xa_getf f_Chart_40 d_Chart_holderOf_1 (by assumption) (by rfl) ?_
  refine xa_iload_n d_Chart_holderOf_4 rfl ?_
  refine xa_ialdE d_Chart_holderOf_5 hF rfl (hq) (by omega) (hx) ?_
  exact xa_ireturn d_Chart_holderOf_6 rfl (by omega) (by omega) ⟨rfl, rfl, rfl⟩
end CH
end
section
/-! Chart.countBreaths. -/
section MM
variable {l : Launch} {D : va_G} {H0 : Heap} {μ : xa_Mu} {R : Room} {Z : xa_Z} {k n : Nat} {h : xa_H} {sz pc : Nat} {ls : List (Nat × Value)} {st : List Value}
theorem xa_cd_min : xa_cd M_Math_min = Cond.code Lib.Math.min.name Lib.Math.min.code 2 (some .int) := by decide +kernel
theorem xa_cd_max : xa_cd M_Math_max = Cond.code Lib.Math.max.name Lib.Math.max.code 2 (some .int) := by decide +kernel
theorem xa_min {idx : Nat} {x y : Int32} (hLk : xa_LS μ.1.cls idx M_Math_min 2) (hd : decode μ.2.1 pc = .ok (.invokestatic idx, 3)) (hf : 1 ≤ R.frames) (hlo : (st.map fun v => v.category).sum + 13 ≤ R.locals) (hc : k ≤ R.cells) (hs : n ≤ R.slots) (kk : xa_X l D H0 μ R Z k n h sz (pc + 3) ls (.int (if y < x then y else x) :: st)) : xa_X l D H0 μ R Z k n h sz pc ls (.int y :: .int x :: st) := by
  intro p e s m args below meth c H locs la C hP hL hl
  obtain ⟨⟨b1, b2, -, -, -⟩, b6, b7⟩ := hLk
  have hts := C.2.2.2.2.1
  rw [xa_cd_min] at b1
  exact va_mmin C.1 C.2.1 (by rw [C.2.2.1]; exact hl.1.symm) C.2.2.2.1 (hts _ b6) (hts _ b7) (hts _ b2) (hts _ b1) hf hlo hc hs hd (kk p e s m args below meth c H locs la C hP hL hl)
theorem xa_max {idx : Nat} {x y : Int32} (hLk : xa_LS μ.1.cls idx M_Math_max 2) (hd : decode μ.2.1 pc = .ok (.invokestatic idx, 3)) (hf : 1 ≤ R.frames) (hlo : (st.map fun v => v.category).sum + 13 ≤ R.locals) (hc : k ≤ R.cells) (hs : n ≤ R.slots) (kk : xa_X l D H0 μ R Z k n h sz (pc + 3) ls (.int (if x < y then y else x) :: st)) : xa_X l D H0 μ R Z k n h sz pc ls (.int y :: .int x :: st) := by
  intro p e s m args below meth c H locs la C hP hL hl
  obtain ⟨⟨b1, b2, -, -, -⟩, b6, b7⟩ := hLk
  have hts := C.2.2.2.2.1
  rw [xa_cd_max] at b1
  exact va_mmax C.1 C.2.1 (by rw [C.2.2.1]; exact hl.1.symm) C.2.2.2.1 (hts _ b6) (hts _ b7) (hts _ b2) (hts _ b1) hf hlo hc hs hd (kk p e s m args below meth c H locs la C hP hL hl)
end MM
section CB
variable {l : Launch} {D : va_G} {H0 : Heap} {h : xa_H} {sz : Nat} {R : Room} {Z : xa_Z}
theorem xc_R_u {n ch g aK c q : Nat} {f A O S : Nat → Int32} {b : Nat → Nat} {e : va_E} (hr : xc_R D h n ch g aK c f A O S b) (hlt : g + 1 < ch ∧ aK < ch) (hq : ch + 5 ≤ q) : xc_R D (xa_u h q e) n ch g aK c f A O S b := by
  obtain ⟨r1, r2, r3, r4, r5, r6, r7, r8, hx⟩ := hr
  exact ⟨xa_u_ne r1 (by omega), xa_u_ne r2 (by omega), xa_u_ne r3 (by omega), xa_u_ne r4 (by omega), xa_u_ne r5 (by omega), xa_u_ne r6 (by omega), xa_u_ne r7 (by omega), xa_u_ne r8 (by omega), hx⟩
/-- the state inside countBreaths -/
def xc_B (n : Nat) (b : Nat → Nat) (P : Nat → Nat) (q i w : Nat) (CB0 CB : Nat → Int32) (fd m : Nat) : Prop :=
  (∀ x, x < n * n → (CB x = nI q ↔ gc_F n b P i w x)) ∧ (∀ x, x < n * n → CB x = CB0 x ∨ CB x = nI q) ∧ fd = gb_cnt (gc_F n b P i w) (n * n) ∧ gc_least (n * n) (gc_F n b P i w) m
theorem xc_B_same {n : Nat} {b : Nat → Nat} {P : Nat → Nat} {q i w i' w' : Nat} {CB0 CB : Nat → Int32} {fd m : Nat} (h : xc_B n b P q i w CB0 CB fd m) (he : ∀ x, gc_F n b P i' w' x ↔ gc_F n b P i w x) : xc_B n b P q i' w' CB0 CB fd m :=
  ⟨fun x hx => by rw [he x]; exact h.1 x hx, h.2.1, by rw [h.2.2.1]; exact gb_cnt_eq _ (fun x _ => (he x).symm), gc_least_eq h.2.2.2 he⟩
theorem xc_B_add {n : Nat} {b : Nat → Nat} {P : Nat → Nat} {q i w y : Nat} {CB0 CB : Nat → Int32} {fd m : Nat} (h : xc_B n b P q i w CB0 CB fd m) (hnb : gb_nb n (P i) w = some y) (hy : y < n * n) (h0 : b y = 0) (hC : CB y ≠ nI q) : xc_B n b P q i (w + 1) CB0 (upd CB y (nI q)) (fd + 1) (if y < m then y else m) := by
  have he : ∀ x, gc_F n b P i (w + 1) x ↔ gc_F n b P i w x ∨ x = y := fun x => by
    constructor
    · rintro ⟨h1, h2, h3⟩
      rcases gc_nb_w.mp h3 with e | e
      · exact Or.inl ⟨h1, h2, e⟩
      · rw [hnb] at e; cases e; exact Or.inr rfl
    · rintro (⟨h1, h2, h3⟩ | e)
      · exact ⟨h1, h2, gc_nb_w.mpr (Or.inl h3)⟩
      · rw [e]; exact ⟨hy, h0, gc_nb_w.mpr (Or.inr hnb)⟩
  refine ⟨fun x hx => ?_, fun x hx => ?_, ?_, gc_least_add h.2.2.2 hy he⟩
  · rw [he x]
    by_cases hxy : x = y
    · simp [upd, hxy]
    · simp only [upd, if_neg hxy, h.1 x hx]
      exact ⟨Or.inl, fun z => z.resolve_right hxy⟩
  · by_cases hxy : x = y
    · simp [upd, hxy]
    · simp only [upd, if_neg hxy]; exact h.2.1 x hx
  · rw [h.2.2.1]
    exact (gb_cnt_add (fun z => hC ((h.1 y hy).mpr z)) he _ hy).symm
theorem w_breaths_in {n ch g aK c q i : Nat} {f A O S CB0 : Nat → Int32} {b ar o s : Nat → Nat} (hR : 1 ≤ R.frames ∧ 22 ≤ R.locals) (hr : xc_R D h n ch g aK c f A O S b) (hlt : g + 1 < ch ∧ aK < ch) (hW : xt_W n (fun q => nI (b q)) c ar o s A O S) (hq : q < c) (hi : i < s (q + 1) - s q)
    (kont : ∀ (CB : Nat → Int32) (fd m : Nat), xc_B n b (fun j => o (s q + j)) q i 4 CB0 CB fd m → xa_X l D H0 M_Chart_countBreaths R Z 0 0 (xa_u h (ch + 8) (.inl (D.1 100, n * n, .inl CB))) sz 107 [(0, .ref ch), (1, .int (nI q)), (2, .int (nI fd)), (3, .int (nI m)), (4, .int (nI i))] [])
    (w : Nat) (CB : Nat → Int32) (fd m : Nat) (hw : w ≤ 4) (hB : xc_B n b (fun j => o (s q + j)) q i w CB0 CB fd m) :
    xa_X l D H0 M_Chart_countBreaths R Z 0 0 (xa_u h (ch + 8) (.inl (D.1 100, n * n, .inl CB))) sz 29 [(0, .ref ch), (1, .int (nI q)), (2, .int (nI fd)), (3, .int (nI m)), (4, .int (nI i)), (5, .int (nI w))] [] := by
  obtain ⟨r1, r2, r3, r4, r5, r6, r7, r8, hN, hf, hb⟩ := xc_R_u (e := .inl (D.1 100, n * n, .inl CB)) hr hlt (show ch + 5 ≤ ch + 8 by omega)
  have r9 : xa_u h (ch + 8) (.inl (D.1 100, n * n, .inl CB)) (ch + 8) = some (.inl (D.1 100, n * n, .inl CB)) := xa_u_eq _ _ _
  obtain ⟨w1, w2, w3, w4⟩ := id hW
  obtain ⟨a1, a2, a3, a4, a5⟩ := gs_W_area w1 hq
  have hcN : c ≤ n * n := w1.2.2.2.2.2.2.2.2.2.2
  have hpi : o (s q + i) < n * n := w1.2.2.1 _ (by omega)
  have hm := hB.2.2.2.1
  refine xa_iload d_Chart_countBreaths_29 rfl ?_
  refine xa_iconst (v := nI 4) d_Chart_countBreaths_31 rfl ?_
  refine xa_icmp_geN (tgt := 107) d_Chart_countBreaths_32 (by decide) (by omega) (by omega) (fun hb4 => ?_) (fun hb4 => ?_)
  · have hw4 : w = 4 := by omega
    subst hw4
    refine xa_ls ?_ (kont CB fd m hB)
    exact ⟨rfl, rfl, rfl, rfl, rfl, trivial⟩
  ·
    refine xa_aload_n d_Chart_countBreaths_35 rfl ?_
    refine xa_getf f_Chart_9 d_Chart_countBreaths_36 (by assumption) (by rfl) ?_
    refine xa_aload_n d_Chart_countBreaths_39 rfl ?_
    refine xa_getf f_Chart_24 d_Chart_countBreaths_40 (by assumption) (by rfl) ?_
    refine xa_iload_n d_Chart_countBreaths_43 rfl ?_
    refine xa_iload d_Chart_countBreaths_44 rfl ?_
    refine xa_callVr (As := [.int (nI q), .int (nI i)]) (st := [.ref g]) d_Chart_countBreaths_46 k_Chart_78 r2 (c_Areas_pointOf (o := o) (s := s) r2 r4 r5 hN (by omega) (w4 q (by omega)) (by omega) (w3 _ (by omega))) rfl rfl (Nat.le_of_ble_eq_true rfl) ⟨hR.1, hR.2⟩ (by omega) (by omega) ?_
    refine xa_iload d_Chart_countBreaths_49 rfl ?_
    refine xa_callVr (As := [.int (nI (o (s q + i))), .int (nI w)]) (st := []) d_Chart_countBreaths_51 k_Chart_82 r6 (c_Grid_neighbour r6 r7 hN hpi hb4) rfl rfl (Nat.le_of_ble_eq_true rfl) ⟨hR.1, hR.2⟩ (by omega) (by omega) ?_
    have again : ∀ (CB' : Nat → Int32) (fd' m' : Nat), xc_B n b (fun j => o (s q + j)) q i (w + 1) CB0 CB' fd' m' → ∀ z : Int32, xa_X l D H0 M_Chart_countBreaths R Z 0 0 (xa_u h (ch + 8) (.inl (D.1 100, n * n, .inl CB'))) sz 101 [(0, .ref ch), (1, .int (nI q)), (2, .int (nI fd')), (3, .int (nI m')), (4, .int (nI i)), (5, .int (nI w)), (6, .int z)] [] := by
      intro CB' fd' m' hB' z
      refine xa_iincN d_Chart_countBreaths_101 rfl rfl rfl ?_
      refine xa_goto (tgt := 29) d_Chart_countBreaths_104 (by decide) ?_
      refine xa_ls ?_ (w_breaths_in hR hr hlt hW hq hi kont (w + 1) CB' fd' m' (by omega) hB')
      exact ⟨rfl, rfl, rfl, rfl, rfl, rfl, trivial⟩
    have same : ∀ y, gb_nb n (o (s q + i)) w = y → (∀ x, y = some x → x < n * n → b x = 0 → gc_F n b (fun j => o (s q + j)) i w x) → xc_B n b (fun j => o (s q + j)) q i (w + 1) CB0 CB fd m := fun y hy hs => xc_B_same hB (fun x => by
      constructor
      · rintro ⟨h1, h2, h3⟩
        rcases gc_nb_w.mp h3 with e | e
        · exact ⟨h1, h2, e⟩
        · exact hs x (hy.symm.trans e) h1 h2
      · rintro ⟨h1, h2, h3⟩
        exact ⟨h1, h2, gc_nb_w.mpr (Or.inl h3)⟩)
    have hv := hf (o (s q + i)) w hpi hb4
    cases hnb : gb_nb n (o (s q + i)) w with
    | none =>
      rw [hnb] at hv
      refine xa_int (show f (4 * o (s q + i) + w) = -1 from hv) ?_
      refine xa_istore d_Chart_countBreaths_54 rfl rfl ?_
      refine xa_iload d_Chart_countBreaths_56 rfl ?_
      refine xa_iconst (v := -1) d_Chart_countBreaths_58 rfl ?_
      refine xa_icmp_eq (tgt := 101) d_Chart_countBreaths_59 (by decide) (fun hz => ?_) (fun hz => ?_)
      · refine xa_ls ?_ (again CB fd m (same _ hnb (fun x hx => by cases hx)) (-1))
        exact ⟨rfl, rfl, rfl, rfl, rfl, rfl, rfl, trivial⟩
      · exact absurd rfl hz
    | some y =>
      rw [hnb] at hv
      have hy := gb_nb_lt hpi hb4 hnb
      have hby := hb y hy
      refine xa_int (show f (4 * o (s q + i) + w) = nI y from hv) ?_
      refine xa_istore d_Chart_countBreaths_54 rfl rfl ?_
      refine xa_iload d_Chart_countBreaths_56 rfl ?_
      refine xa_iconst (v := -1) d_Chart_countBreaths_58 rfl ?_
      refine xa_icmp_eq (tgt := 101) d_Chart_countBreaths_59 (by decide) (fun hz => ?_) (fun hz => ?_)
      · exact absurd hz (gb_m1 (by omega))
      ·
        refine xa_aload_n d_Chart_countBreaths_62 rfl ?_
        refine xa_getf f_Chart_15 d_Chart_countBreaths_63 (by assumption) (by rfl) ?_
        refine xa_iload d_Chart_countBreaths_66 rfl ?_
        refine xa_ialdE d_Chart_countBreaths_68 (by assumption) rfl (by omega) (by omega) (by rfl) ?_
        refine xa_if_neN (tgt := 101) d_Chart_countBreaths_69 (by decide) (by omega) (fun hz2 => ?_) (fun hz2 => ?_)
        · refine xa_ls ?_ (again CB fd m (same _ hnb (fun x hx h1 h2 => by cases hx; omega)) (nI y))
          exact ⟨rfl, rfl, rfl, rfl, rfl, rfl, rfl, trivial⟩
        ·
          refine xa_aload_n d_Chart_countBreaths_72 rfl ?_
          refine xa_getf f_Chart_43 d_Chart_countBreaths_73 (by assumption) (by rfl) ?_
          refine xa_iload d_Chart_countBreaths_76 rfl ?_
          refine xa_ialdE d_Chart_countBreaths_78 (by assumption) rfl (by omega) (by omega) (by rfl) ?_
          refine xa_iload_n d_Chart_countBreaths_79 rfl ?_
          refine xa_icmp_eq (tgt := 101) d_Chart_countBreaths_80 (by decide) (fun hz3 => ?_) (fun hz3 => ?_)
          · refine xa_ls ?_ (again CB fd m (same _ hnb (fun x hx h1 h2 => by cases hx; exact (hB.1 y hy).mp hz3)) (nI y))
            exact ⟨rfl, rfl, rfl, rfl, rfl, rfl, rfl, trivial⟩
          ·
            refine xa_aload_n d_Chart_countBreaths_83 rfl ?_
            refine xa_getf f_Chart_43 d_Chart_countBreaths_84 (by assumption) (by rfl) ?_
            refine xa_iload d_Chart_countBreaths_87 rfl ?_
            refine xa_iload_n d_Chart_countBreaths_89 rfl ?_
            refine xa_iastE d_Chart_countBreaths_90 r9 rfl hy (by omega) ?_
            rw [xa_uu]
            refine xa_iincN d_Chart_countBreaths_91 rfl rfl rfl ?_
            refine xa_iload_n d_Chart_countBreaths_94 rfl ?_
            refine xa_iload d_Chart_countBreaths_95 rfl ?_
            refine xa_min k_Chart_88 d_Chart_countBreaths_97 hR.1 (by have := hR.2; show 0 + 13 ≤ _; omega) (by omega) (by omega) ?_
            refine xa_int (y := nI (if y < m then y else m)) (by
              by_cases hym : y < m
              · rw [if_pos hym, if_pos (nI_lt hym (by omega))]
              · rw [if_neg hym, if_neg (nI_nlt (by omega) (by omega))]) ?_
            refine xa_istore_n d_Chart_countBreaths_100 rfl rfl ?_
            refine xa_ls ?_ (again (upd CB y (nI q)) (fd + 1) (if y < m then y else m) (xc_B_add hB hnb hy hz2 hz3) (nI y))
            exact ⟨rfl, rfl, rfl, rfl, rfl, rfl, rfl, trivial⟩
termination_by 4 - w
decreasing_by omega
/-- what countBreaths leaves -/
def xc_h (D : va_G) (h : xa_H) (N ch : Nat) (CB BR LB : Nat → Int32) : xa_H := xa_u (xa_u (xa_u h (ch + 8) (.inl (D.1 100, N, .inl CB))) (ch + 5) (.inl (D.1 100, N, .inl BR))) (ch + 6) (.inl (D.1 100, N, .inl LB))
theorem w_breaths {n ch g aK c q : Nat} {f A O S CB0 BR LB : Nat → Int32} {b ar o s : Nat → Nat} (hR : 1 ≤ R.frames ∧ 22 ≤ R.locals) (hr : xc_R D h n ch g aK c f A O S b) (hlt : g + 1 < ch ∧ aK < ch) (hBR : h (ch + 5) = some (.inl (D.1 100, n * n, .inl BR))) (hLB : h (ch + 6) = some (.inl (D.1 100, n * n, .inl LB))) (hW : xt_W n (fun q => nI (b q)) c ar o s A O S) (hq : q < c)
    (i : Nat) (CB : Nat → Int32) (fd m : Nat) (hi : i ≤ s (q + 1) - s q) (hB : xc_B n b (fun j => o (s q + j)) q i 0 CB0 CB fd m) :
    xa_X l D H0 M_Chart_countBreaths R (xa_Zr D H0 0 0 (fun v h' sz' => ∃ (CB : Nat → Int32) (m : Nat), (∀ x, x < n * n → CB x = CB0 x ∨ CB x = nI q) ∧ gc_least (n * n) (gt_br n (fun q => nI (b q)) (o (s q))) m ∧ v = none ∧ h' = xc_h D h (n * n) ch CB (upd BR q (nI (gb_cnt (gt_br n (fun q => nI (b q)) (o (s q))) (n * n)))) (upd LB q (nI m)) ∧ sz' = sz)) 0 0 (xa_u h (ch + 8) (.inl (D.1 100, n * n, .inl CB))) sz 13 [(0, .ref ch), (1, .int (nI q)), (2, .int (nI fd)), (3, .int (nI m)), (4, .int (nI i))] [] := by
  obtain ⟨r1, r2, r3, r4, r5, r6, r7, r8, hN, hf, hb⟩ := xc_R_u (e := .inl (D.1 100, n * n, .inl CB)) hr hlt (show ch + 5 ≤ ch + 8 by omega)
  have r9 : xa_u h (ch + 8) (.inl (D.1 100, n * n, .inl CB)) (ch + 5) = some (.inl (D.1 100, n * n, .inl BR)) := xa_u_ne hBR (by omega)
  obtain ⟨w1, w2, w3, w4⟩ := id hW
  obtain ⟨a1, a2, a3, a4, a5⟩ := gs_W_area w1 hq
  have hcN : c ≤ n * n := w1.2.2.2.2.2.2.2.2.2.2
  have hsz := w1.2.2.2.2.2.2.2.1 q hq
  refine xa_iload d_Chart_countBreaths_13 rfl ?_
  refine xa_aload_n d_Chart_countBreaths_15 rfl ?_
  refine xa_getf f_Chart_24 d_Chart_countBreaths_16 (by assumption) (by rfl) ?_
  refine xa_iload_n d_Chart_countBreaths_19 rfl ?_
  refine xa_callVr (As := [.int (nI q)]) (st := [.int (nI i)]) d_Chart_countBreaths_20 k_Chart_75 r2 (c_Areas_sizeOf (s := s) r2 r5 hN (by omega) (w4 q (by omega)) (w4 (q + 1) (by omega)) (by omega)) rfl rfl (Nat.le_of_ble_eq_true rfl) ⟨hR.1, by have := hR.2; show 8 + (2 + 11) + 0 ≤ _; omega⟩ (by omega) (by omega) ?_
  refine xa_icmp_geN (tgt := 113) d_Chart_countBreaths_23 (by decide) (by omega) (by omega) (fun hb4 => ?_) (fun hb4 => ?_)
  · have hie : i = s (q + 1) - s q := by omega
    rw [hie] at hB
    have hE : ∀ x, gc_F n b (fun j => o (s q + j)) (s (q + 1) - s q) 0 x ↔ gt_br n (fun q => nI (b q)) (o (s q)) x := fun x => gc_F_end a3 hb a5
    have hfd : fd = gb_cnt (gt_br n (fun q => nI (b q)) (o (s q))) (n * n) := by rw [hB.2.2.1]; exact gb_cnt_eq _ (fun x _ => hE x)
    refine xa_aload_n d_Chart_countBreaths_113 rfl ?_
    refine xa_getf f_Chart_34 d_Chart_countBreaths_114 (by assumption) (by rfl) ?_
    refine xa_iload_n d_Chart_countBreaths_117 rfl ?_
    refine xa_iload_n d_Chart_countBreaths_118 rfl ?_
    refine xa_iastE d_Chart_countBreaths_119 r9 rfl (by omega) (by omega) ?_
    have r10 : xa_u (xa_u h (ch + 8) (.inl (D.1 100, n * n, .inl CB))) (ch + 5) (.inl (D.1 100, n * n, .inl (upd BR q (nI fd)))) ch = some (.inr (2, [.ref (ch + 1), .ref g, .ref aK, .ref (ch + 5), .ref (ch + 6), .ref (ch + 7), .ref (ch + 8)])) := xa_u_ne r1 (by omega)
    have r11 : xa_u (xa_u h (ch + 8) (.inl (D.1 100, n * n, .inl CB))) (ch + 5) (.inl (D.1 100, n * n, .inl (upd BR q (nI fd)))) (ch + 6) = some (.inl (D.1 100, n * n, .inl LB)) := xa_u_ne (xa_u_ne hLB (by omega)) (by omega)
    refine xa_aload_n d_Chart_countBreaths_120 rfl ?_
    refine xa_getf f_Chart_37 d_Chart_countBreaths_121 (by assumption) (by rfl) ?_
    refine xa_iload_n d_Chart_countBreaths_124 rfl ?_
    refine xa_iload_n d_Chart_countBreaths_125 rfl ?_
    refine xa_iastE d_Chart_countBreaths_126 r11 rfl (by omega) (by omega) ?_
    exact xa_return d_Chart_countBreaths_127 rfl (by omega) (by omega) ⟨CB, m, hB.2.1, gc_least_eq hB.2.2.2 (fun x => (hE x).symm), rfl, by rw [hfd]; rfl, rfl⟩
  ·
    refine xa_iconst (v := nI 0) d_Chart_countBreaths_26 rfl ?_
    refine xa_istore d_Chart_countBreaths_27 rfl rfl ?_
    refine xa_ls ?_ (w_breaths_in hR hr hlt hW hq hb4 (fun CB' fd' m' hB' => ?_) 0 CB fd m (by omega) hB)
    · exact ⟨rfl, rfl, rfl, rfl, rfl, rfl, trivial⟩
    ·
      refine xa_iincN d_Chart_countBreaths_107 rfl rfl rfl ?_
      refine xa_goto (tgt := 13) d_Chart_countBreaths_110 (by decide) ?_
      refine xa_ls ?_ (w_breaths hR hr hlt hBR hLB hW hq (i + 1) CB' fd' m' (by omega) (xc_B_same hB' (fun x => ?_)))
      · exact ⟨rfl, rfl, rfl, rfl, rfl, trivial⟩
      · exact ⟨fun ⟨h1, h2, h3⟩ => ⟨h1, h2, gc_nb_i.mp h3⟩, fun ⟨h1, h2, h3⟩ => ⟨h1, h2, gc_nb_i.mpr h3⟩⟩
termination_by s (q + 1) - s q - i
decreasing_by omega
theorem c_Chart_countBreaths {n ch g aK c q : Nat} {f A O S CB0 BR LB : Nat → Int32} {b ar o s : Nat → Nat} (hr : xc_R D h n ch g aK c f A O S b) (hlt : g + 1 < ch ∧ aK < ch) (hBR : h (ch + 5) = some (.inl (D.1 100, n * n, .inl BR))) (hLB : h (ch + 6) = some (.inl (D.1 100, n * n, .inl LB))) (hCB : h (ch + 8) = some (.inl (D.1 100, n * n, .inl CB0))) (hW : xt_W n (fun q => nI (b q)) c ar o s A O S) (hq : q < c) (hC : ∀ x, x < n * n → CB0 x ≠ nI q) :
    xa_M l D H0 M_Chart_countBreaths 1 22 0 0 [.ref ch, .int (nI q)] h sz (fun v h' sz' => ∃ (CB : Nat → Int32) (m : Nat), (∀ x, x < n * n → CB x = CB0 x ∨ CB x = nI q) ∧ gc_least (n * n) (gt_br n (fun q => nI (b q)) (o (s q))) m ∧ v = none ∧ h' = xc_h D h (n * n) ch CB (upd BR q (nI (gb_cnt (gt_br n (fun q => nI (b q)) (o (s q))) (n * n)))) (upd LB q (nI m)) ∧ sz' = sz) := by
  refine xa_enter (by decide) rfl rfl ?_
  obtain ⟨r1, r2, r3, r4, r5, r6, r7, r8, hN, hf, hb⟩ := id hr
  refine xa_iconst (v := nI 0) d_Chart_countBreaths_0 rfl ?_
  refine xa_istore_n d_Chart_countBreaths_1 rfl rfl ?_
  refine xa_aload_n d_Chart_countBreaths_2 rfl ?_
  refine xa_getf f_Chart_9 d_Chart_countBreaths_3 (by assumption) (by rfl) ?_
  refine xa_getf f_Chart_28 d_Chart_countBreaths_6 (by assumption) (by rfl) ?_
  refine xa_istore_n d_Chart_countBreaths_9 rfl rfl ?_
  refine xa_iconst (v := nI 0) d_Chart_countBreaths_10 rfl ?_
  refine xa_istore d_Chart_countBreaths_11 rfl rfl ?_
  refine xa_heap (xa_us h hCB).symm ?_
  refine xa_ls ?_ (w_breaths ⟨by decide, by decide⟩ hr hlt hBR hLB hW hq 0 CB0 0 (n * n) (by omega) ⟨fun x hx => ⟨fun z => absurd z (hC x hx), fun z => absurd z.2.2 gc_nb_0⟩, fun x hx => Or.inl rfl, (gb_cnt_0 _ (fun x _ z => gc_nb_0 z.2.2)).symm, ⟨Nat.le_refl _, fun x hx => absurd hx.2.2 gc_nb_0, fun z => absurd z (Nat.lt_irrefl _)⟩⟩)
  exact ⟨rfl, rfl, rfl, rfl, rfl, trivial⟩
end CB
end
section
/-! Chart.draw. -/
def xd_h (D : va_G) (h : xa_H) (ch g N c : Nat) (A O S BR LB HO CB : Nat → Int32) : xa_H := xa_u (xa_u (xa_u (xa_u (xt_h D h (ch + 1) g (ch + 2) (ch + 3) (ch + 4) N c A O S) (ch + 5) (.inl (D.1 100, N, .inl BR))) (ch + 6) (.inl (D.1 100, N, .inl LB))) (ch + 7) (.inl (D.1 100, N, .inl HO))) (ch + 8) (.inl (D.1 100, N, .inl CB))
section DH
variable {D : va_G} {h : xa_H} {ch g N c : Nat} {A O S BR LB HO CB : Nat → Int32}
theorem xd_hn {q : Nat} {e : Option va_E} (hq : h q = e) (h1 : q ≤ ch ∨ ch + 9 ≤ q) : xd_h D h ch g N c A O S BR LB HO CB q = e := xa_u_ne (xa_u_ne (xa_u_ne (xa_u_ne (xt_hn hq (by omega) (by omega) (by omega) (by omega)) (by omega)) (by omega)) (by omega)) (by omega)
theorem xd_h8 : xd_h D h ch g N c A O S BR LB HO CB (ch + 8) = some (.inl (D.1 100, N, .inl CB)) := xa_u_eq _ _ _
theorem xd_h7 : xd_h D h ch g N c A O S BR LB HO CB (ch + 7) = some (.inl (D.1 100, N, .inl HO)) := xa_u_ne (xa_u_eq _ _ _) (by omega)
theorem xd_h6 : xd_h D h ch g N c A O S BR LB HO CB (ch + 6) = some (.inl (D.1 100, N, .inl LB)) := xa_u_ne (xa_u_ne (xa_u_eq _ _ _) (by omega)) (by omega)
theorem xd_h5 : xd_h D h ch g N c A O S BR LB HO CB (ch + 5) = some (.inl (D.1 100, N, .inl BR)) := xa_u_ne (xa_u_ne (xa_u_ne (xa_u_eq _ _ _) (by omega)) (by omega)) (by omega)
theorem xd_hx {q : Nat} {e : Option va_E} (hq : xt_h D h (ch + 1) g (ch + 2) (ch + 3) (ch + 4) N c A O S q = e) (h1 : q ≤ ch + 4) : xd_h D h ch g N c A O S BR LB HO CB q = e := xa_u_ne (xa_u_ne (xa_u_ne (xa_u_ne hq (by omega)) (by omega)) (by omega)) (by omega)
theorem xd_uH (HO' : Nat → Int32) : xa_u (xd_h D h ch g N c A O S BR LB HO CB) (ch + 7) (.inl (D.1 100, N, .inl HO')) = xd_h D h ch g N c A O S BR LB HO' CB := xa_uc _ (by omega) _ _ _
theorem xd_uB (CB' BR' LB' : Nat → Int32) : xc_h D (xd_h D h ch g N c A O S BR LB HO CB) N ch CB' BR' LB' = xd_h D h ch g N c A O S BR' LB' HO CB' := by
  funext q
  unfold xc_h xd_h xa_u
  by_cases k1 : q = ch + 8
  · subst k1; simp
  · by_cases k2 : q = ch + 5
    · subst k2; simp
    · by_cases k3 : q = ch + 6
      · subst k3; simp
      · simp [k1, k2, k3]
theorem xd_0 (h5 : h (ch + 5) = some (.inl (D.1 100, N, .inl BR))) (h6 : h (ch + 6) = some (.inl (D.1 100, N, .inl LB))) (h7 : h (ch + 7) = some (.inl (D.1 100, N, .inl HO))) : xa_u (xt_h D h (ch + 1) g (ch + 2) (ch + 3) (ch + 4) N c A O S) (ch + 8) (.inl (D.1 100, N, .inl CB)) = xd_h D h ch g N c A O S BR LB HO CB := by
  unfold xd_h
  rw [xa_us _ (xt_hn h5 (by omega) (by omega) (by omega) (by omega)), xa_us _ (xt_hn h6 (by omega) (by omega) (by omega) (by omega)), xa_us _ (xt_hn h7 (by omega) (by omega) (by omega) (by omega))]
end DH
/-- what is known of an area -/
def xd_A (n : Nat) (b : Nat → Nat) (o s : Nat → Nat) (BR LB HO : Nat → Int32) (a : Nat) : Prop :=
  (b (o (s a)) = 0 → HO a = nI (gc_hold n b (o (s a)))) ∧ (b (o (s a)) ≠ 0 → HO a = nI (b (o (s a))) ∧ BR a = nI (gb_cnt (gt_br n (fun q => nI (b q)) (o (s a))) (n * n)) ∧ ∃ m, LB a = nI m ∧ gc_least (n * n) (gt_br n (fun q => nI (b q)) (o (s a))) m)
section DR
variable {l : Launch} {D : va_G} {H0 : Heap} {h : xa_H} {sz : Nat} {R : Room}
theorem xd_R {n ch g aK c : Nat} {f A O S BR LB HO CB : Nat → Int32} {b : Nat → Nat} (hc : h ch = some (.inr (2, [.ref (ch + 1), .ref g, .ref aK, .ref (ch + 5), .ref (ch + 6), .ref (ch + 7), .ref (ch + 8)]))) (hg : h g = some (.inr (3, [.int (nI (n * n)), .ref (g + 1)]))) (hag : h (g + 1) = some (.inl (D.1 100, 4 * (n * n), .inl f))) (hK : h aK = some (.inl (D.1 100, n * n, .inl (fun q => nI (b q))))) (hlt : g + 1 < ch ∧ aK < ch) (hN : n * n < 1000) (hf : ∀ q w, q < n * n → w < 4 → f (4 * q + w) = gb_oi (gb_nb n q w)) (hb : ∀ q, q < n * n → b q ≤ 2) :
    xc_R D (xd_h D h ch g (n * n) c A O S BR LB HO CB) n ch g aK c f A O S b :=
  ⟨xd_hn hc (by omega), xd_hx xt_ha (by omega), xd_hx (xt_hA (by omega) (by omega) (by omega)) (by omega), xd_hx (xt_hO (by omega) (by omega)) (by omega), xd_hx (xt_hS (by omega)) (by omega), xd_hn hg (by omega), xd_hn hag (by omega), xd_hn hK (by omega), hN, hf, hb⟩
theorem w_draw {n ch g aK c : Nat} {f A O S : Nat → Int32} {b ar o s : Nat → Nat} (hR : 2 ≤ R.frames ∧ 48 ≤ R.locals) (hc : h ch = some (.inr (2, [.ref (ch + 1), .ref g, .ref aK, .ref (ch + 5), .ref (ch + 6), .ref (ch + 7), .ref (ch + 8)]))) (hg : h g = some (.inr (3, [.int (nI (n * n)), .ref (g + 1)]))) (hag : h (g + 1) = some (.inl (D.1 100, 4 * (n * n), .inl f))) (hK : h aK = some (.inl (D.1 100, n * n, .inl (fun q => nI (b q))))) (hlt : g + 1 < ch ∧ aK < ch) (hN : n * n < 1000) (hf : ∀ q w, q < n * n → w < 4 → f (4 * q + w) = gb_oi (gb_nb n q w)) (hb : ∀ q, q < n * n → b q ≤ 2)
    (hW : xt_W n (fun q => nI (b q)) c ar o s A O S) (q : Nat) (BR LB HO CB : Nat → Int32) (hq : q ≤ c) (hI : ∀ a, a < q → xd_A n b o s BR LB HO a) (hC : ∀ x, x < n * n → CB x = -1 ∨ ∃ a, a < q ∧ CB x = nI a) :
    xa_X l D H0 M_Chart_draw R (xa_Zr D H0 0 0 (fun v h' sz' => ∃ (c : Nat) (ar o s : Nat → Nat) (A O S BR LB HO CB : Nat → Int32), xt_W n (fun q => nI (b q)) c ar o s A O S ∧ (∀ a, a < c → xd_A n b o s BR LB HO a) ∧ v = none ∧ h' = xd_h D h ch g (n * n) c A O S BR LB HO CB ∧ sz' = sz)) 0 0 (xd_h D h ch g (n * n) c A O S BR LB HO CB) sz 21 [(0, .ref ch), (1, .int (nI q))] [] := by
  have hr : xc_R D (xd_h D h ch g (n * n) c A O S BR LB HO CB) n ch g aK c f A O S b := xd_R hc hg hag hK hlt hN hf hb
  obtain ⟨r1, r2, r3, r4, r5, r6, r7, r8, -⟩ := id hr
  obtain ⟨w1, w2, w3, w4⟩ := id hW
  have hcN : c ≤ n * n := w1.2.2.2.2.2.2.2.2.2.2
  refine xa_iload_n d_Chart_draw_21 rfl ?_
  refine xa_aload_n d_Chart_draw_22 rfl ?_
  refine xa_getf f_Chart_24 d_Chart_draw_23 (by assumption) (by rfl) ?_
  refine xa_getf f_Chart_59 d_Chart_draw_26 (by assumption) (by rfl) ?_
  refine xa_icmp_geN (tgt := 84) d_Chart_draw_29 (by decide) (by omega) (by omega) (fun hb4 => ?_) (fun hb4 => ?_)
  · have hqc : q = c := by omega
    subst hqc
    exact xa_return d_Chart_draw_84 rfl (by omega) (by omega) ⟨q, ar, o, s, A, O, S, BR, LB, HO, CB, hW, hI, rfl, rfl, rfl⟩
  · obtain ⟨a1, a2, a3, a4, a5⟩ := gs_W_area w1 hb4
    have hnext : ∀ (BR' LB' HO' CB' : Nat → Int32), (∀ a, a < q → BR' a = BR a ∧ LB' a = LB a ∧ HO' a = HO a) → xd_A n b o s BR' LB' HO' q → (∀ x, x < n * n → CB' x = CB x ∨ CB' x = nI q) → xa_X l D H0 M_Chart_draw R (xa_Zr D H0 0 0 (fun v h' sz' => ∃ (c : Nat) (ar o s : Nat → Nat) (A O S BR LB HO CB : Nat → Int32), xt_W n (fun q => nI (b q)) c ar o s A O S ∧ (∀ a, a < c → xd_A n b o s BR LB HO a) ∧ v = none ∧ h' = xd_h D h ch g (n * n) c A O S BR LB HO CB ∧ sz' = sz)) 0 0 (xd_h D h ch g (n * n) c A O S BR' LB' HO' CB') sz 78 [(0, .ref ch), (1, .int (nI q))] [] := by
      intro BR' LB' HO' CB' hs hA hC'
      refine xa_iincN d_Chart_draw_78 rfl rfl rfl ?_
      refine xa_goto (tgt := 21) d_Chart_draw_81 (by decide) ?_
      refine xa_ls ?_ (w_draw hR hc hg hag hK hlt hN hf hb hW (q + 1) BR' LB' HO' CB' (by omega) (fun a ha => ?_) (fun x hx => ?_))
      · exact ⟨rfl, rfl, trivial⟩
      · by_cases haq : a = q
        · rw [haq]; exact hA
        · obtain ⟨e1, e2, e3⟩ := hs a (by omega)
          have := hI a (by omega)
          unfold xd_A at this ⊢
          rw [e1, e2, e3]
          exact this
      · rcases hC' x hx with e | e
        · rw [e]
          rcases hC x hx with e1 | ⟨a, e1, e2⟩
          · exact Or.inl e1
          · exact Or.inr ⟨a, by omega, e2⟩
        · exact Or.inr ⟨q, by omega, e⟩
    refine xa_aload_n d_Chart_draw_32 rfl ?_
    refine xa_iload_n d_Chart_draw_33 rfl ?_
    refine xa_callVr (As := [.int (nI q)]) (st := []) d_Chart_draw_34 k_Chart_60 r1 (c_Chart_isFree hr hW hb4) rfl rfl (Nat.le_of_ble_eq_true rfl) ⟨hR.1, by have := hR.2; show 8 + (2 + 11) + 21 ≤ _; omega⟩ (by omega) (by omega) ?_
    by_cases h0 : b (o (s q)) = 0
    · refine xa_int (show (if b (o (s q)) = 0 then (1 : Int32) else 0) = nI 1 from by rw [if_pos h0]; rfl) ?_
      refine xa_if_eqN (tgt := 54) d_Chart_draw_37 (by decide) (by omega) (fun hz => ?_) (fun hz => ?_)
      · omega
      ·
        refine xa_aload_n d_Chart_draw_40 rfl ?_
        refine xa_getf f_Chart_40 d_Chart_draw_41 (by assumption) (by rfl) ?_
        refine xa_iload_n d_Chart_draw_44 rfl ?_
        refine xa_aload_n d_Chart_draw_45 rfl ?_
        refine xa_iload_n d_Chart_draw_46 rfl ?_
        refine xa_callVr (As := [.int (nI q)]) (st := [.int (nI q), .ref (ch + 7)]) d_Chart_draw_47 k_Chart_64 r1 (c_Chart_findHolder hr hW hb4) rfl rfl (Nat.le_of_ble_eq_true rfl) ⟨hR.1, by have := hR.2; show 8 + (6 + 11) + 22 ≤ _; omega⟩ (by omega) (by omega) ?_
        refine xa_iastE d_Chart_draw_50 xd_h7 rfl (by omega) (by omega) ?_
        rw [xd_uH]
        refine xa_goto (tgt := 78) d_Chart_draw_51 (by decide) ?_
        exact hnext BR LB _ CB (fun a ha => ⟨rfl, rfl, by simp only [upd, if_neg (show ¬ a = q by omega)]⟩) ⟨fun _ => by simp [upd], fun z => absurd h0 z⟩ (fun x hx => Or.inl rfl)
    · refine xa_int (show (if b (o (s q)) = 0 then (1 : Int32) else 0) = nI 0 from by rw [if_neg h0]; rfl) ?_
      refine xa_if_eqN (tgt := 54) d_Chart_draw_37 (by decide) (by omega) (fun hz => ?_) (fun hz => ?_)
      ·
        refine xa_aload_n d_Chart_draw_54 rfl ?_
        refine xa_getf f_Chart_40 d_Chart_draw_55 (by assumption) (by rfl) ?_
        refine xa_iload_n d_Chart_draw_58 rfl ?_
        refine xa_aload_n d_Chart_draw_59 rfl ?_
        refine xa_getf f_Chart_15 d_Chart_draw_60 (by assumption) (by rfl) ?_
        refine xa_aload_n d_Chart_draw_63 rfl ?_
        refine xa_getf f_Chart_24 d_Chart_draw_64 (by assumption) (by rfl) ?_
        refine xa_iload_n d_Chart_draw_67 rfl ?_
        refine xa_callVr (As := [.int (nI q)]) (st := [.ref aK, .int (nI q), .ref (ch + 7)]) d_Chart_draw_68 k_Chart_68 r2 (c_Areas_leastOf (o := o) (s := s) r2 r4 r5 hN (by omega) (w4 q (by omega)) a1 (w3 _ a1)) rfl rfl (Nat.le_of_ble_eq_true rfl) ⟨by have := hR.1; show 0 + 1 ≤ _; omega, by have := hR.2; show 8 + (2 + 11) + 0 ≤ _; omega⟩ (by omega) (by omega) ?_
        refine xa_ialdE (j := o (s q)) d_Chart_draw_71 r8 rfl a3 (by omega) rfl ?_
        refine xa_iastE d_Chart_draw_72 xd_h7 rfl (by omega) (by omega) ?_
        rw [xd_uH]
        have hr2 : xc_R D (xd_h D h ch g (n * n) c A O S BR LB (upd HO q (nI (b (o (s q))))) CB) n ch g aK c f A O S b := xd_R hc hg hag hK hlt hN hf hb
        refine xa_aload_n d_Chart_draw_73 rfl ?_
        refine xa_iload_n d_Chart_draw_74 rfl ?_
        refine xa_callV (As := [.int (nI q)]) (st := []) d_Chart_draw_75 k_Chart_71 hr2.1 (c_Chart_countBreaths hr2 hlt xd_h5 xd_h6 xd_h8 hW hb4 (fun x hx z => ?_)) rfl rfl (Nat.le_of_ble_eq_true rfl) ⟨by have := hR.1; show 1 + 1 ≤ _; omega, by have := hR.2; show 8 + (7 + 11) + 22 ≤ _; omega⟩ (by omega) (by omega) (fun v h' sz' hq' => ?_)
        · rcases hC x hx with e1 | ⟨a, e1, e2⟩
          · exact gb_m1 (show q < 2 ^ 31 by omega) (z.symm.trans e1)
          · have := (nI_eq (by omega) (by omega)).mp (z.symm.trans e2); omega
        · obtain ⟨CB', m, g1, g2, g3, g4, g5⟩ := hq'
          rw [g3, g4, g5, xd_uB]
          exact hnext _ _ _ CB' (fun a ha => ⟨by simp only [upd, if_neg (show ¬ a = q by omega)], by simp only [upd, if_neg (show ¬ a = q by omega)], by simp only [upd, if_neg (show ¬ a = q by omega)]⟩) ⟨fun z => absurd z h0, fun _ => ⟨by simp [upd], by simp [upd], m, by simp [upd], g2⟩⟩ g1
      · omega
termination_by c - q
decreasing_by omega
theorem c_Chart_draw {n ch g aK c : Nat} {f A O S BR LB HO CB : Nat → Int32} {b : Nat → Nat} (hc : h ch = some (.inr (2, [.ref (ch + 1), .ref g, .ref aK, .ref (ch + 5), .ref (ch + 6), .ref (ch + 7), .ref (ch + 8)]))) (ha : h (ch + 1) = some (.inr (1, [.int (nI c), .ref g, .ref (ch + 2), .ref (ch + 3), .ref (ch + 4)]))) (hA : h (ch + 2) = some (.inl (D.1 100, n * n, .inl A))) (hO : h (ch + 3) = some (.inl (D.1 100, n * n, .inl O))) (hS : h (ch + 4) = some (.inl (D.1 100, n * n + 1, .inl S))) (h5 : h (ch + 5) = some (.inl (D.1 100, n * n, .inl BR))) (h6 : h (ch + 6) = some (.inl (D.1 100, n * n, .inl LB))) (h7 : h (ch + 7) = some (.inl (D.1 100, n * n, .inl HO))) (h8 : h (ch + 8) = some (.inl (D.1 100, n * n, .inl CB)))
    (hg : h g = some (.inr (3, [.int (nI (n * n)), .ref (g + 1)]))) (hag : h (g + 1) = some (.inl (D.1 100, 4 * (n * n), .inl f))) (hK : h aK = some (.inl (D.1 100, n * n, .inl (fun q => nI (b q))))) (hlt : g + 1 < ch ∧ aK < ch) (hN : n * n < 1000) (hf : ∀ q w, q < n * n → w < 4 → f (4 * q + w) = gb_oi (gb_nb n q w)) (hb : ∀ q, q < n * n → b q ≤ 2) :
    xa_M l D H0 M_Chart_draw 3 72 0 0 [.ref ch] h sz (fun v h' sz' => ∃ (c : Nat) (ar o s : Nat → Nat) (A O S BR LB HO CB : Nat → Int32), xt_W n (fun q => nI (b q)) c ar o s A O S ∧ (∀ a, a < c → xd_A n b o s BR LB HO a) ∧ v = none ∧ h' = xd_h D h ch g (n * n) c A O S BR LB HO CB ∧ sz' = sz) := by
  refine xa_enter (by decide) rfl rfl ?_
  refine xa_aload_n d_Chart_draw_0 rfl ?_
  refine xa_getf f_Chart_24 d_Chart_draw_1 (by assumption) (by rfl) ?_
  refine xa_aload_n d_Chart_draw_4 rfl ?_
  refine xa_getf f_Chart_15 d_Chart_draw_5 (by assumption) (by rfl) ?_
  refine xa_callV (As := [.ref aK]) (st := []) d_Chart_draw_8 k_Chart_49 ha (c_Areas_split (a := ch + 1) ha hg hag hK hA hO hS (by omega) hN hf) rfl rfl (Nat.le_of_ble_eq_true rfl) ⟨by decide, by decide⟩ (by decide) (by decide) (fun v h' sz' hq => ?_)
  obtain ⟨c', ar, o, s, A', O', S', hW, hv, hh, hz⟩ := hq
  rw [hv, hh, hz]
  have r1 : xt_h D h (ch + 1) g (ch + 1 + 1) (ch + 1 + 2) (ch + 1 + 3) (n * n) c' A' O' S' ch = some (.inr (2, [.ref (ch + 1), .ref g, .ref aK, .ref (ch + 5), .ref (ch + 6), .ref (ch + 7), .ref (ch + 8)])) := xt_hn hc (by omega) (by omega) (by omega) (by omega)
  have r8 : xt_h D h (ch + 1) g (ch + 1 + 1) (ch + 1 + 2) (ch + 1 + 3) (n * n) c' A' O' S' (ch + 8) = some (.inl (D.1 100, n * n, .inl CB)) := xt_hn h8 (by omega) (by omega) (by omega) (by omega)
  refine xa_aload_n d_Chart_draw_11 rfl ?_
  refine xa_getf f_Chart_43 d_Chart_draw_12 (by assumption) (by rfl) ?_
  refine xa_iconst (v := -1) d_Chart_draw_15 rfl ?_
  refine xa_callSr (As := [.ref (ch + 8), .int (-1)]) (st := []) d_Chart_draw_16 k_Chart_53 (c_Arrays_fill r8 (by omega)) rfl rfl (Nat.le_of_ble_eq_true rfl) ⟨by decide, by decide⟩ (by decide) (by decide) ?_
  refine xa_heap (xd_0 (CB := fun _ => -1) h5 h6 h7) ?_
  refine xa_iconst (v := nI 0) d_Chart_draw_19 rfl ?_
  refine xa_istore_n d_Chart_draw_20 rfl rfl ?_
  refine xa_ls ?_ (w_draw ⟨by decide, by decide⟩ hc hg hag hK hlt hN hf hb hW 0 BR LB HO (fun _ => -1) (by omega) (fun a ha => absurd ha (Nat.not_lt_zero _)) (fun x hx => Or.inl rfl))
  exact ⟨rfl, rfl, trivial⟩
end DR
end
section
/-! Words of 64 bits (a family of the given laws, BITS.to-paste), and boards packed two bits a point. -/
theorem wb_tb (n : Nat) : (lN n).toBitVec = BitVec.ofNat 64 n := rfl
theorem wb_inj {a b : Int64} (h : a.toBitVec = b.toBitVec) : a = b := Int64.toBitVec_inj.mp h
theorem wb_tn {n : Nat} (h : n < 2 ^ 64) : (lN n).toBitVec.toNat = n := by rw [wb_tb, BitVec.toNat_ofNat, Nat.mod_eq_of_lt h]
theorem wb_of (x : Int64) : ∃ n, n < 2 ^ 64 ∧ x = lN n := ⟨x.toBitVec.toNat, x.toBitVec.isLt, wb_inj (by rw [wb_tb]; simp)⟩
theorem wb_of32 (x : Int32) : ∃ n, n < 2 ^ 32 ∧ x = nI n := ⟨x.toBitVec.toNat, x.toBitVec.isLt, Int32.toBitVec_inj.mp (by show _ = BitVec.ofNat 32 _; simp)⟩
theorem wb_c : ∀ k, k < 64 → ((nI k).toInt64 &&& 63) = lN k := by decide +kernel
theorem wb_cu : ∀ k, k < 64 → ((nI k).toInt64.toUInt64 &&& Int64.toUInt64 63) = UInt64.ofNat k := by decide +kernel
theorem wb_sm : ∀ k, k < 64 → (BitVec.ofNat 64 k).smod 64 = BitVec.ofNat 64 k := by decide +kernel
theorem wb_pw {a b : Nat} (h : a ≤ b) : 2 ^ b = 2 ^ a * 2 ^ (b - a) := by rw [← Nat.pow_add]; congr 1; omega
theorem wb_lt2 {a b : Nat} (h : a < b) : 2 ^ a < 2 ^ b := Nat.pow_lt_pow_right (by decide) h
theorem wb_mod (n : Nat) : lN n = lN (n % 2 ^ 64) := wb_inj (by rw [wb_tb, wb_tb]; apply BitVec.eq_of_toNat_eq; rw [BitVec.toNat_ofNat, BitVec.toNat_ofNat, Nat.mod_mod])
theorem wb_shr {n k : Nat} (hn : n < 2 ^ 64) (hk : k < 64) : ((lN n).toUInt64 >>> ((nI k).toInt64.toUInt64 &&& Int64.toUInt64 63)).toInt64 = lN (n / 2 ^ k) := by
  rw [wb_cu k hk]
  apply wb_inj
  apply BitVec.eq_of_toNat_eq
  show ((lN n).toUInt64 >>> UInt64.ofNat k).toNat = (BitVec.ofNat 64 _).toNat
  have h1 : (UInt64.ofNat k).toNat = k := by
    show (BitVec.ofNat 64 k).toNat = k
    rw [BitVec.toNat_ofNat, Nat.mod_eq_of_lt (by omega)]
  have h2 : (lN n).toUInt64.toNat = n := wb_tn hn
  rw [UInt64.toNat_shiftRight, h1, h2, Nat.mod_eq_of_lt hk, Nat.shiftRight_eq_div_pow, BitVec.toNat_ofNat, Nat.mod_eq_of_lt (Nat.lt_of_le_of_lt (Nat.div_le_self _ _) hn)]
theorem wb_shl (n : Nat) {k : Nat} (hk : k < 64) : lN n <<< ((nI k).toInt64 &&& 63) = lN (n * 2 ^ k) := by
  rw [wb_c k hk]
  apply wb_inj
  rw [Int64.toBitVec_shiftLeft, wb_tb, wb_tb, wb_tb, wb_sm k hk]
  apply BitVec.eq_of_toNat_eq
  rw [BitVec.shiftLeft_eq', BitVec.toNat_shiftLeft, BitVec.toNat_ofNat, BitVec.toNat_ofNat, BitVec.toNat_ofNat, Nat.mod_eq_of_lt (show k < 2 ^ 64 by omega), Nat.shiftLeft_eq, Nat.mul_mod, Nat.mod_mod, ← Nat.mul_mod]
theorem wb_and {a b : Nat} (ha : a < 2 ^ 64) (hb : b < 2 ^ 64) : lN a &&& lN b = lN (a &&& b) := by
  apply wb_inj
  rw [Int64.toBitVec_and, wb_tb, wb_tb, wb_tb]
  apply BitVec.eq_of_toNat_eq
  rw [BitVec.toNat_and, BitVec.toNat_ofNat, BitVec.toNat_ofNat, BitVec.toNat_ofNat, Nat.mod_eq_of_lt ha, Nat.mod_eq_of_lt hb, Nat.mod_eq_of_lt (Nat.and_lt_two_pow _ hb)]
theorem wb_or {a b : Nat} (ha : a < 2 ^ 64) (hb : b < 2 ^ 64) : lN a ||| lN b = lN (a ||| b) := by
  apply wb_inj
  rw [Int64.toBitVec_or, wb_tb, wb_tb, wb_tb]
  apply BitVec.eq_of_toNat_eq
  rw [BitVec.toNat_or, BitVec.toNat_ofNat, BitVec.toNat_ofNat, BitVec.toNat_ofNat, Nat.mod_eq_of_lt ha, Nat.mod_eq_of_lt hb, Nat.mod_eq_of_lt (Nat.or_lt_two_pow ha hb)]
theorem wb_mask {n k : Nat} (hn : n < 2 ^ 64) (hk : k < 64) : lN n &&& lN (2 ^ k - 1) = lN (n % 2 ^ k) := by
  rw [wb_and hn (by have := wb_lt2 hk; omega), Nat.and_two_pow_sub_one_eq_mod]
theorem wb_a1 {n : Nat} (hn : n < 2 ^ 64) : lN n &&& 1 = lN (n % 2) := wb_mask (k := 1) hn (by decide)
theorem wb_bit {n k : Nat} (hn : n < 2 ^ 64) (hk : k < 64) : ((lN n).toUInt64 >>> ((nI k).toInt64.toUInt64 &&& Int64.toUInt64 63)).toInt64 &&& 1 = lN (n / 2 ^ k % 2) := by
  rw [wb_shr hn hk, wb_a1 (Nat.lt_of_le_of_lt (Nat.div_le_self _ _) hn)]
def gp_dg (v j : Nat) : Nat := v / 2 ^ (2 * j) % 4
theorem gp_4 (x : Nat) : x % 4 = (x.testBit 0).toNat + 2 * (x.testBit 1).toNat := by
  have h0 : x.testBit 0 = decide (x % 2 = 1) := Nat.testBit_zero x
  have h1 : x.testBit 1 = decide (x / 2 % 2 = 1) := by
    have := Nat.testBit_succ x 0
    rw [this, Nat.testBit_zero]
  rw [h0, h1]
  have a : x % 2 = 0 ∨ x % 2 = 1 := by omega
  have b : x / 2 % 2 = 0 ∨ x / 2 % 2 = 1 := by omega
  rcases a with a | a <;> rcases b with b | b <;> simp [a, b] <;> omega
theorem gp_dg_bits (v j : Nat) : gp_dg v j = (v.testBit (2 * j)).toNat + 2 * (v.testBit (2 * j + 1)).toNat := by
  unfold gp_dg
  rw [gp_4, Nat.testBit_div_two_pow, Nat.testBit_div_two_pow, Nat.zero_add, Nat.add_comm 1 (2 * j)]
theorem gp_dg_lt (v j : Nat) : gp_dg v j < 4 := Nat.mod_lt _ (by decide)
theorem gp_toNat {a b c d : Bool} (h : a.toNat + 2 * b.toNat = c.toNat + 2 * d.toNat) : a = c ∧ b = d := by
  cases a <;> cases b <;> cases c <;> cases d <;> simp_all
theorem gp_ext {v w : Nat} (hv : v < 2 ^ 64) (hw : w < 2 ^ 64) (h : ∀ j, j < 32 → gp_dg v j = gp_dg w j) : v = w := by
  apply Nat.eq_of_testBit_eq
  intro t
  by_cases ht : t < 64
  · have h1 := h (t / 2) (by omega)
    rw [gp_dg_bits, gp_dg_bits] at h1
    obtain ⟨e1, e2⟩ := gp_toNat h1
    by_cases h2 : t % 2 = 0
    · rw [show 2 * (t / 2) = t by omega] at e1; exact e1
    · rw [show 2 * (t / 2) + 1 = t by omega] at e2; exact e2
  · have p : 2 ^ 64 ≤ 2 ^ t := Nat.pow_le_pow_right (by decide) (by omega)
    rw [Nat.testBit_lt_two_pow (by omega), Nat.testBit_lt_two_pow (by omega)]
/-- a word with one digit set anew -/
def gp_set (v j k : Nat) : Nat := (v &&& (2 ^ 64 - (3 * 2 ^ (2 * j) + 1))) ||| (k * 2 ^ (2 * j))
theorem gp_tb {j k t : Nat} (hk : k < 4) : (k * 2 ^ (2 * j)).testBit t = (decide (2 * j ≤ t ∧ t < 2 * j + 2) && k.testBit (t - 2 * j)) := by
  rw [Nat.testBit_mul_two_pow]
  by_cases h1 : 2 * j ≤ t
  · by_cases h2 : t < 2 * j + 2
    · simp [h1, h2]
    · have : k.testBit (t - 2 * j) = false := Nat.testBit_lt_two_pow (Nat.lt_of_lt_of_le hk (by
        have := Nat.pow_le_pow_right (show 0 < 2 by decide) (show 2 ≤ t - 2 * j by omega)
        exact this))
      simp [this]
  · simp [h1]
theorem gp_set_bit {v j k t : Nat} (hj : j < 32) (hk : k < 4) (ht : t < 64) : (gp_set v j k).testBit t = if 2 * j ≤ t ∧ t < 2 * j + 2 then k.testBit (t - 2 * j) else v.testBit t := by
  have hM : 3 * 2 ^ (2 * j) < 2 ^ 64 := by
    have := Nat.pow_le_pow_right (show 0 < 2 by decide) (show 2 * j ≤ 62 by omega)
    have e : (2 : Nat) ^ 64 = 4 * 2 ^ 62 := by decide
    omega
  unfold gp_set
  rw [Nat.testBit_or, Nat.testBit_and, Nat.testBit_two_pow_sub_succ hM, gp_tb (show 3 < 4 by decide), gp_tb hk]
  by_cases h : 2 * j ≤ t ∧ t < 2 * j + 2
  · have h3 : (3 : Nat).testBit (t - 2 * j) = true := by
      rcases (show t - 2 * j = 0 ∨ t - 2 * j = 1 by omega) with e | e <;> rw [e] <;> decide
    simp [h, ht, h3]
  · simp [h, ht]
theorem gp_set_lt {v j k : Nat} (hv : v < 2 ^ 64) (hj : j < 32) (hk : k < 4) : gp_set v j k < 2 ^ 64 := by
  unfold gp_set
  refine Nat.or_lt_two_pow ?_ ?_
  · exact Nat.lt_of_le_of_lt Nat.and_le_left hv
  · have := Nat.pow_le_pow_right (show 0 < 2 by decide) (show 2 * j ≤ 62 by omega)
    have e : (2 : Nat) ^ 64 = 4 * 2 ^ 62 := by decide
    have h1 : k * 2 ^ (2 * j) ≤ 3 * 2 ^ (2 * j) := Nat.mul_le_mul_right _ (by omega)
    omega
theorem gp_set_dg {v j k i : Nat} (hj : j < 32) (hk : k < 4) (hi : i < 32) : gp_dg (gp_set v j k) i = if i = j then k else gp_dg v i := by
  rw [gp_dg_bits, gp_set_bit hj hk (by omega), gp_set_bit hj hk (by omega)]
  by_cases h : i = j
  · subst h
    rw [if_pos rfl, if_pos (by omega), if_pos (by omega), show 2 * i - 2 * i = 0 by omega, show 2 * i + 1 - 2 * i = 1 by omega, ← gp_4]
    omega
  · rw [if_neg h, if_neg (by omega), if_neg (by omega), gp_dg_bits]
/-- a board of N points, packed -/
def gp_B (N : Nat) (b : Nat → Nat) (V : Nat → Nat) : Prop := ∀ i, i < (N + 31) / 32 → V i < 2 ^ 64 ∧ ∀ j, j < 32 → gp_dg (V i) j = if 32 * i + j < N then b (32 * i + j) else 0
theorem gp_B_at {N : Nat} {b V : Nat → Nat} (h : gp_B N b V) {p : Nat} (hp : p < N) : gp_dg (V (p / 32)) (p % 32) = b p := by
  have h1 := (h (p / 32) (by omega)).2 (p % 32) (by omega)
  rw [show 32 * (p / 32) + p % 32 = p by omega, if_pos hp] at h1
  exact h1
theorem gp_B_set {N : Nat} {b V : Nat → Nat} (h : gp_B N b V) {p k : Nat} (hp : p < N) (hk : k < 4) : gp_B N (fun q => if q = p then k else b q) (fun i => if i = p / 32 then gp_set (V (p / 32)) (p % 32) k else V i) := by
  intro i hi
  by_cases hip : i = p / 32
  · subst hip
    simp only [if_pos]
    refine ⟨gp_set_lt (h _ hi).1 (by omega) hk, fun j hj => ?_⟩
    rw [gp_set_dg (by omega) hk hj]
    by_cases hj2 : j = p % 32
    · rw [if_pos hj2, if_pos (by omega), if_pos (by omega)]
    · rw [if_neg hj2, (h _ hi).2 j hj]
      by_cases h3 : 32 * (p / 32) + j < N
      · rw [if_pos h3, if_pos h3, if_neg (by omega)]
      · rw [if_neg h3, if_neg h3]
  · simp only [if_neg hip]
    refine ⟨(h i hi).1, fun j hj => ?_⟩
    rw [(h i hi).2 j hj]
    by_cases h3 : 32 * i + j < N
    · rw [if_pos h3, if_pos h3, if_neg (by omega)]
    · rw [if_neg h3, if_neg h3]
theorem gp_B_eq {N : Nat} {b b' V V' : Nat → Nat} (h : gp_B N b V) (h' : gp_B N b' V') : (∀ i, i < (N + 31) / 32 → V i = V' i) ↔ ∀ p, p < N → b p = b' p := by
  constructor
  · intro he p hp
    rw [← gp_B_at h hp, ← gp_B_at h' hp, he (p / 32) (by omega)]
  · intro he i hi
    refine gp_ext (h i hi).1 (h' i hi).1 (fun j hj => ?_)
    rw [(h i hi).2 j hj, (h' i hi).2 j hj]
    by_cases h3 : 32 * i + j < N
    · rw [if_pos h3, if_pos h3, he _ h3]
    · rw [if_neg h3, if_neg h3]
theorem gp_B_ext {N : Nat} {b b' V : Nat → Nat} (h : gp_B N b V) (he : ∀ p, p < N → b p = b' p) : gp_B N b' V := fun i hi => ⟨(h i hi).1, fun j hj => by
  rw [(h i hi).2 j hj]
  by_cases h3 : 32 * i + j < N
  · rw [if_pos h3, if_pos h3, he _ h3]
  · rw [if_neg h3, if_neg h3]⟩
theorem gp_B_0 (N : Nat) : gp_B N (fun _ => 0) (fun _ => 0) := fun i hi => ⟨show 0 < 2 ^ 64 by decide, fun j hj => by
  have h0 : gp_dg 0 j = 0 := by unfold gp_dg; rw [Nat.zero_div]
  rw [h0]
  by_cases h3 : 32 * i + j < N
  · rw [if_pos h3]
  · rw [if_neg h3]⟩
/-- the machine's words for it -/
theorem gp_get {v j : Nat} (hv : v < 2 ^ 64) (hj : j < 32) : (((lN v).toUInt64 >>> ((nI (2 * j)).toInt64.toUInt64 &&& Int64.toUInt64 63)).toInt64 &&& 3).toInt32 = nI (gp_dg v j) := by
  rw [wb_shr hv (by omega)]
  have h1 : v / 2 ^ (2 * j) < 2 ^ 64 := Nat.lt_of_le_of_lt (Nat.div_le_self _ _) hv
  have h2 := wb_mask (k := 2) h1 (by decide)
  rw [show (3 : Int64) = lN (2 ^ 2 - 1) from by decide, h2, lN_i]
  rfl
theorem gp_not {M : Nat} (hM : M < 2 ^ 64) : lN M ^^^ (-1) = lN (2 ^ 64 - (M + 1)) := by
  apply wb_inj
  rw [Int64.toBitVec_xor, wb_tb, wb_tb]
  apply BitVec.eq_of_getLsbD_eq
  intro i hi
  rw [BitVec.getLsbD_xor, BitVec.getLsbD_ofNat, BitVec.getLsbD_ofNat, Nat.testBit_two_pow_sub_succ hM]
  have h1 : (-1 : Int64).toBitVec.getLsbD i = true := by
    have h2 : (-1 : Int64).toBitVec = BitVec.allOnes 64 := by decide
    rw [h2, BitVec.getLsbD_allOnes]
    simp [hi]
  rw [h1]
  simp [hi]
theorem gp_put {v j k : Nat} (hv : v < 2 ^ 64) (hj : j < 32) (hk : k < 4) : (lN v &&& (3 <<< ((nI (2 * j)).toInt64 &&& 63) ^^^ (-1))) ||| ((nI k).toInt64 <<< ((nI (2 * j)).toInt64 &&& 63)) = lN (gp_set v j k) := by
  have hp := Nat.pow_le_pow_right (show 0 < 2 by decide) (show 2 * j ≤ 62 by omega)
  have e : (2 : Nat) ^ 64 = 4 * 2 ^ 62 := by decide
  have hM : 3 * 2 ^ (2 * j) < 2 ^ 64 := by omega
  have hK : k * 2 ^ (2 * j) < 2 ^ 64 := by
    have h1 : k * 2 ^ (2 * j) ≤ 3 * 2 ^ (2 * j) := Nat.mul_le_mul_right _ (by omega)
    omega
  rw [show (3 : Int64) = lN 3 from by decide, wb_shl 3 (by omega), gp_not hM, nI_l (by omega), wb_shl k (by omega), wb_and hv (by omega), wb_or (Nat.lt_of_le_of_lt Nat.and_le_left hv) hK]
  rfl
end
section
/-! New arrays of the kinds in use; long arrays that look alike; Packed. -/
section XN
variable {l : Launch} {D : va_G} {H0 : Heap} {μ : xa_Mu} {R : Room} {Z : xa_Z} {k n : Nat} {h : xa_H} {sz pc : Nat} {ls : List (Nat × Value)} {st : List Value}
theorem xa_newI {N : Nat} {i : Int32} (hd : decode μ.2.1 pc = .ok (.newarray .int, 2)) (hi : i = nI N) (hN : N < 2 ^ 20) (hk : k + 1 ≤ R.cells) (hs : n + N ≤ R.slots) (kk : xa_X l D H0 μ R Z (k + 1) (n + N) (xa_u h sz (.inl (D.1 100, N, .inl (fun _ => 0)))) (sz + 1) (pc + 2) ls (.ref sz :: st)) : xa_X l D H0 μ R Z k n h sz pc ls (.int i :: st) :=
  xa_newa (t0 := 0) (ty := .int) (x := (N, .inl (fun _ => 0))) w_arr_i rfl rfl (fun U cA h => h) (fun cA => rfl) hd hi (by omega) (by show N * 4 ≤ 536870912; omega) hk hs kk
theorem xa_newL {N : Nat} {i : Int32} (hd : decode μ.2.1 pc = .ok (.newarray .long, 2)) (hi : i = nI N) (hN : N < 2 ^ 20) (hk : k + 1 ≤ R.cells) (hs : n + N ≤ R.slots) (kk : xa_X l D H0 μ R Z (k + 1) (n + N) (xa_u h sz (.inl (D.1 101, N, .inr (.inl (fun _ => 0))))) (sz + 1) (pc + 2) ls (.ref sz :: st)) : xa_X l D H0 μ R Z k n h sz pc ls (.int i :: st) :=
  xa_newa (t0 := 1) (ty := .long) (x := (N, .inr (.inl (fun _ => 0)))) w_arr_l rfl rfl (fun U cA h => h) (fun cA => rfl) hd hi (by omega) (by show N * 8 ≤ 536870912; omega) hk hs kk
theorem xa_newZ {N : Nat} {i : Int32} (hd : decode μ.2.1 pc = .ok (.newarray .boolean, 2)) (hi : i = nI N) (hN : N < 2 ^ 20) (hk : k + 1 ≤ R.cells) (hs : n + N ≤ R.slots) (kk : xa_X l D H0 μ R Z (k + 1) (n + N) (xa_u h sz (.inl (D.1 102, N, .inl (fun _ => 0)))) (sz + 1) (pc + 2) ls (.ref sz :: st)) : xa_X l D H0 μ R Z k n h sz pc ls (.int i :: st) :=
  xa_newa (t0 := 2) (ty := .boolean) (x := (N, .inl (fun _ => 0))) w_arr_z rfl rfl (fun U cA h => h) (fun cA => rfl) hd hi (by omega) (by show N * 1 ≤ 536870912; omega) hk hs kk
theorem xa_newB {N : Nat} {i : Int32} (hd : decode μ.2.1 pc = .ok (.newarray .byte, 2)) (hi : i = nI N) (hN : N < 2 ^ 20) (hk : k + 1 ≤ R.cells) (hs : n + N ≤ R.slots) (kk : xa_X l D H0 μ R Z (k + 1) (n + N) (xa_u h sz (.inl (D.1 104, N, .inl (fun _ => 0)))) (sz + 1) (pc + 2) ls (.ref sz :: st)) : xa_X l D H0 μ R Z k n h sz pc ls (.int i :: st) :=
  xa_newa (t0 := 4) (ty := .byte) (x := (N, .inl (fun _ => 0))) w_arr_b rfl rfl (fun U cA h => h) (fun cA => rfl) hd hi (by omega) (by show N * 1 ≤ 536870912; omega) hk hs kk
theorem xa_cell_l {cA : ClassId} {N : Nat} {f g : Nat → Int64} (he : ∀ j, j < N → f j = g j) : vp_cell cA (N, .inr (.inl f)) = vp_cell cA (N, .inr (.inl g)) := by
  rw [vp_cell_l, vp_cell_l]
  unfold arrV
  congr 2
  funext j
  show Value.long (f j.val) = Value.long (g j.val)
  rw [he j.val j.isLt]
theorem xa_cellL {a N : Nat} {cA : ClassId} {f g : Nat → Int64} (he : ∀ j, j < N → f j = g j) (kk : xa_X l D H0 μ R Z k n (xa_u h a (.inl (cA, N, .inr (.inl g)))) sz pc ls st) : xa_X l D H0 μ R Z k n (xa_u h a (.inl (cA, N, .inr (.inl f)))) sz pc ls st := by
  intro p e s m args below meth c H locs la C hP hL hl
  refine kk p e s m args below meth c H locs la C (hP.alike fun b e' hb => ?_) hL hl
  unfold xa_u at hb ⊢
  by_cases hq : b = a
  · rw [if_pos hq] at hb ⊢
    cases hb
    refine ⟨_, rfl, fun hv => ?_⟩
    have hv' : H[b]? = some (vp_cell cA (N, .inr (.inl f))) := hv
    show H[b]? = some (vp_cell cA (N, .inr (.inl g)))
    rw [← xa_cell_l he]
    exact hv'
  · rw [if_neg hq] at hb ⊢
    exact ⟨e', hb, fun hv => hv⟩
theorem xa_lastE {a N j : Nat} {f : Nat → Int64} {i : Int32} {x : Int64} (hd : decode μ.2.1 pc = .ok (.lastore, 1)) (ha : h a = some (.inl (D.1 101, N, .inr (.inl f)))) (hi : i = nI j) (hj : j < N) (hN : N < 2 ^ 31) (kk : xa_X l D H0 μ R Z k n (xa_u h a (.inl (D.1 101, N, .inr (.inl (vp_updL f j x))))) sz (pc + 1) ls st) : xa_X l D H0 μ R Z k n h sz pc ls (.long x :: .int i :: .ref a :: st) := xa_last hd ha hj hi hN kk
end XN
section PK
variable {l : Launch} {D : va_G} {H0 : Heap} {h : xa_H} {sz : Nat} {R : Room}
/-- a packed board's cell -/
abbrev xp_c (D : va_G) (N : Nat) (V : Nat → Nat) : va_E := .inl (D.1 101, (N + 31) / 32, .inr (.inl (fun i => lN (V i))))
theorem c_Packed_kindAt {aB N p : Nat} {b V : Nat → Nat} (hB : h aB = some (xp_c D N V)) (hV : gp_B N b V) (hp : p < N) (hN : N < 1000) :
    xa_M l D H0 M_Packed_kindAt 0 0 0 0 [.ref aB, .int (nI p)] h sz (fun v h' sz' => v = some (.int (nI (b p))) ∧ h' = h ∧ sz' = sz) := by
  refine xa_enter (by decide) rfl rfl ?_
  refine xa_iconst (v := nI 2) d_Packed_kindAt_0 rfl ?_
  refine xa_iload_n d_Packed_kindAt_1 rfl ?_
  refine xa_bipush (v := nI 32) d_Packed_kindAt_2 (by decide) ?_
  refine xa_iremN d_Packed_kindAt_4 (by omega) (by omega) (by omega) ?_
  refine xa_imulN d_Packed_kindAt_5 ?_
  refine xa_istore_n d_Packed_kindAt_6 rfl rfl ?_
  refine xa_aload_n d_Packed_kindAt_7 rfl ?_
  refine xa_iload_n d_Packed_kindAt_8 rfl ?_
  refine xa_bipush (v := nI 32) d_Packed_kindAt_9 (by decide) ?_
  refine xa_idivN d_Packed_kindAt_11 (by omega) (by omega) (by omega) ?_
  refine xa_laldE d_Packed_kindAt_12 hB rfl (by omega) (by omega) rfl ?_
  refine xa_iload_n d_Packed_kindAt_13 rfl ?_
  refine xa_lushr d_Packed_kindAt_14 rfl ?_
  refine xa_ldc2 w_Packed_9 d_Packed_kindAt_15 ?_
  refine xa_land d_Packed_kindAt_18 ?_
  refine xa_l2i d_Packed_kindAt_19 rfl ?_
  refine xa_int (gp_get (hV (p / 32) (by omega)).1 (show p % 32 < 32 by omega)) ?_
  rw [gp_B_at hV hp]
  exact xa_ireturn d_Packed_kindAt_20 rfl (by omega) (by omega) ⟨rfl, rfl, rfl⟩
theorem c_Packed_setKind {aB N p k : Nat} {b V : Nat → Nat} (hB : h aB = some (xp_c D N V)) (hV : gp_B N b V) (hp : p < N) (hk : k < 4) (hN : N < 1000) :
    xa_M l D H0 M_Packed_setKind 0 0 0 0 [.ref aB, .int (nI p), .int (nI k)] h sz (fun v h' sz' => v = none ∧ h' = xa_u h aB (xp_c D N (fun i => if i = p / 32 then gp_set (V (p / 32)) (p % 32) k else V i)) ∧ sz' = sz) := by
  refine xa_enter (by decide) rfl rfl ?_
  refine xa_iload_n d_Packed_setKind_0 rfl ?_
  refine xa_bipush (v := nI 32) d_Packed_setKind_1 (by decide) ?_
  refine xa_idivN d_Packed_setKind_3 (by omega) (by omega) (by omega) ?_
  refine xa_istore_n d_Packed_setKind_4 rfl rfl ?_
  refine xa_iconst (v := nI 2) d_Packed_setKind_5 rfl ?_
  refine xa_iload_n d_Packed_setKind_6 rfl ?_
  refine xa_bipush (v := nI 32) d_Packed_setKind_7 (by decide) ?_
  refine xa_iremN d_Packed_setKind_9 (by omega) (by omega) (by omega) ?_
  refine xa_imulN d_Packed_setKind_10 ?_
  refine xa_istore d_Packed_setKind_11 rfl rfl ?_
  refine xa_aload_n d_Packed_setKind_13 rfl ?_
  refine xa_iload_n d_Packed_setKind_14 rfl ?_
  refine xa_aload_n d_Packed_setKind_15 rfl ?_
  refine xa_iload_n d_Packed_setKind_16 rfl ?_
  refine xa_laldE d_Packed_setKind_17 hB rfl (by omega) (by omega) rfl ?_
  refine xa_ldc2 w_Packed_9 d_Packed_setKind_18 ?_
  refine xa_iload d_Packed_setKind_21 rfl ?_
  refine xa_lshl d_Packed_setKind_23 rfl ?_
  refine xa_ldc2 w_Packed_11 d_Packed_setKind_24 ?_
  refine xa_lxor d_Packed_setKind_27 ?_
  refine xa_land d_Packed_setKind_28 ?_
  refine xa_iload_n d_Packed_setKind_29 rfl ?_
  refine xa_i2l d_Packed_setKind_30 rfl ?_
  refine xa_iload d_Packed_setKind_31 rfl ?_
  refine xa_lshl d_Packed_setKind_33 rfl ?_
  refine xa_lor d_Packed_setKind_34 ?_
  rw [gp_put (hV (p / 32) (by omega)).1 (show p % 32 < 32 by omega) hk]
  refine xa_lastE d_Packed_setKind_35 hB rfl (by omega) (by omega) ?_
  refine xa_cellL (g := fun i => lN (if i = p / 32 then gp_set (V (p / 32)) (p % 32) k else V i)) (fun j hj => ?_) ?_
  · by_cases hjp : j = p / 32
    · simp [vp_updL, hjp]
    · simp [vp_updL, hjp]
  exact xa_return d_Packed_setKind_36 rfl (by omega) (by omega) ⟨rfl, rfl, rfl⟩
theorem w_Packed_unpack {aB aK N : Nat} {b V : Nat → Nat} {K : Nat → Int32} (hR : 1 ≤ R.frames ∧ 22 ≤ R.locals) (hB : h aB = some (xp_c D N V)) (hne : aB ≠ aK) (hV : gp_B N b V) (hN : N < 1000) (i : Nat) (hi : i ≤ N) :
    xa_X l D H0 M_Packed_unpack R (xa_Zr D H0 0 0 (fun v h' sz' => v = none ∧ h' = xa_u h aK (.inl (D.1 100, N, .inl (fun q => nI (b q)))) ∧ sz' = sz)) 0 0 (xa_u h aK (.inl (D.1 100, N, .inl (fun q => if q < i then nI (b q) else K q)))) sz 2 [(0, .ref aB), (1, .ref aK), (2, .int (nI i))] [] := by
  have hB' : xa_u h aK (.inl (D.1 100, N, .inl (fun q => if q < i then nI (b q) else K q))) aB = some (xp_c D N V) := xa_u_ne hB hne
  have hK' : xa_u h aK (.inl (D.1 100, N, .inl (fun q => if q < i then nI (b q) else K q))) aK = some (.inl (D.1 100, N, .inl (fun q => if q < i then nI (b q) else K q))) := xa_u_eq _ _ _
  refine xa_iload_n d_Packed_unpack_2 rfl ?_
  refine xa_aload_n d_Packed_unpack_3 rfl ?_
  refine xa_alen (t0 := 0) rfl d_Packed_unpack_4 (by assumption) (by rfl) ?_
  refine xa_icmp_geN (tgt := 22) d_Packed_unpack_5 (by decide) (by omega) (by omega) (fun hb => ?_) (fun hb => ?_)
  · refine xa_cellI (g := fun q => nI (b q)) (fun j hj => if_pos (by omega)) ?_
    exact xa_return d_Packed_unpack_22 rfl (by omega) (by omega) ⟨rfl, rfl, rfl⟩
  ·
    refine xa_aload_n d_Packed_unpack_8 rfl ?_
    refine xa_iload_n d_Packed_unpack_9 rfl ?_
    refine xa_aload_n d_Packed_unpack_10 rfl ?_
    refine xa_iload_n d_Packed_unpack_11 rfl ?_
    refine xa_callSr (As := [.ref aB, .int (nI i)]) (st := [.int (nI i), .ref aK]) d_Packed_unpack_12 k_Packed_13 (c_Packed_kindAt hB' hV hb hN) rfl rfl (Nat.le_of_ble_eq_true rfl) ⟨hR.1, hR.2⟩ (by omega) (by omega) ?_
    refine xa_iastE d_Packed_unpack_15 hK' rfl hb (by omega) ?_
    rw [xa_uu]
    refine xa_cellI (g := fun q => if q < i + 1 then nI (b q) else K q) (fun j hj => ?_) ?_
    · show (if j = i then nI (b i) else if j < i then nI (b j) else K j) = if j < i + 1 then nI (b j) else K j
      by_cases h1 : j = i
      · rw [if_pos h1, if_pos (by omega), h1]
      · rw [if_neg h1]
        by_cases h2 : j < i
        · rw [if_pos h2, if_pos (by omega)]
        · rw [if_neg h2, if_neg (by omega)]
    refine xa_iincN d_Packed_unpack_16 rfl rfl rfl ?_
    refine xa_goto (tgt := 2) d_Packed_unpack_19 (by decide) ?_
    refine xa_ls ?_ (w_Packed_unpack hR hB hne hV hN (i + 1) (by omega))
    exact ⟨rfl, rfl, rfl, trivial⟩
termination_by N - i
decreasing_by omega
theorem c_Packed_unpack {aB aK N : Nat} {b V : Nat → Nat} {K : Nat → Int32} (hB : h aB = some (xp_c D N V)) (hK : h aK = some (.inl (D.1 100, N, .inl K))) (hne : aB ≠ aK) (hV : gp_B N b V) (hN : N < 1000) :
    xa_M l D H0 M_Packed_unpack 1 22 0 0 [.ref aB, .ref aK] h sz (fun v h' sz' => v = none ∧ h' = xa_u h aK (.inl (D.1 100, N, .inl (fun q => nI (b q)))) ∧ sz' = sz) := by
  refine xa_enter (by decide) rfl rfl ?_
  refine xa_iconst (v := nI 0) d_Packed_unpack_0 rfl ?_
  refine xa_istore_n d_Packed_unpack_1 rfl rfl ?_
  refine xa_heap (xa_us h hK).symm ?_
  refine xa_cellI (g := fun q => if q < 0 then nI (b q) else K q) (fun j hj => (if_neg (by omega)).symm) ?_
  refine xa_ls ?_ (w_Packed_unpack ⟨by decide, by decide⟩ hB hne hV hN 0 (by omega))
  exact ⟨rfl, rfl, rfl, trivial⟩
theorem c_Packed_freeBoard {N : Nat} (hN : N ≤ 169) :
    xa_M l D H0 M_Packed_freeBoard 0 0 1 6 [.int (nI N)] h sz (fun v h' sz' => v = some (.ref sz) ∧ h' = xa_u h sz (xp_c D N (fun _ => 0)) ∧ sz' = sz + 1) := by
  refine xa_enter (by decide) rfl rfl ?_
  refine xa_iload_n d_Packed_freeBoard_0 rfl ?_
  refine xa_bipush (v := nI 32) d_Packed_freeBoard_1 (by decide) ?_
  refine xa_iaddN d_Packed_freeBoard_3 ?_
  refine xa_iconst (v := nI 1) d_Packed_freeBoard_4 rfl ?_
  refine xa_isubN d_Packed_freeBoard_5 (by omega) ?_
  refine xa_bipush (v := nI 32) d_Packed_freeBoard_6 (by decide) ?_
  refine xa_idivN d_Packed_freeBoard_8 (by omega) (by omega) (by omega) ?_
  refine xa_newL d_Packed_freeBoard_9 rfl (by omega) (Nat.le_refl 1) (by show 0 + _ ≤ 6; omega) ?_
  refine xa_heap (show xa_u h sz (.inl (D.1 101, (N + 32 - 1) / 32, .inr (.inl (fun _ => 0)))) = xa_u h sz (xp_c D N (fun _ => 0)) from by rw [show N + 32 - 1 = N + 31 by omega]; rfl) ?_
  exact xa_areturn d_Packed_freeBoard_11 rfl (Or.inr ⟨_, rfl⟩) (by omega) (by omega) ⟨rfl, rfl, rfl⟩
end PK
end
section
/-! What a trial does to a board (pure part). -/
theorem gt_br_conn {n : Nat} {K : Nat → Int32} {p p' : Nat} (hp : p < n * n) (h : gb_conn n K p p') (q : Nat) : gt_br n K p q ↔ gt_br n K p' q := by
  have hp' := gb_conn_lt hp h
  constructor
  · rintro ⟨h1, h2, w, x, hw, hx, hc⟩
    exact ⟨h1, h2, w, x, hw, hx, gb_conn_tr (gb_conn_sy hp h) hc⟩
  · rintro ⟨h1, h2, w, x, hw, hx, hc⟩
    exact ⟨h1, h2, w, x, hw, hx, gb_conn_tr h hc⟩
theorem gb_cnt_or {P P' : Nat → Prop} : ∀ N : Nat, (∀ q, q < N → ¬ (P q ∧ P' q)) → gb_cnt (fun q => P q ∨ P' q) N = gb_cnt P N + gb_cnt P' N := by
  intro N
  induction N with
  | zero => intro _; rfl
  | succ m ih =>
    intro h
    have e := ih (fun q hq => h q (by omega))
    by_cases h1 : P m <;> by_cases h2 : P' m
    · exact absurd ⟨h1, h2⟩ (h m (by omega))
    · rw [gb_cnt_y (P := fun q => P q ∨ P' q) (Or.inl h1), gb_cnt_y h1, gb_cnt_n h2, e]; omega
    · rw [gb_cnt_y (P := fun q => P q ∨ P' q) (Or.inr h2), gb_cnt_n h1, gb_cnt_y h2, e]; omega
    · rw [gb_cnt_n (P := fun q => P q ∨ P' q) (fun z => z.elim h1 h2), gb_cnt_n h1, gb_cnt_n h2, e]
theorem gs_W_size {n : Nat} {K : Nat → Int32} {c : Nat} {ar o s : Nat → Nat} (h : gs_W n K c ar o s) {a : Nat} (ha : a < c) : gb_cnt (gb_conn n K (o (s a))) (n * n) = s (a + 1) - s a := by
  obtain ⟨a1, a2, a3, a4, a5⟩ := gs_W_area h ha
  refine gb_enum _ _ (fun j => o (s a + j)) (fun i hi => ⟨h.2.2.1 _ (by omega), (a5 _).mpr ⟨i, hi, rfl⟩⟩) (fun i j hi hj hij => ?_) (fun q _ hq => (a5 q).mp hq)
  have := h.2.2.2.1 (s a + i) (s a + j) (by omega) (by omega) hij
  omega
/-- the points of the strings of a side beside p, in the first w ways, whose last breath p is -/
def gq_cap (n : Nat) (b : Nat → Nat) (p sd w q : Nat) : Prop := ∃ v x, v < w ∧ gb_nb n p v = some x ∧ b x = sd ∧ gb_cnt (gt_br n (fun q => nI (b q)) x) (n * n) = 1 ∧ gb_conn n (fun q => nI (b q)) x q
theorem gq_cap_0 {n : Nat} {b : Nat → Nat} {p sd q : Nat} : ¬ gq_cap n b p sd 0 q := by
  rintro ⟨v, x, h, -⟩
  omega
theorem gq_cap_w {n : Nat} {b : Nat → Nat} {p sd w q : Nat} : gq_cap n b p sd (w + 1) q ↔ gq_cap n b p sd w q ∨ ∃ x, gb_nb n p w = some x ∧ b x = sd ∧ gb_cnt (gt_br n (fun q => nI (b q)) x) (n * n) = 1 ∧ gb_conn n (fun q => nI (b q)) x q := by
  constructor
  · rintro ⟨v, x, h, h1, h2, h3, h4⟩
    by_cases hv : v = w
    · subst hv; exact Or.inr ⟨x, h1, h2, h3, h4⟩
    · exact Or.inl ⟨v, x, by omega, h1, h2, h3, h4⟩
  · rintro (⟨v, x, h, h1, h2, h3, h4⟩ | ⟨x, h1, h2, h3, h4⟩)
    · exact ⟨v, x, by omega, h1, h2, h3, h4⟩
    · exact ⟨w, x, by omega, h1, h2, h3, h4⟩
theorem gq_cap_tr {n : Nat} {b : Nat → Nat} {p sd w x q : Nat} (h : gq_cap n b p sd w x) (hq : gb_conn n (fun q => nI (b q)) x q) : gq_cap n b p sd w q := by
  obtain ⟨v, y, h0, h1, h2, h3, h4⟩ := h
  exact ⟨v, y, h0, h1, h2, h3, gb_conn_tr h4 hq⟩
theorem gq_cap_lt {n : Nat} {b : Nat → Nat} {p sd w q : Nat} (hp : p < n * n) (hw : w ≤ 4) (h : gq_cap n b p sd w q) : q < n * n := by
  obtain ⟨v, y, h0, h1, h2, h3, h4⟩ := h
  exact gb_conn_lt (gb_nb_lt hp (by omega) h1) h4
theorem gq_cap_b {n : Nat} {b : Nat → Nat} {p sd w q : Nat} (hp : p < n * n) (hw : w ≤ 4) (hb : ∀ q, q < n * n → b q ≤ 2) (h : gq_cap n b p sd w q) : b q = sd := by
  have hq := gq_cap_lt hp hw h
  obtain ⟨v, y, h0, h1, h2, h3, h4⟩ := h
  have hy := gb_nb_lt hp (by omega) h1
  have := gb_conn_k h4
  have e : nI (b q) = nI (b y) := this
  have h5 := hb q hq
  have h6 := hb y hy
  have := (nI_eq (by omega) (by omega)).mp e
  omega
/-- a board with the captured ones taken off -/
def gq_off (N : Nat) (C : Nat → Prop) (t0 t : Nat → Nat) : Prop := ∀ q, q < N → (C q → t q = 0) ∧ (¬ C q → t q = t0 q)
theorem gq_off_eq {N : Nat} {C C' : Nat → Prop} {t0 t : Nat → Nat} (h : gq_off N C t0 t) (he : ∀ q, q < N → (C' q ↔ C q)) : gq_off N C' t0 t := fun q hq => ⟨fun z => (h q hq).1 ((he q hq).mp z), fun z => (h q hq).2 (fun w => z ((he q hq).mpr w))⟩
theorem gq_off_or {N : Nat} {C C' : Nat → Prop} {t0 t t' : Nat → Nat} (h : gq_off N C t0 t) (h' : gq_off N C' t t') : gq_off N (fun q => C q ∨ C' q) t0 t' := by
  intro q hq
  constructor
  · intro hc
    by_cases h2 : C' q
    · exact (h' q hq).1 h2
    · rw [(h' q hq).2 h2]
      exact (h q hq).1 (hc.resolve_right h2)
  · intro hc
    rw [(h' q hq).2 (fun z => hc (Or.inr z))]
    exact (h q hq).2 (fun z => hc (Or.inl z))
/-- p finds a breath for a stone of a side, in the first w ways -/
def gq_bre (n : Nat) (b : Nat → Nat) (p sd w : Nat) : Prop := ∃ v x, v < w ∧ gb_nb n p v = some x ∧ (b x = 0 ∨ (b x = sd ∧ gb_cnt (gt_br n (fun q => nI (b q)) x) (n * n) ≠ 1))
/-- what is tried: the board behind a stone of the side sd at p; how many stones go; whose -/
def gq_T (n : Nat) (b : Nat → Nat) (p sd : Nat) (t : Nat → Nat) (k ls : Nat) : Prop :=
  ((∃ q, gq_cap n b p (3 - sd) 4 q) ∧ gq_off (n * n) (gq_cap n b p (3 - sd) 4) (fun q => if q = p then sd else b q) t ∧ k = gb_cnt (gq_cap n b p (3 - sd) 4) (n * n) ∧ ls = 3 - sd) ∨
  ((∀ q, ¬ gq_cap n b p (3 - sd) 4 q) ∧ gq_bre n b p sd 4 ∧ (∀ q, q < n * n → t q = if q = p then sd else b q) ∧ k = 0 ∧ ls = 3 - sd) ∨
  ((∀ q, ¬ gq_cap n b p (3 - sd) 4 q) ∧ ¬ gq_bre n b p sd 4 ∧ gq_off (n * n) (fun q => gq_cap n b p sd 4 q ∨ q = p) b t ∧ k = gb_cnt (gq_cap n b p sd 4) (n * n) + 1 ∧ ls = sd)
end
section
/-! Trial: isLastBreathOf, findsBreath, takeString. -/
/-- what a trial reads of the chart -/
def xq_R (D : va_G) (h : xa_H) (n ch g aK c : Nat) (f A O S BR : Nat → Int32) (b ar o s : Nat → Nat) : Prop :=
  xc_R D h n ch g aK c f A O S b ∧ h (ch + 5) = some (.inl (D.1 100, n * n, .inl BR)) ∧ xt_W n (fun q => nI (b q)) c ar o s A O S ∧ ∀ a, a < c → b (o (s a)) ≠ 0 → BR a = nI (gb_cnt (gt_br n (fun q => nI (b q)) (o (s a))) (n * n))
def xr_h (D : va_G) (h : xa_H) (tr g aK ch N : Nat) (V : Nat → Nat) (k ls : Nat) : xa_H := xa_u (xa_u h (tr + 1) (xp_c D N V)) tr (.inr (7, [.ref (tr + 1), .int (nI k), .int (nI ls), .ref g, .ref aK, .ref ch]))
section RH
variable {D : va_G} {h : xa_H} {tr g aK ch N k ls : Nat} {V : Nat → Nat}
theorem xr_hn {q : Nat} {e : Option va_E} (hq : h q = e) (h1 : q ≠ tr) (h2 : q ≠ tr + 1) : xr_h D h tr g aK ch N V k ls q = e := xa_u_ne (xa_u_ne hq h2) h1
theorem xr_h0 : xr_h D h tr g aK ch N V k ls tr = some (.inr (7, [.ref (tr + 1), .int (nI k), .int (nI ls), .ref g, .ref aK, .ref ch])) := xa_u_eq _ _ _
theorem xr_h1 : xr_h D h tr g aK ch N V k ls (tr + 1) = some (xp_c D N V) := xa_u_ne (xa_u_eq _ _ _) (by omega)
theorem xr_u0 (k' ls' : Nat) : xa_u (xr_h D h tr g aK ch N V k ls) tr (.inr (7, [.ref (tr + 1), .int (nI k'), .int (nI ls'), .ref g, .ref aK, .ref ch])) = xr_h D h tr g aK ch N V k' ls' := xa_uu _ _ _ _
theorem xr_u1 (V' : Nat → Nat) : xa_u (xr_h D h tr g aK ch N V k ls) (tr + 1) (xp_c D N V') = xr_h D h tr g aK ch N V' k ls := xa_uc _ (by omega) _ _ _
theorem xr_R {n c : Nat} {f A O S BR : Nat → Int32} {b ar o s : Nat → Nat} (hr : xq_R D h n ch g aK c f A O S BR b ar o s) (hlt : g + 1 < ch ∧ aK < ch ∧ ch + 8 < tr) : xq_R D (xr_h D h tr g aK ch N V k ls) n ch g aK c f A O S BR b ar o s := by
  obtain ⟨⟨r1, r2, r3, r4, r5, r6, r7, r8, hx⟩, r9, hy⟩ := hr
  exact ⟨⟨xr_hn r1 (by omega) (by omega), xr_hn r2 (by omega) (by omega), xr_hn r3 (by omega) (by omega), xr_hn r4 (by omega) (by omega), xr_hn r5 (by omega) (by omega), xr_hn r6 (by omega) (by omega), xr_hn r7 (by omega) (by omega), xr_hn r8 (by omega) (by omega), hx⟩, xr_hn r9 (by omega) (by omega), hy⟩
end RH
section TK
variable {l : Launch} {D : va_G} {H0 : Heap} {h : xa_H} {sz : Nat} {R : Room}
theorem c_Trial_isLastBreathOf {n ch g aK c tr x : Nat} {f A O S BR : Nat → Int32} {b ar o s : Nat → Nat} {v1 v2 v3 v4 v5 : Value} (hr : xq_R D h n ch g aK c f A O S BR b ar o s) (ht : h tr = some (.inr (7, [v1, v2, v3, v4, v5, .ref ch]))) (hx : x < n * n) (hbx : b x ≠ 0) :
    xa_M l D H0 M_Trial_isLastBreathOf 1 21 0 0 [.ref tr, .int (nI x)] h sz (fun v h' sz' => v = some (.int (if gb_cnt (gt_br n (fun q => nI (b q)) x) (n * n) = 1 then 1 else 0)) ∧ h' = h ∧ sz' = sz) := by
  obtain ⟨⟨r1, r2, r3, r4, r5, r6, r7, r8, hN, hf, hb⟩, r9, ⟨w1, w2, w3, w4⟩, hBR⟩ := hr
  have hax : ar x < c := w1.1 x hx
  have hcN : c ≤ n * n := w1.2.2.2.2.2.2.2.2.2.2
  obtain ⟨a1, a2, a3, a4, a5⟩ := gs_W_area w1 hax
  have hcon : gb_conn n (fun q => nI (b q)) (o (s (ar x))) x := (w1.2.1 _ _ a3 hx).mp a4
  have hb0 : b (o (s (ar x))) ≠ 0 := fun z => hbx (by
    have e : nI (b x) = nI (b (o (s (ar x)))) := gb_conn_k (k := fun q => nI (b q)) hcon
    have h5 := hb x hx
    have h6 := hb _ a3
    rw [(nI_eq (by omega) (by omega)).mp e]; exact z)
  have hcnt : gb_cnt (gt_br n (fun q => nI (b q)) (o (s (ar x)))) (n * n) = gb_cnt (gt_br n (fun q => nI (b q)) x) (n * n) := gb_cnt_eq _ (fun q _ => gt_br_conn a3 hcon q)
  have hle := gb_cnt_le (P := gt_br n (fun q => nI (b q)) x) (n * n)
  have hBx := hBR _ hax hb0
  rw [hcnt] at hBx
  refine xa_enter (by decide) rfl rfl ?_
  refine xa_aload_n d_Trial_isLastBreathOf_0 rfl ?_
  refine xa_getf f_Trial_19 d_Trial_isLastBreathOf_1 (by assumption) (by rfl) ?_
  refine xa_aload_n d_Trial_isLastBreathOf_4 rfl ?_
  refine xa_getf f_Trial_19 d_Trial_isLastBreathOf_5 (by assumption) (by rfl) ?_
  refine xa_getf f_Trial_79 d_Trial_isLastBreathOf_8 (by assumption) (by rfl) ?_
  refine xa_iload_n d_Trial_isLastBreathOf_11 rfl ?_
  refine xa_callVr (As := [.int (nI x)]) (st := [.ref ch]) d_Trial_isLastBreathOf_12 k_Trial_85 r2 (c_Areas_areaAt r2 r3 hN hx (w2 x hx)) rfl rfl (Nat.le_of_ble_eq_true rfl) ⟨by decide, by decide⟩ (by decide) (by decide) ?_
  refine xa_callVr (As := [.int (nI (ar x))]) (st := []) d_Trial_isLastBreathOf_15 k_Trial_100 r1 (c_Chart_get5 r1 r9 hN (by omega) hBx) rfl rfl (Nat.le_of_ble_eq_true rfl) ⟨by decide, by decide⟩ (by decide) (by decide) ?_
  refine xa_iconst (v := nI 1) d_Trial_isLastBreathOf_18 rfl ?_
  refine xa_icmp_neN (tgt := 26) d_Trial_isLastBreathOf_19 (by decide) (by omega) (by omega) (fun hz => ?_) (fun hz => ?_)
  ·
    refine xa_iconst (v := nI 0) d_Trial_isLastBreathOf_26 rfl ?_
    exact xa_zreturn d_Trial_isLastBreathOf_27 rfl rfl (by omega) (by omega) ⟨by rw [if_neg hz]; rfl, rfl, rfl⟩
  ·
    refine xa_iconst (v := nI 1) d_Trial_isLastBreathOf_22 rfl ?_
    refine xa_goto (tgt := 27) d_Trial_isLastBreathOf_23 (by decide) ?_
    exact xa_zreturn d_Trial_isLastBreathOf_27 rfl rfl (by omega) (by omega) ⟨by rw [if_pos hz]; rfl, rfl, rfl⟩
theorem w_findsBreath {n ch g aK c tr p sd : Nat} {f A O S BR : Nat → Int32} {b ar o s : Nat → Nat} {v1 v2 v3 : Value} (hR : 2 ≤ R.frames ∧ 42 ≤ R.locals) (hr : xq_R D h n ch g aK c f A O S BR b ar o s) (ht : h tr = some (.inr (7, [v1, v2, v3, .ref g, .ref aK, .ref ch]))) (hp : p < n * n) (hsd : sd = 1 ∨ sd = 2)
    (w : Nat) (hw : w ≤ 4) (hno : ¬ gq_bre n b p sd w) :
    xa_X l D H0 M_Trial_findsBreath R (xa_Zr D H0 0 0 (fun v h' sz' => ((v = some (.int 1) ∧ gq_bre n b p sd 4) ∨ (v = some (.int 0) ∧ ¬ gq_bre n b p sd 4)) ∧ h' = h ∧ sz' = sz)) 0 0 h sz 2 [(0, .ref tr), (1, .int (nI p)), (2, .int (nI sd)), (3, .int (nI w))] [] := by
  obtain ⟨⟨r1, r2, r3, r4, r5, r6, r7, r8, hN, hf, hb⟩, r9, -, -⟩ := id hr
  refine xa_iload_n d_Trial_findsBreath_2 rfl ?_
  refine xa_iconst (v := nI 4) d_Trial_findsBreath_3 rfl ?_
  refine xa_icmp_geN (tgt := 62) d_Trial_findsBreath_4 (by decide) (by omega) (by omega) (fun hb4 => ?_) (fun hb4 => ?_)
  · have hw4 : w = 4 := by omega
    subst hw4
    refine xa_iconst (v := nI 0) d_Trial_findsBreath_62 rfl ?_
    exact xa_zreturn (v := nI 0) d_Trial_findsBreath_63 rfl (by decide) (by omega) (by omega) ⟨Or.inr ⟨rfl, hno⟩, rfl, rfl⟩
  ·
    refine xa_aload_n d_Trial_findsBreath_7 rfl ?_
    refine xa_getf f_Trial_9 d_Trial_findsBreath_8 (by assumption) (by rfl) ?_
    refine xa_iload_n d_Trial_findsBreath_11 rfl ?_
    refine xa_iload_n d_Trial_findsBreath_12 rfl ?_
    refine xa_callVr (As := [.int (nI p), .int (nI w)]) (st := []) d_Trial_findsBreath_13 k_Trial_67 r6 (c_Grid_neighbour r6 r7 hN hp hb4) rfl rfl (Nat.le_of_ble_eq_true rfl) ⟨by have := hR.1; show 0 + 1 ≤ _; omega, by have := hR.2; show 8 + (3 + 11) + 0 ≤ _; omega⟩ (by omega) (by omega) ?_
    have again : (∀ x, gb_nb n p w = some x → ¬ (b x = 0 ∨ (b x = sd ∧ gb_cnt (gt_br n (fun q => nI (b q)) x) (n * n) ≠ 1))) → ∀ z : Int32, xa_X l D H0 M_Trial_findsBreath R (xa_Zr D H0 0 0 (fun v h' sz' => ((v = some (.int 1) ∧ gq_bre n b p sd 4) ∨ (v = some (.int 0) ∧ ¬ gq_bre n b p sd 4)) ∧ h' = h ∧ sz' = sz)) 0 0 h sz 56 [(0, .ref tr), (1, .int (nI p)), (2, .int (nI sd)), (3, .int (nI w)), (4, .int z)] [] := by
      intro hs z
      refine xa_iincN d_Trial_findsBreath_56 rfl rfl rfl ?_
      refine xa_goto (tgt := 2) d_Trial_findsBreath_59 (by decide) ?_
      refine xa_ls ?_ (w_findsBreath hR hr ht hp hsd (w + 1) (by omega) (fun hz => ?_))
      · exact ⟨rfl, rfl, rfl, rfl, trivial⟩
      · obtain ⟨v, x, h0, h1, h2⟩ := hz
        by_cases hv : v = w
        · subst hv; exact hs x h1 h2
        · exact hno ⟨v, x, by omega, h1, h2⟩
    have found : ∀ x, gb_nb n p w = some x → (b x = 0 ∨ (b x = sd ∧ gb_cnt (gt_br n (fun q => nI (b q)) x) (n * n) ≠ 1)) → ∀ lsx, xa_X l D H0 M_Trial_findsBreath R (xa_Zr D H0 0 0 (fun v h' sz' => ((v = some (.int 1) ∧ gq_bre n b p sd 4) ∨ (v = some (.int 0) ∧ ¬ gq_bre n b p sd 4)) ∧ h' = h ∧ sz' = sz)) 0 0 h sz 54 lsx [] := by
      intro x h1 h2 lsx
      refine xa_iconst (v := nI 1) d_Trial_findsBreath_54 rfl ?_
      exact xa_zreturn (v := nI 1) d_Trial_findsBreath_55 rfl (by decide) (by omega) (by omega) ⟨Or.inl ⟨rfl, w, x, by omega, h1, h2⟩, rfl, rfl⟩
    have hv := hf p w hp hb4
    cases hnb : gb_nb n p w with
    | none =>
      rw [hnb] at hv
      refine xa_int (show f (4 * p + w) = -1 from hv) ?_
      refine xa_istore d_Trial_findsBreath_16 rfl rfl ?_
      refine xa_iload d_Trial_findsBreath_18 rfl ?_
      refine xa_iconst (v := -1) d_Trial_findsBreath_20 rfl ?_
      refine xa_icmp_eq (tgt := 56) d_Trial_findsBreath_21 (by decide) (fun hz => ?_) (fun hz => ?_)
      · refine xa_ls ?_ (again (fun x hx => by rw [hnb] at hx; cases hx) (-1))
        exact ⟨rfl, rfl, rfl, rfl, rfl, trivial⟩
      · exact absurd rfl hz
    | some y =>
      rw [hnb] at hv
      have hy := gb_nb_lt hp hb4 hnb
      have hby := hb y hy
      refine xa_int (show f (4 * p + w) = nI y from hv) ?_
      refine xa_istore d_Trial_findsBreath_16 rfl rfl ?_
      refine xa_iload d_Trial_findsBreath_18 rfl ?_
      refine xa_iconst (v := -1) d_Trial_findsBreath_20 rfl ?_
      refine xa_icmp_eq (tgt := 56) d_Trial_findsBreath_21 (by decide) (fun hz => ?_) (fun hz => ?_)
      · exact absurd hz (gb_m1 (by omega))
      ·
        refine xa_aload_n d_Trial_findsBreath_24 rfl ?_
        refine xa_getf f_Trial_15 d_Trial_findsBreath_25 (by assumption) (by rfl) ?_
        refine xa_iload d_Trial_findsBreath_28 rfl ?_
        refine xa_ialdE d_Trial_findsBreath_30 (by assumption) rfl (by omega) (by omega) (by rfl) ?_
        refine xa_if_eqN (tgt := 54) d_Trial_findsBreath_31 (by decide) (by omega) (fun hz2 => ?_) (fun hz2 => ?_)
        · exact found y hnb (Or.inl hz2) _
        ·
          refine xa_aload_n d_Trial_findsBreath_34 rfl ?_
          refine xa_getf f_Trial_15 d_Trial_findsBreath_35 (by assumption) (by rfl) ?_
          refine xa_iload d_Trial_findsBreath_38 rfl ?_
          refine xa_ialdE d_Trial_findsBreath_40 (by assumption) rfl (by omega) (by omega) (by rfl) ?_
          refine xa_iload_n d_Trial_findsBreath_41 rfl ?_
          refine xa_icmp_neN (tgt := 56) d_Trial_findsBreath_42 (by decide) (by omega) (by omega) (fun hz3 => ?_) (fun hz3 => ?_)
          · refine xa_ls ?_ (again (fun x hx => by rw [hnb] at hx; cases hx; exact fun z => z.elim (by omega) (fun z => hz3 z.1)) (nI y))
            exact ⟨rfl, rfl, rfl, rfl, rfl, trivial⟩
          ·
            refine xa_aload_n d_Trial_findsBreath_45 rfl ?_
            refine xa_iload d_Trial_findsBreath_46 rfl ?_
            refine xa_callVr (As := [.int (nI y)]) (st := []) d_Trial_findsBreath_48 k_Trial_71 ht (c_Trial_isLastBreathOf hr ht hy (by omega)) rfl rfl (Nat.le_of_ble_eq_true rfl) ⟨by have := hR.1; show 1 + 1 ≤ _; omega, by have := hR.2; show 8 + (2 + 11) + 21 ≤ _; omega⟩ (by omega) (by omega) ?_
            by_cases h1 : gb_cnt (gt_br n (fun q => nI (b q)) y) (n * n) = 1
            · refine xa_int (show (if gb_cnt (gt_br n (fun q => nI (b q)) y) (n * n) = 1 then (1 : Int32) else 0) = nI 1 from by rw [if_pos h1]; rfl) ?_
              refine xa_if_neN (tgt := 56) d_Trial_findsBreath_51 (by decide) (by omega) (fun hz4 => ?_) (fun hz4 => ?_)
              · refine xa_ls ?_ (again (fun x hx => by rw [hnb] at hx; cases hx; exact fun z => z.elim (by omega) (fun z => z.2 h1)) (nI y))
                exact ⟨rfl, rfl, rfl, rfl, rfl, trivial⟩
              · omega
            · refine xa_int (show (if gb_cnt (gt_br n (fun q => nI (b q)) y) (n * n) = 1 then (1 : Int32) else 0) = nI 0 from by rw [if_neg h1]; rfl) ?_
              refine xa_if_neN (tgt := 56) d_Trial_findsBreath_51 (by decide) (by omega) (fun hz4 => ?_) (fun hz4 => ?_)
              · omega
              · exact found y hnb (Or.inr ⟨hz3, h1⟩) _
termination_by 4 - w
decreasing_by omega
theorem c_Trial_findsBreath {n ch g aK c tr p sd : Nat} {f A O S BR : Nat → Int32} {b ar o s : Nat → Nat} {v1 v2 v3 : Value} (hr : xq_R D h n ch g aK c f A O S BR b ar o s) (ht : h tr = some (.inr (7, [v1, v2, v3, .ref g, .ref aK, .ref ch]))) (hp : p < n * n) (hsd : sd = 1 ∨ sd = 2) :
    xa_M l D H0 M_Trial_findsBreath 2 42 0 0 [.ref tr, .int (nI p), .int (nI sd)] h sz (fun v h' sz' => ((v = some (.int 1) ∧ gq_bre n b p sd 4) ∨ (v = some (.int 0) ∧ ¬ gq_bre n b p sd 4)) ∧ h' = h ∧ sz' = sz) := by
  refine xa_enter (by decide) rfl rfl ?_
  refine xa_iconst (v := nI 0) d_Trial_findsBreath_0 rfl ?_
  refine xa_istore_n d_Trial_findsBreath_1 rfl rfl ?_
  refine xa_ls ?_ (w_findsBreath ⟨by decide, by decide⟩ hr ht hp hsd 0 (by omega) (fun ⟨v, x, h0, _⟩ => by omega))
  exact ⟨rfl, rfl, rfl, rfl, trivial⟩
theorem w_takeString {n ch g aK c tr a k ls : Nat} {f A O S BR : Nat → Int32} {b ar o s t : Nat → Nat} (hR : 1 ≤ R.frames ∧ 24 ≤ R.locals) (hr : xq_R D h n ch g aK c f A O S BR b ar o s) (hlt : g + 1 < ch ∧ aK < ch ∧ ch + 8 < tr) (ha : a < c)
    (i : Nat) (t' V' : Nat → Nat) (hi : i ≤ s (a + 1) - s a) (hV : gp_B (n * n) t' V') (ht' : gq_off (n * n) (fun q => ∃ j, j < i ∧ o (s a + j) = q) t t') :
    xa_X l D H0 M_Trial_takeString R (xa_Zr D H0 0 0 (fun v h' sz' => ∃ (t' V' : Nat → Nat), gp_B (n * n) t' V' ∧ gq_off (n * n) (gb_conn n (fun q => nI (b q)) (o (s a))) t t' ∧ v = none ∧ h' = xr_h D h tr g aK ch (n * n) V' (k + (s (a + 1) - s a)) ls ∧ sz' = sz)) 0 0 (xr_h D h tr g aK ch (n * n) V' k ls) sz 2 [(0, .ref tr), (1, .int (nI a)), (2, .int (nI i))] [] := by
  have hr' : xq_R D (xr_h D h tr g aK ch (n * n) V' k ls) n ch g aK c f A O S BR b ar o s := xr_R hr hlt
  obtain ⟨⟨r1, r2, r3, r4, r5, r6, r7, r8, hN, hf, hb⟩, r9, ⟨w1, w2, w3, w4⟩, hBR⟩ := hr'
  have r0 : xr_h D h tr g aK ch (n * n) V' k ls tr = some (.inr (7, [.ref (tr + 1), .int (nI k), .int (nI ls), .ref g, .ref aK, .ref ch])) := xr_h0
  have hcN : c ≤ n * n := w1.2.2.2.2.2.2.2.2.2.2
  obtain ⟨a1, a2, a3, a4, a5⟩ := gs_W_area w1 ha
  have hsz := w1.2.2.2.2.2.2.2.1 a ha
  refine xa_iload_n d_Trial_takeString_2 rfl ?_
  refine xa_aload_n d_Trial_takeString_3 rfl ?_
  refine xa_getf f_Trial_19 d_Trial_takeString_4 (by assumption) (by rfl) ?_
  refine xa_getf f_Trial_79 d_Trial_takeString_7 (by assumption) (by rfl) ?_
  refine xa_iload_n d_Trial_takeString_10 rfl ?_
  refine xa_callVr (As := [.int (nI a)]) (st := [.int (nI i)]) d_Trial_takeString_11 k_Trial_94 r2 (c_Areas_sizeOf (s := s) r2 r5 hN (by omega) (w4 a (by omega)) (w4 (a + 1) (by omega)) (by omega)) rfl rfl (Nat.le_of_ble_eq_true rfl) ⟨hR.1, by have := hR.2; show 8 + (2 + 11) + 0 ≤ _; omega⟩ (by omega) (by omega) ?_
  refine xa_icmp_geN (tgt := 43) d_Trial_takeString_14 (by decide) (by omega) (by omega) (fun hb4 => ?_) (fun hb4 => ?_)
  · have hie : i = s (a + 1) - s a := by omega
    refine xa_aload_n d_Trial_takeString_43 rfl ?_
    refine xa_dup d_Trial_takeString_44 rfl ?_
    refine xa_getf f_Trial_49 d_Trial_takeString_45 (by assumption) (by rfl) ?_
    refine xa_aload_n d_Trial_takeString_48 rfl ?_
    refine xa_getf f_Trial_19 d_Trial_takeString_49 (by assumption) (by rfl) ?_
    refine xa_getf f_Trial_79 d_Trial_takeString_52 (by assumption) (by rfl) ?_
    refine xa_iload_n d_Trial_takeString_55 rfl ?_
    refine xa_callVr (As := [.int (nI a)]) (st := [.int (nI k), .ref tr]) d_Trial_takeString_56 k_Trial_94 r2 (c_Areas_sizeOf (s := s) r2 r5 hN (by omega) (w4 a (by omega)) (w4 (a + 1) (by omega)) (by omega)) rfl rfl (Nat.le_of_ble_eq_true rfl) ⟨hR.1, by have := hR.2; show 8 + (2 + 11) + 0 ≤ _; omega⟩ (by omega) (by omega) ?_
    refine xa_iaddN d_Trial_takeString_59 ?_
    refine xa_putf f_Trial_49 d_Trial_takeString_60 r0 (Nat.le_of_ble_eq_true rfl) rfl rfl ?_
    refine xa_heap (xr_u0 (k + (s (a + 1) - s a)) ls) ?_
    exact xa_return d_Trial_takeString_63 rfl (by omega) (by omega) ⟨t', V', hV, gq_off_eq ht' (fun q _ => by rw [hie]; exact a5 q), rfl, rfl, rfl⟩
  ·
    refine xa_aload_n d_Trial_takeString_17 rfl ?_
    refine xa_getf f_Trial_35 d_Trial_takeString_18 (by assumption) (by rfl) ?_
    refine xa_aload_n d_Trial_takeString_21 rfl ?_
    refine xa_getf f_Trial_19 d_Trial_takeString_22 (by assumption) (by rfl) ?_
    refine xa_getf f_Trial_79 d_Trial_takeString_25 (by assumption) (by rfl) ?_
    refine xa_iload_n d_Trial_takeString_28 rfl ?_
    refine xa_iload_n d_Trial_takeString_29 rfl ?_
    refine xa_callVr (As := [.int (nI a), .int (nI i)]) (st := [.ref (tr + 1)]) d_Trial_takeString_30 k_Trial_97 r2 (c_Areas_pointOf (o := o) (s := s) r2 r4 r5 hN (by omega) (w4 a (by omega)) (by omega) (w3 _ (by omega))) rfl rfl (Nat.le_of_ble_eq_true rfl) ⟨hR.1, by have := hR.2; show 8 + (3 + 11) + 0 ≤ _; omega⟩ (by omega) (by omega) ?_
    refine xa_iconst (v := nI 0) d_Trial_takeString_33 rfl ?_
    have hpi : o (s a + i) < n * n := w1.2.2.1 _ (by omega)
    refine xa_callSr (As := [.ref (tr + 1), .int (nI (o (s a + i))), .int (nI 0)]) (st := []) d_Trial_takeString_34 k_Trial_45 (c_Packed_setKind xr_h1 hV hpi (show 0 < 4 by decide) hN) rfl rfl (Nat.le_of_ble_eq_true rfl) ⟨hR.1, by have := hR.2; show 8 + (5 + 11) + 0 ≤ _; omega⟩ (by omega) (by omega) ?_
    rw [xr_u1]
    refine xa_iincN d_Trial_takeString_37 rfl rfl rfl ?_
    refine xa_goto (tgt := 2) d_Trial_takeString_40 (by decide) ?_
    refine xa_ls ?_ (w_takeString hR hr hlt ha (i + 1) _ _ (by omega) (gp_B_set hV hpi (show 0 < 4 by decide)) (fun q hq => ?_))
    · exact ⟨rfl, rfl, rfl, trivial⟩
    · constructor
      · rintro ⟨j, hj, rfl⟩
        by_cases hji : o (s a + j) = o (s a + i)
        · simp only [if_pos hji]
        · simp only [if_neg hji]
          exact (ht' _ hq).1 ⟨j, by have : j ≠ i := fun z => hji (by rw [z]); omega, rfl⟩
      · intro hc
        have h1 : ¬ q = o (s a + i) := fun z => hc ⟨i, by omega, z.symm⟩
        simp only [if_neg h1]
        exact (ht' q hq).2 (fun ⟨j, hj, z⟩ => hc ⟨j, by omega, z⟩)
termination_by s (a + 1) - s a - i
decreasing_by omega
theorem c_Trial_takeString {n ch g aK c tr a k ls : Nat} {f A O S BR : Nat → Int32} {b ar o s t V : Nat → Nat} (hr : xq_R D h n ch g aK c f A O S BR b ar o s) (hlt : g + 1 < ch ∧ aK < ch ∧ ch + 8 < tr) (ha : a < c) (hV : gp_B (n * n) t V) :
    xa_M l D H0 M_Trial_takeString 1 24 0 0 [.ref tr, .int (nI a)] (xr_h D h tr g aK ch (n * n) V k ls) sz (fun v h' sz' => ∃ (t' V' : Nat → Nat), gp_B (n * n) t' V' ∧ gq_off (n * n) (gb_conn n (fun q => nI (b q)) (o (s a))) t t' ∧ v = none ∧ h' = xr_h D h tr g aK ch (n * n) V' (k + (s (a + 1) - s a)) ls ∧ sz' = sz) := by
  refine xa_enter (by decide) rfl rfl ?_
  refine xa_iconst (v := nI 0) d_Trial_takeString_0 rfl ?_
  refine xa_istore_n d_Trial_takeString_1 rfl rfl ?_
  refine xa_ls ?_ (w_takeString ⟨by decide, by decide⟩ hr hlt ha 0 t V (by omega) hV (fun q hq => ⟨fun ⟨j, hj, _⟩ => by omega, fun _ => rfl⟩))
  exact ⟨rfl, rfl, rfl, trivial⟩
end TK
end
section
/-! Trial: takeClosedStrings and attempt; System.arraycopy of a whole long array. -/
section AC
variable {l : Launch} {D : va_G} {H0 : Heap} {μ : xa_Mu} {R : Room} {Z : xa_Z} {k n : Nat} {h : xa_H} {sz pc : Nat} {ls : List (Nat × Value)} {st : List Value}
theorem xa_acopy {idx a0 a1 L : Nat} {f g : Nat → Int64} (hw : Cond.methodLink μ.1.cls idx arraycopyName ∈ xa_ws ∧ Cond.native arraycopyName ∈ xa_ws ∧ Cond.static arraycopyName ∈ xa_ws ∧ Cond.initialized "java/lang/System" ∈ xa_ws) (hd : decode μ.2.1 pc = .ok (.invokestatic idx, 3)) (h0 : h a0 = some (.inl (D.1 101, L, .inr (.inl f)))) (h1 : h a1 = some (.inl (D.1 101, L, .inr (.inl g)))) (hL : L < 2 ^ 31)
    (hfr : 1 ≤ R.frames) (hlo : (st.map fun v => v.category).sum + (nativeFrameWords "java/lang/System" "arraycopy" 5 + 11) ≤ R.locals) (kk : xa_X l D H0 μ R Z k n (xa_u h a1 (.inl (D.1 101, L, .inr (.inl f)))) sz (pc + 3) ls st) : xa_X l D H0 μ R Z k n h sz pc ls (.int (nI L) :: .int (nI 0) :: .ref a1 :: .int (nI 0) :: .ref a0 :: st) := by
  intro p e s m args below meth c H locs la C hP hL' hl T hT X
  obtain ⟨w1, w2, w3, w4⟩ := hw
  have hts := C.2.2.2.2.1
  have hK := C.2.2.2.2.2.1
  have hc0 : H[a0]? = some (vp_cell (D.1 101) (L, .inr (.inl f))) := (hP.2.2.2 a0 _ h0).2
  have hc1 : H[a1]? = some (vp_cell (D.1 101) (L, .inr (.inl g))) := (hP.2.2.2 a1 _ h1).2
  obtain ⟨-, k0, hk0, cm0, hkk0⟩ := (hK.2 1 _ rfl).1 L (fun j => .long (f j))
  have z0 : (nI 0).toNatClampNeg = 0 := nI_clamp (by decide)
  have zL : (nI L).toNatClampNeg = L := nI_clamp hL
  obtain ⟨vm', X', step⟩ := X.arraycopy C.1 C.2.2.2.1 (hts _ w1) (hts _ w2) (hts _ w3) (hts _ w4) (src := a0) (dst := a1) (cs := vp_cell (D.1 101) (L, .inr (.inl f))) (cd := vp_cell (D.1 101) (L, .inr (.inl g))) (srcPos := nI 0) (destPos := nI 0) (n := nI L) (by rw [hT]; exact hc0) (by rw [hT]; exact hc1)
    (fun _ h9 => by cases h9) (fun _ h9 => by cases h9) (fun h9 => by cases h9) (fun h9 => by cases h9) hk0 hk0 hkk0 hkk0 rfl (nI_pos (by decide)) (nI_pos (by decide)) (nI_pos hL)
    (by rw [nI_toInt (show 0 < 2 ^ 31 by decide), nI_toInt hL]; show ¬ _ > ((arrV (D.1 101) L (fun j => .long (f j))).slots.size : Int); rw [arrV_size]; omega)
    (by rw [nI_toInt (show 0 < 2 ^ 31 by decide), nI_toInt hL]; show ¬ _ > ((arrV (D.1 101) L (fun j => .long (g j))).slots.size : Int); rw [arrV_size]; omega)
    (fun vm₁ _ i hi => by
      rw [zL] at hi
      have e9 : (vp_cell (D.1 101) (L, .inr (.inl f))).slots.getD ((nI 0).toNatClampNeg + i) .null = .long (f i) := by
        rw [z0, Nat.zero_add]
        show (arrV (D.1 101) L (fun j => .long (f j))).slots.getD _ _ = _
        rw [Array.getD_eq_getD_getElem?, arrV_read _ _ hi]
        rfl
      refine ⟨?_, ?_⟩
      · rw [e9]; rfl
      · rw [e9]; exact trivial)
    (g := F0 m pc la (.int (nI L) :: .int (nI 0) :: .ref a1 :: .int (nI 0) :: .ref a0 :: st)) rfl (by rw [C.2.2.1]; exact hl.1) (rest := st) rfl (by rw [C.2.1]; exact hd) hfr (by show 2 * 0 + _ + _ ≤ _; omega)
  have e1 : copied (vp_cell (D.1 101) (L, .inr (.inl f))) (vp_cell (D.1 101) (L, .inr (.inl g))) (nI 0) (nI 0) (nI L) = vp_cell (D.1 101) (L, .inr (.inl f)) := by
    have e2 := va_copied (n1 := L) (dp := (nI 0).toNatClampNeg) (fun z => .long z) (D.1 101) (D.1 101) f g (show (nI 0).toNatClampNeg + (nI L).toNatClampNeg ≤ L by rw [z0, zL]; omega)
    refine Eq.trans e2 ?_
    rw [vp_cell_l]
    unfold arrV
    congr 2
    funext j
    show Value.long (va_cpy f g (nI 0).toNatClampNeg (nI 0).toNatClampNeg (nI L).toNatClampNeg j.val) = Value.long (f j.val)
    rw [z0, zL]
    unfold va_cpy
    rw [if_pos ⟨Nat.zero_le _, by have := j.isLt; omega⟩]
    simp
  rw [e1] at X' step
  have hlt : a1 < H.size := (Array.getElem?_eq_some_iff.mp hc1).1
  have hheap : ((T.setVm vm').setCell a1 (vp_cell (D.1 101) (L, .inr (.inl f)))).heap = H.setIfInBounds a1 (vp_cell (D.1 101) (L, .inr (.inl f))) := by rw [← hT]; rfl
  obtain ⟨t, b1, b2⟩ := kk p e s m args below meth c _ _ la C (hP.set h1 (e := .inl (D.1 101, L, .inr (.inl f))) (H1 := H.setIfInBounds a1 (vp_cell (D.1 101) (L, .inr (.inl f)))) (show (H.setIfInBounds a1 _)[a1]? = some _ by simp [Array.getElem?_setIfInBounds, hlt]) (by simp) (fun q hq => by simp [Array.getElem?_setIfInBounds, Ne.symm hq])) (fun q hq => by
    rcases List.mem_append.mp hq with h9 | h9
    · exact hL' q h9
    · obtain ⟨z, -, hz⟩ := List.mem_map.mp h9
      rw [← hz]
      exact (hP.2.2.2 a1 _ h1).1) hl _ hheap X'
  exact ⟨t, step t b1, b2⟩
end AC
section TC
variable {l : Launch} {D : va_G} {H0 : Heap} {h : xa_H} {sz : Nat} {R : Room}
theorem w_takeClosed {n ch g aK c tr p sd k0 ls : Nat} {f A O S BR : Nat → Int32} {b ar o s t0 : Nat → Nat} (hR : 2 ≤ R.frames ∧ 46 ≤ R.locals) (hr : xq_R D h n ch g aK c f A O S BR b ar o s) (hlt : g + 1 < ch ∧ aK < ch ∧ ch + 8 < tr) (hp : p < n * n) (hp0 : b p = 0) (hsd : sd = 1 ∨ sd = 2) (ht0 : ∀ q, q < n * n → q ≠ p → t0 q = b q)
    (w : Nat) (t V : Nat → Nat) (hw : w ≤ 4) (hV : gp_B (n * n) t V) (ht : gq_off (n * n) (gq_cap n b p sd w) t0 t) :
    xa_X l D H0 M_Trial_takeClosedStrings R (xa_Zr D H0 0 0 (fun v h' sz' => ∃ (t V : Nat → Nat), gp_B (n * n) t V ∧ gq_off (n * n) (gq_cap n b p sd 4) t0 t ∧ v = none ∧ h' = xr_h D h tr g aK ch (n * n) V (k0 + gb_cnt (gq_cap n b p sd 4) (n * n)) ls ∧ sz' = sz)) 0 0 (xr_h D h tr g aK ch (n * n) V (k0 + gb_cnt (gq_cap n b p sd w) (n * n)) ls) sz 2 [(0, .ref tr), (1, .int (nI p)), (2, .int (nI sd)), (3, .int (nI w))] [] := by
  have hr' : xq_R D (xr_h D h tr g aK ch (n * n) V (k0 + gb_cnt (gq_cap n b p sd w) (n * n)) ls) n ch g aK c f A O S BR b ar o s := xr_R hr hlt
  obtain ⟨⟨r1, r2, r3, r4, r5, r6, r7, r8, hN, hf, hb⟩, r9, ⟨w1, w2, w3, w4⟩, hBR⟩ := id hr'
  have r0 : xr_h D h tr g aK ch (n * n) V (k0 + gb_cnt (gq_cap n b p sd w) (n * n)) ls tr = some (.inr (7, [.ref (tr + 1), .int (nI (k0 + gb_cnt (gq_cap n b p sd w) (n * n))), .int (nI ls), .ref g, .ref aK, .ref ch])) := xr_h0
  refine xa_iload_n d_Trial_takeClosedStrings_2 rfl ?_
  refine xa_iconst (v := nI 4) d_Trial_takeClosedStrings_3 rfl ?_
  refine xa_icmp_geN (tgt := 79) d_Trial_takeClosedStrings_4 (by decide) (by omega) (by omega) (fun hb4 => ?_) (fun hb4 => ?_)
  · have hw4 : w = 4 := by omega
    subst hw4
    exact xa_return d_Trial_takeClosedStrings_79 rfl (by omega) (by omega) ⟨t, V, hV, ht, rfl, rfl, rfl⟩
  ·
    refine xa_aload_n d_Trial_takeClosedStrings_7 rfl ?_
    refine xa_getf f_Trial_9 d_Trial_takeClosedStrings_8 (by assumption) (by rfl) ?_
    refine xa_iload_n d_Trial_takeClosedStrings_11 rfl ?_
    refine xa_iload_n d_Trial_takeClosedStrings_12 rfl ?_
    refine xa_callVr (As := [.int (nI p), .int (nI w)]) (st := []) d_Trial_takeClosedStrings_13 k_Trial_67 r6 (c_Grid_neighbour r6 r7 hN hp hb4) rfl rfl (Nat.le_of_ble_eq_true rfl) ⟨by have := hR.1; show 0 + 1 ≤ _; omega, by have := hR.2; show 8 + (3 + 11) + 0 ≤ _; omega⟩ (by omega) (by omega) ?_
    have again : ∀ (t' V' : Nat → Nat) (k' : Nat), gp_B (n * n) t' V' → gq_off (n * n) (gq_cap n b p sd (w + 1)) t0 t' → k' = k0 + gb_cnt (gq_cap n b p sd (w + 1)) (n * n) → ∀ z : Int32, xa_X l D H0 M_Trial_takeClosedStrings R (xa_Zr D H0 0 0 (fun v h' sz' => ∃ (t V : Nat → Nat), gp_B (n * n) t V ∧ gq_off (n * n) (gq_cap n b p sd 4) t0 t ∧ v = none ∧ h' = xr_h D h tr g aK ch (n * n) V (k0 + gb_cnt (gq_cap n b p sd 4) (n * n)) ls ∧ sz' = sz)) 0 0 (xr_h D h tr g aK ch (n * n) V' k' ls) sz 73 [(0, .ref tr), (1, .int (nI p)), (2, .int (nI sd)), (3, .int (nI w)), (4, .int z)] [] := by
      intro t' V' k' hV' ht' hk' z
      subst hk'
      refine xa_iincN d_Trial_takeClosedStrings_73 rfl rfl rfl ?_
      refine xa_goto (tgt := 2) d_Trial_takeClosedStrings_76 (by decide) ?_
      refine xa_ls ?_ (w_takeClosed hR hr hlt hp hp0 hsd ht0 (w + 1) t' V' (by omega) hV' ht')
      exact ⟨rfl, rfl, rfl, rfl, trivial⟩
    have skip : (∀ x, gb_nb n p w = some x → b x = sd → gb_cnt (gt_br n (fun q => nI (b q)) x) (n * n) = 1 → gq_cap n b p sd w x) → ∀ z : Int32, xa_X l D H0 M_Trial_takeClosedStrings R (xa_Zr D H0 0 0 (fun v h' sz' => ∃ (t V : Nat → Nat), gp_B (n * n) t V ∧ gq_off (n * n) (gq_cap n b p sd 4) t0 t ∧ v = none ∧ h' = xr_h D h tr g aK ch (n * n) V (k0 + gb_cnt (gq_cap n b p sd 4) (n * n)) ls ∧ sz' = sz)) 0 0 (xr_h D h tr g aK ch (n * n) V (k0 + gb_cnt (gq_cap n b p sd w) (n * n)) ls) sz 73 [(0, .ref tr), (1, .int (nI p)), (2, .int (nI sd)), (3, .int (nI w)), (4, .int z)] [] := by
      intro hs z
      have he : ∀ q, q < n * n → (gq_cap n b p sd (w + 1) q ↔ gq_cap n b p sd w q) := fun q _ => by
        rw [gq_cap_w]
        constructor
        · rintro (h1 | ⟨x, h1, h2, h3, h4⟩)
          · exact h1
          · exact gq_cap_tr (hs x h1 h2 h3) h4
        · exact Or.inl
      exact again t V _ hV (gq_off_eq ht he) (by rw [gb_cnt_eq _ he]) z
    have hv := hf p w hp hb4
    cases hnb : gb_nb n p w with
    | none =>
      rw [hnb] at hv
      refine xa_int (show f (4 * p + w) = -1 from hv) ?_
      refine xa_istore d_Trial_takeClosedStrings_16 rfl rfl ?_
      refine xa_iload d_Trial_takeClosedStrings_18 rfl ?_
      refine xa_iconst (v := -1) d_Trial_takeClosedStrings_20 rfl ?_
      refine xa_icmp_eq (tgt := 73) d_Trial_takeClosedStrings_21 (by decide) (fun hz => ?_) (fun hz => ?_)
      · refine xa_ls ?_ (skip (fun x hx => by rw [hnb] at hx; cases hx) (-1))
        exact ⟨rfl, rfl, rfl, rfl, rfl, trivial⟩
      · exact absurd rfl hz
    | some y =>
      rw [hnb] at hv
      have hy := gb_nb_lt hp hb4 hnb
      have hby := hb y hy
      refine xa_int (show f (4 * p + w) = nI y from hv) ?_
      refine xa_istore d_Trial_takeClosedStrings_16 rfl rfl ?_
      refine xa_iload d_Trial_takeClosedStrings_18 rfl ?_
      refine xa_iconst (v := -1) d_Trial_takeClosedStrings_20 rfl ?_
      refine xa_icmp_eq (tgt := 73) d_Trial_takeClosedStrings_21 (by decide) (fun hz => ?_) (fun hz => ?_)
      · exact absurd hz (gb_m1 (by omega))
      ·
        refine xa_aload_n d_Trial_takeClosedStrings_24 rfl ?_
        refine xa_getf f_Trial_15 d_Trial_takeClosedStrings_25 (by assumption) (by rfl) ?_
        refine xa_iload d_Trial_takeClosedStrings_28 rfl ?_
        refine xa_ialdE d_Trial_takeClosedStrings_30 (by assumption) rfl (by omega) (by omega) (by rfl) ?_
        refine xa_iload_n d_Trial_takeClosedStrings_31 rfl ?_
        refine xa_icmp_neN (tgt := 73) d_Trial_takeClosedStrings_32 (by decide) (by omega) (by omega) (fun hz2 => ?_) (fun hz2 => ?_)
        · refine xa_ls ?_ (skip (fun x hx h2 => by rw [hnb] at hx; cases hx; exact absurd h2 hz2) (nI y))
          exact ⟨rfl, rfl, rfl, rfl, rfl, trivial⟩
        ·
          refine xa_aload_n d_Trial_takeClosedStrings_35 rfl ?_
          refine xa_iload d_Trial_takeClosedStrings_36 rfl ?_
          refine xa_callVr (As := [.int (nI y)]) (st := []) d_Trial_takeClosedStrings_38 k_Trial_71 r0 (c_Trial_isLastBreathOf hr' r0 hy (by omega)) rfl rfl (Nat.le_of_ble_eq_true rfl) ⟨by have := hR.1; show 1 + 1 ≤ _; omega, by have := hR.2; show 8 + (2 + 11) + 21 ≤ _; omega⟩ (by omega) (by omega) ?_
          by_cases h1 : gb_cnt (gt_br n (fun q => nI (b q)) y) (n * n) = 1
          · refine xa_int (show (if gb_cnt (gt_br n (fun q => nI (b q)) y) (n * n) = 1 then (1 : Int32) else 0) = nI 1 from by rw [if_pos h1]; rfl) ?_
            refine xa_if_eqN (tgt := 73) d_Trial_takeClosedStrings_41 (by decide) (by omega) (fun hz4 => ?_) (fun hz4 => ?_)
            · omega
            ·
              refine xa_aload_n d_Trial_takeClosedStrings_44 rfl ?_
              refine xa_getf f_Trial_35 d_Trial_takeClosedStrings_45 (by assumption) (by rfl) ?_
              refine xa_iload d_Trial_takeClosedStrings_48 rfl ?_
              refine xa_callSr (As := [.ref (tr + 1), .int (nI y)]) (st := []) d_Trial_takeClosedStrings_50 k_Trial_75 (c_Packed_kindAt xr_h1 hV hy hN) rfl rfl (Nat.le_of_ble_eq_true rfl) ⟨by have := hR.1; show 0 + 1 ≤ _; omega, by have := hR.2; show 8 + (3 + 11) + 0 ≤ _; omega⟩ (by omega) (by omega) ?_
              have hyp : y ≠ p := fun z => by rw [z] at hz2; omega
              have hty : t y < 2 ^ 31 := by
                by_cases hc : gq_cap n b p sd w y
                · rw [(ht y hy).1 hc]; decide
                · rw [(ht y hy).2 hc, ht0 y hy hyp]; omega
              refine xa_iload_n d_Trial_takeClosedStrings_53 rfl ?_
              refine xa_icmp_neN (tgt := 73) d_Trial_takeClosedStrings_54 (by decide) (by omega) (by omega) (fun hz5 => ?_) (fun hz5 => ?_)
              · refine xa_ls ?_ (skip (fun x hx h2 h3 => by
                  rw [hnb] at hx; cases hx
                  by_cases hc : gq_cap n b p sd w y
                  · exact hc
                  · rw [(ht y hy).2 hc, ht0 y hy hyp] at hz5; exact absurd hz2 hz5) (nI y))
                exact ⟨rfl, rfl, rfl, rfl, rfl, trivial⟩
              · have hnc : ¬ gq_cap n b p sd w y := fun hc => by rw [(ht y hy).1 hc] at hz5; omega
                have hay : ar y < c := w1.1 y hy
                obtain ⟨a1, a2, a3, a4, a5⟩ := gs_W_area w1 hay
                have hcon : gb_conn n (fun q => nI (b q)) (o (s (ar y))) y := (w1.2.1 _ _ a3 hy).mp a4
                have hce : ∀ q, gb_conn n (fun q => nI (b q)) (o (s (ar y))) q ↔ gb_conn n (fun q => nI (b q)) y q := fun q => ⟨fun z => gb_conn_tr (gb_conn_sy a3 hcon) z, fun z => gb_conn_tr hcon z⟩
                refine xa_aload_n d_Trial_takeClosedStrings_57 rfl ?_
                refine xa_aload_n d_Trial_takeClosedStrings_58 rfl ?_
                refine xa_getf f_Trial_19 d_Trial_takeClosedStrings_59 (by assumption) (by rfl) ?_
                refine xa_getf f_Trial_79 d_Trial_takeClosedStrings_62 (by assumption) (by rfl) ?_
                refine xa_iload d_Trial_takeClosedStrings_65 rfl ?_
                refine xa_callVr (As := [.int (nI y)]) (st := [.ref tr]) d_Trial_takeClosedStrings_67 k_Trial_85 r2 (c_Areas_areaAt r2 r3 hN hy (w2 y hy)) rfl rfl (Nat.le_of_ble_eq_true rfl) ⟨by have := hR.1; show 0 + 1 ≤ _; omega, by have := hR.2; show 8 + (2 + 11) + 0 ≤ _; omega⟩ (by omega) (by omega) ?_
                refine xa_callV (As := [.int (nI (ar y))]) (st := []) d_Trial_takeClosedStrings_70 k_Trial_90 r0 (c_Trial_takeString hr hlt hay hV) rfl rfl (Nat.le_of_ble_eq_true rfl) ⟨by have := hR.1; show 1 + 1 ≤ _; omega, by have := hR.2; show 8 + (3 + 11) + 24 ≤ _; omega⟩ (by omega) (by omega) (fun v h' sz' hq => ?_)
                obtain ⟨t', V', g1, g2, g3, g4, g5⟩ := hq
                rw [g3, g4, g5]
                have he : ∀ q, q < n * n → (gq_cap n b p sd (w + 1) q ↔ gq_cap n b p sd w q ∨ gb_conn n (fun q => nI (b q)) (o (s (ar y))) q) := fun q _ => by
                  rw [gq_cap_w]
                  constructor
                  · rintro (h2 | ⟨x, h2, -, -, h4⟩)
                    · exact Or.inl h2
                    · rw [hnb] at h2; cases h2; exact Or.inr ((hce q).mpr h4)
                  · rintro (h2 | h2)
                    · exact Or.inl h2
                    · exact Or.inr ⟨y, hnb, hz2, h1, (hce q).mp h2⟩
                have hcnt : k0 + gb_cnt (gq_cap n b p sd w) (n * n) + (s (ar y + 1) - s (ar y)) = k0 + gb_cnt (gq_cap n b p sd (w + 1)) (n * n) := by
                  rw [gb_cnt_eq _ he, gb_cnt_or (P := gq_cap n b p sd w) (P' := gb_conn n (fun q => nI (b q)) (o (s (ar y)))) _ (fun q hq hz => hnc (gq_cap_tr hz.1 (gb_conn_sy hy ((hce q).mp hz.2)))), gs_W_size w1 hay]
                  omega
                refine xa_ls ?_ (again t' V' _ g1 (gq_off_eq (gq_off_or ht g2) he) hcnt (nI y))
                exact ⟨rfl, rfl, rfl, rfl, rfl, trivial⟩
          · refine xa_int (show (if gb_cnt (gt_br n (fun q => nI (b q)) y) (n * n) = 1 then (1 : Int32) else 0) = nI 0 from by rw [if_neg h1]; rfl) ?_
            refine xa_if_eqN (tgt := 73) d_Trial_takeClosedStrings_41 (by decide) (by omega) (fun hz4 => ?_) (fun hz4 => ?_)
            · refine xa_ls ?_ (skip (fun x hx h2 h3 => by rw [hnb] at hx; cases hx; exact absurd h3 h1) (nI y))
              exact ⟨rfl, rfl, rfl, rfl, rfl, trivial⟩
            · omega
termination_by 4 - w
decreasing_by omega
theorem c_Trial_takeClosed {n ch g aK c tr p sd k0 ls : Nat} {f A O S BR : Nat → Int32} {b ar o s t0 V : Nat → Nat} (hr : xq_R D h n ch g aK c f A O S BR b ar o s) (hlt : g + 1 < ch ∧ aK < ch ∧ ch + 8 < tr) (hp : p < n * n) (hp0 : b p = 0) (hsd : sd = 1 ∨ sd = 2) (ht0 : ∀ q, q < n * n → q ≠ p → t0 q = b q) (hV : gp_B (n * n) t0 V) :
    xa_M l D H0 M_Trial_takeClosedStrings 2 46 0 0 [.ref tr, .int (nI p), .int (nI sd)] (xr_h D h tr g aK ch (n * n) V k0 ls) sz (fun v h' sz' => ∃ (t V : Nat → Nat), gp_B (n * n) t V ∧ gq_off (n * n) (gq_cap n b p sd 4) t0 t ∧ v = none ∧ h' = xr_h D h tr g aK ch (n * n) V (k0 + gb_cnt (gq_cap n b p sd 4) (n * n)) ls ∧ sz' = sz) := by
  refine xa_enter (by decide) rfl rfl ?_
  refine xa_iconst (v := nI 0) d_Trial_takeClosedStrings_0 rfl ?_
  refine xa_istore_n d_Trial_takeClosedStrings_1 rfl rfl ?_
  have hc0 : gb_cnt (gq_cap n b p sd 0) (n * n) = 0 := gb_cnt_0 _ (fun q _ => gq_cap_0)
  refine xa_heap (show xr_h D h tr g aK ch (n * n) V k0 ls = xr_h D h tr g aK ch (n * n) V (k0 + gb_cnt (gq_cap n b p sd 0) (n * n)) ls by rw [hc0]; rfl) ?_
  refine xa_ls ?_ (w_takeClosed ⟨by decide, by decide⟩ hr hlt hp hp0 hsd ht0 0 t0 V (by omega) hV (fun q hq => ⟨fun z => absurd z gq_cap_0, fun _ => rfl⟩))
  exact ⟨rfl, rfl, rfl, rfl, trivial⟩
end TC
end
section
/-! Trial.attempt. -/
theorem w_acopy : Cond.methodLink "StoneBoard$Trial" 39 arraycopyName ∈ xa_ws ∧ Cond.native arraycopyName ∈ xa_ws ∧ Cond.static arraycopyName ∈ xa_ws ∧ Cond.initialized "java/lang/System" ∈ xa_ws := ⟨xa_m2 97 rfl rfl, xa_m2 99 rfl rfl, xa_m2 98 rfl rfl, xa_m1 19 rfl rfl⟩
section AT
variable {l : Launch} {D : va_G} {H0 : Heap} {h : xa_H} {sz : Nat}
theorem c_Trial_attempt {n ch g aK c tr p sd k ls aP : Nat} {f A O S BR : Nat → Int32} {b ar o s V0 Vb : Nat → Nat} (hr : xq_R D h n ch g aK c f A O S BR b ar o s) (hlt : g + 1 < ch ∧ aK < ch ∧ ch + 8 < tr) (hp : p < n * n) (hp0 : b p = 0) (hsd : sd = 1 ∨ sd = 2) (hP : h aP = some (xp_c D (n * n) Vb)) (hVb : gp_B (n * n) b Vb) (haP : aP ≠ tr ∧ aP ≠ tr + 1) :
    xa_M l D H0 M_Trial_attempt 3 70 0 0 [.ref tr, .ref aP, .int (nI p), .int (nI sd)] (xr_h D h tr g aK ch (n * n) V0 k ls) sz (fun v h' sz' => ∃ (t V : Nat → Nat) (k ls : Nat), gp_B (n * n) t V ∧ gq_T n b p sd t k ls ∧ v = none ∧ h' = xr_h D h tr g aK ch (n * n) V k ls ∧ sz' = sz) := by
  have hN : n * n < 1000 := hr.1.2.2.2.2.2.2.2.2.1
  have hb := hr.1.2.2.2.2.2.2.2.2.2.2
  have r0 : ∀ (V : Nat → Nat) (k ls : Nat), xr_h D h tr g aK ch (n * n) V k ls tr = some (.inr (7, [.ref (tr + 1), .int (nI k), .int (nI ls), .ref g, .ref aK, .ref ch])) := fun V k ls => xr_h0
  have q1 := r0 V0 k ls
  refine xa_enter (by decide) rfl rfl ?_
  refine xa_aload_n d_Trial_attempt_0 rfl ?_
  refine xa_iconst (v := nI 0) d_Trial_attempt_1 rfl ?_
  refine xa_aload_n d_Trial_attempt_2 rfl ?_
  refine xa_getf f_Trial_35 d_Trial_attempt_3 (by assumption) (by rfl) ?_
  refine xa_iconst (v := nI 0) d_Trial_attempt_6 rfl ?_
  refine xa_aload_n d_Trial_attempt_7 rfl ?_
  refine xa_getf f_Trial_35 d_Trial_attempt_8 (by assumption) (by rfl) ?_
  refine xa_alen (t0 := 1) (v := nI ((n * n + 31) / 32)) rfl d_Trial_attempt_11 xr_h1 rfl ?_
  refine xa_acopy w_acopy d_Trial_attempt_12 (xr_hn hP haP.1 haP.2) xr_h1 (by omega) (by decide) (by decide) ?_
  rw [xr_u1]
  have q2 := r0 Vb k ls
  refine xa_aload_n d_Trial_attempt_15 rfl ?_
  refine xa_getf f_Trial_35 d_Trial_attempt_16 (by assumption) (by rfl) ?_
  refine xa_iload_n d_Trial_attempt_19 rfl ?_
  refine xa_iload_n d_Trial_attempt_20 rfl ?_
  refine xa_callSr (As := [.ref (tr + 1), .int (nI p), .int (nI sd)]) (st := []) d_Trial_attempt_21 k_Trial_45 (c_Packed_setKind xr_h1 hVb hp (show sd < 4 by omega) hN) rfl rfl (Nat.le_of_ble_eq_true rfl) ⟨by decide, by decide⟩ (by decide) (by decide) ?_
  rw [xr_u1]
  have hV1 := gp_B_set hVb hp (show sd < 4 by omega)
  generalize (fun i => if i = p / 32 then gp_set (Vb (p / 32)) (p % 32) sd else Vb i) = V1 at hV1 ⊢
  have q3 := r0 V1 k ls
  refine xa_aload_n d_Trial_attempt_24 rfl ?_
  refine xa_iconst (v := nI 0) d_Trial_attempt_25 rfl ?_
  refine xa_putf f_Trial_49 d_Trial_attempt_26 q3 (Nat.le_of_ble_eq_true rfl) rfl rfl ?_
  refine xa_heap (xr_u0 0 ls) ?_
  refine xa_aload_n d_Trial_attempt_29 rfl ?_
  refine xa_iload_n d_Trial_attempt_30 rfl ?_
  refine xa_callSNr (As := [.int (nI sd)]) (st := [.ref tr]) d_Trial_attempt_31 k_Trial_52 (c_SB_otherSide (by omega)) rfl rfl (Nat.le_of_ble_eq_true rfl) ⟨by decide, by decide⟩ (by decide) (by decide) ?_
  refine xa_putf f_Trial_56 d_Trial_attempt_34 (r0 V1 0 ls) (Nat.le_of_ble_eq_true rfl) rfl rfl ?_
  refine xa_heap (xr_u0 0 (3 - sd)) ?_
  have q4 := r0 V1 0 (3 - sd)
  refine xa_aload_n d_Trial_attempt_37 rfl ?_
  refine xa_iload_n d_Trial_attempt_38 rfl ?_
  refine xa_aload_n d_Trial_attempt_39 rfl ?_
  refine xa_getf f_Trial_56 d_Trial_attempt_40 (by assumption) (by rfl) ?_
  refine xa_callV (As := [.int (nI p), .int (nI (3 - sd))]) (st := []) d_Trial_attempt_43 k_Trial_59 q4 (c_Trial_takeClosed hr hlt hp hp0 (by omega) (fun q hq hqp => if_neg hqp) hV1) rfl rfl (Nat.le_of_ble_eq_true rfl) ⟨by decide, by decide⟩ (by decide) (by decide) (fun v h' sz' hq => ?_)
  obtain ⟨t1, V2, g1, g2, g3, g4, g5⟩ := hq
  rw [g3, g4, g5, Nat.zero_add (gb_cnt (gq_cap n b p (3 - sd) 4) (n * n))]
  have q5 := r0 V2 (gb_cnt (gq_cap n b p (3 - sd) 4) (n * n)) (3 - sd)
  have hle := gb_cnt_le (P := gq_cap n b p (3 - sd) 4) (n * n)
  refine xa_aload_n d_Trial_attempt_46 rfl ?_
  refine xa_getf f_Trial_49 d_Trial_attempt_47 (by assumption) (by rfl) ?_
  refine xa_if_neN (tgt := 92) d_Trial_attempt_50 (by decide) (by omega) (fun hz => ?_) (fun hz => ?_)
  · have hex : ∃ q, gq_cap n b p (3 - sd) 4 q := by
      refine Classical.byContradiction (fun hn => ?_)
      have := gb_cnt_0 (P := gq_cap n b p (3 - sd) 4) (n * n) (fun q _ hc => hn ⟨q, hc⟩)
      omega
    exact xa_return d_Trial_attempt_92 rfl (by omega) (by omega) ⟨t1, V2, _, _, g1, Or.inl ⟨hex, g2, rfl, rfl⟩, rfl, rfl, rfl⟩
  · have hno : ∀ q, ¬ gq_cap n b p (3 - sd) 4 q := fun q hc => by
      have := gb_cnt_pos hc (n * n) (gq_cap_lt hp (Nat.le_refl 4) hc)
      omega
    have ht1 : ∀ q, q < n * n → t1 q = if q = p then sd else b q := fun q hq => (g2 q hq).2 (hno q)
    refine xa_aload_n d_Trial_attempt_53 rfl ?_
    refine xa_iload_n d_Trial_attempt_54 rfl ?_
    refine xa_iload_n d_Trial_attempt_55 rfl ?_
    refine xa_callV (As := [.int (nI p), .int (nI sd)]) (st := []) d_Trial_attempt_56 k_Trial_63 q5 (c_Trial_findsBreath (xr_R hr hlt) q5 hp hsd) rfl rfl (Nat.le_of_ble_eq_true rfl) ⟨by decide, by decide⟩ (by decide) (by decide) (fun v h' sz' hq => ?_)
    obtain ⟨hv, e2, e3⟩ := hq
    rw [e2, e3]
    rcases hv with ⟨hv, hbre⟩ | ⟨hv, hbre⟩
    · rw [hv]
      refine xa_int (y := nI 1) rfl ?_
      refine xa_if_neN (tgt := 92) d_Trial_attempt_59 (by decide) (by omega) (fun hz2 => ?_) (fun hz2 => ?_)
      · exact xa_return d_Trial_attempt_92 rfl (by omega) (by omega) ⟨t1, V2, _, _, g1, Or.inr (Or.inl ⟨hno, hbre, ht1, hz, rfl⟩), rfl, rfl, rfl⟩
      · omega
    · rw [hv]
      refine xa_int (y := nI 0) rfl ?_
      refine xa_if_neN (tgt := 92) d_Trial_attempt_59 (by decide) (by omega) (fun hz2 => ?_) (fun hz2 => ?_)
      · omega
      ·
        refine xa_aload_n d_Trial_attempt_62 rfl ?_
        refine xa_iload_n d_Trial_attempt_63 rfl ?_
        refine xa_putf f_Trial_56 d_Trial_attempt_64 q5 (Nat.le_of_ble_eq_true rfl) rfl rfl ?_
        refine xa_heap (xr_u0 _ sd) ?_
        have q6 := r0 V2 (gb_cnt (gq_cap n b p (3 - sd) 4) (n * n)) sd
        refine xa_aload_n d_Trial_attempt_67 rfl ?_
        refine xa_iload_n d_Trial_attempt_68 rfl ?_
        refine xa_iload_n d_Trial_attempt_69 rfl ?_
        refine xa_callV (As := [.int (nI p), .int (nI sd)]) (st := []) d_Trial_attempt_70 k_Trial_59 q6 (c_Trial_takeClosed hr hlt hp hp0 hsd (fun q hq hqp => by rw [ht1 q hq, if_neg hqp]) g1) rfl rfl (Nat.le_of_ble_eq_true rfl) ⟨by decide, by decide⟩ (by decide) (by decide) (fun v h' sz' hq => ?_)
        obtain ⟨t2, V3, j1, j2, j3, j4, j5⟩ := hq
        rw [j3, j4, j5, hz, Nat.zero_add (gb_cnt (gq_cap n b p sd 4) (n * n))]
        have q7 := r0 V3 (gb_cnt (gq_cap n b p sd 4) (n * n)) sd
        refine xa_aload_n d_Trial_attempt_73 rfl ?_
        refine xa_getf f_Trial_35 d_Trial_attempt_74 (by assumption) (by rfl) ?_
        refine xa_iload_n d_Trial_attempt_77 rfl ?_
        refine xa_iconst (v := nI 0) d_Trial_attempt_78 rfl ?_
        refine xa_callSr (As := [.ref (tr + 1), .int (nI p), .int (nI 0)]) (st := []) d_Trial_attempt_79 k_Trial_45 (c_Packed_setKind xr_h1 j1 hp (show 0 < 4 by decide) hN) rfl rfl (Nat.le_of_ble_eq_true rfl) ⟨by decide, by decide⟩ (by decide) (by decide) ?_
        rw [xr_u1]
        have hV4 := gp_B_set j1 hp (show 0 < 4 by decide)
        generalize (fun i => if i = p / 32 then gp_set (V3 (p / 32)) (p % 32) 0 else V3 i) = V4 at hV4 ⊢
        have q8 := r0 V4 (gb_cnt (gq_cap n b p sd 4) (n * n)) sd
        refine xa_aload_n d_Trial_attempt_82 rfl ?_
        refine xa_dup d_Trial_attempt_83 rfl ?_
        refine xa_getf f_Trial_49 d_Trial_attempt_84 (by assumption) (by rfl) ?_
        refine xa_iconst (v := nI 1) d_Trial_attempt_87 rfl ?_
        refine xa_iaddN d_Trial_attempt_88 ?_
        refine xa_putf f_Trial_49 d_Trial_attempt_89 q8 (Nat.le_of_ble_eq_true rfl) rfl rfl ?_
        refine xa_heap (xr_u0 (gb_cnt (gq_cap n b p sd 4) (n * n) + 1) sd) ?_
        refine xa_return d_Trial_attempt_92 rfl (by omega) (by omega) ⟨_, V4, _, _, hV4, Or.inr (Or.inr ⟨hno, hbre, fun q hq => ?_, rfl, rfl⟩), rfl, rfl, rfl⟩
        constructor
        · intro hc
          by_cases hqp : q = p
          · simp only [if_pos hqp]
          · simp only [if_neg hqp]
            exact (j2 q hq).1 (hc.resolve_right hqp)
        · intro hc
          have hqp : ¬ q = p := fun z => hc (Or.inr z)
          simp only [if_neg hqp]
          rw [(j2 q hq).2 (fun z => hc (Or.inl z)), ht1 q hq, if_neg hqp]
end AT
end
section
/-! Boards that stood, by their hash (pure part). -/
def gh_mix (V : Nat → Nat) : Nat → Int64
  | 0 => 0
  | k + 1 => (gh_mix V k ^^^ lN (V k)) * (-7046029254386353131 : Int64)
def gh (V : Nat → Nat) (L : Nat) : Nat := (gh_mix V L).toBitVec.toNat / 2 ^ 57
theorem gh_mix_eq {V V' : Nat → Nat} : ∀ L : Nat, (∀ i, i < L → V i = V' i) → gh_mix V L = gh_mix V' L := by
  intro L
  induction L with
  | zero => intro _; rfl
  | succ k ih =>
    intro h
    show (gh_mix V k ^^^ lN (V k)) * _ = (gh_mix V' k ^^^ lN (V' k)) * _
    rw [ih (fun i hi => h i (by omega)), h k (by omega)]
theorem gh_eq {V V' : Nat → Nat} {L : Nat} (h : ∀ i, i < L → V i = V' i) : gh V L = gh V' L := by
  unfold gh
  rw [gh_mix_eq L h]
theorem gh_lt (V : Nat → Nat) (L : Nat) : gh V L < 128 := by
  unfold gh
  have h := (gh_mix V L).toBitVec.isLt
  have e : (2 : Nat) ^ 64 = 2 ^ 57 * 128 := by decide
  rw [e] at h
  exact Nat.div_lt_of_lt_mul h
theorem gh_word (x : Int64) : (x.toUInt64 >>> ((nI 57).toInt64.toUInt64 &&& Int64.toUInt64 63)).toInt64.toInt32 = nI (x.toBitVec.toNat / 2 ^ 57) := by
  obtain ⟨v, hv, rfl⟩ := wb_of x
  rw [wb_shr hv (by decide), lN_i, wb_tn hv]
/-- the newest below k whose hash is u -/
def gh_top (hs : Nat → Nat) (u : Nat) : Nat → Option Nat
  | 0 => none
  | k + 1 => if hs k = u then some k else gh_top hs u k
theorem gh_top_some {hs : Nat → Nat} {u : Nat} : ∀ {k i : Nat}, gh_top hs u k = some i → i < k ∧ hs i = u ∧ ∀ j, i < j → j < k → hs j ≠ u := by
  intro k
  induction k with
  | zero => intro i h; cases h
  | succ k ih =>
    intro i h
    unfold gh_top at h
    by_cases hk : hs k = u
    · rw [if_pos hk] at h
      cases h
      exact ⟨by omega, hk, fun j h1 h2 => by omega⟩
    · rw [if_neg hk] at h
      obtain ⟨a, b, c⟩ := ih h
      refine ⟨by omega, b, fun j h1 h2 => ?_⟩
      by_cases hj : j = k
      · rw [hj]; exact hk
      · exact c j h1 (by omega)
theorem gh_top_none {hs : Nat → Nat} {u : Nat} : ∀ {k : Nat}, gh_top hs u k = none → ∀ j, j < k → hs j ≠ u := by
  intro k
  induction k with
  | zero => intro _ j hj; omega
  | succ k ih =>
    intro h j hj
    unfold gh_top at h
    by_cases hk : hs k = u
    · rw [if_pos hk] at h; cases h
    · rw [if_neg hk] at h
      by_cases hjk : j = k
      · rw [hjk]; exact hk
      · exact ih h j (by omega)
theorem gh_top_ext {hs hs' : Nat → Nat} {u : Nat} : ∀ {k : Nat}, (∀ j, j < k → hs j = hs' j) → gh_top hs u k = gh_top hs' u k := by
  intro k
  induction k with
  | zero => intro _; rfl
  | succ k ih =>
    intro h
    unfold gh_top
    rw [h k (by omega), ih (fun j hj => h j (by omega))]
/-- the history's cells: positions q, boards B -/
def xh_P (D : va_G) (h : xa_H) (N m : Nat) (q B : Nat → Nat) (ob : Nat → Option Nat) (pt : Nat → Int32) (tb tw : Nat → Nat) (V : Nat → Nat → Nat) : Prop :=
  ∀ i, i ≤ m → h (q i) = some (.inr (6, [va_rf (if i = 0 then none else some (q (i - 1))), va_rf (ob i), .ref (B i), .int (nI i), .int (pt i), .int (nI (tb i)), .int (nI (tw i))])) ∧ h (B i) = some (xp_c D N (V i))
/-- the buckets' chains -/
def xh_B (N m : Nat) (q : Nat → Nat) (ob F : Nat → Option Nat) (V : Nat → Nat → Nat) : Prop :=
  (∀ i, i ≤ m → ob i = (gh_top (fun j => gh (V j) ((N + 31) / 32)) (gh (V i) ((N + 31) / 32)) i).map q) ∧ ∀ u, u < 128 → F u = (gh_top (fun j => gh (V j) ((N + 31) / 32)) u (m + 1)).map q
/-- two packed boards have the same words -/
def xh_E (N : Nat) (V W : Nat → Nat) : Prop := ∀ i, i < (N + 31) / 32 → V i = W i
end
section
/-! History: bucketOf, hasBoard, find, hasEnded, pointOfMove. -/
section HI
variable {l : Launch} {D : va_G} {H0 : Heap} {h : xa_H} {sz : Nat} {R : Room}
theorem w_bucketOf {a N : Nat} {V : Nat → Nat} (hB : h a = some (xp_c D N V)) (hN : N < 1000) (i : Nat) (hi : i ≤ (N + 31) / 32) :
    xa_X l D H0 M_History_bucketOf R (xa_Zr D H0 0 0 (fun v h' sz' => v = some (.int (nI (gh V ((N + 31) / 32)))) ∧ h' = h ∧ sz' = sz)) 0 0 h sz 11 [(0, .ref a), (1, .long (gh_mix V i)), (3, .ref a), (4, .int (nI ((N + 31) / 32))), (5, .int (nI i))] [] := by
  refine xa_iload d_History_bucketOf_11 rfl ?_
  refine xa_iload d_History_bucketOf_13 rfl ?_
  refine xa_icmp_geN (tgt := 39) d_History_bucketOf_15 (by decide) (by omega) (by omega) (fun hb => ?_) (fun hb => ?_)
  · have hie : i = (N + 31) / 32 := by omega
    subst hie
    refine xa_lload_n d_History_bucketOf_39 rfl ?_
    refine xa_bipush (v := nI 57) d_History_bucketOf_40 (by decide) ?_
    refine xa_lushr d_History_bucketOf_42 rfl ?_
    refine xa_l2i d_History_bucketOf_43 rfl ?_
    refine xa_int (gh_word _) ?_
    exact xa_ireturn d_History_bucketOf_44 rfl (by omega) (by omega) ⟨rfl, rfl, rfl⟩
  ·
    refine xa_aload_n d_History_bucketOf_18 rfl ?_
    refine xa_iload d_History_bucketOf_19 rfl ?_
    refine xa_laldE d_History_bucketOf_21 hB rfl hb (by omega) rfl ?_
    refine xa_lstore d_History_bucketOf_22 rfl rfl ?_
    refine xa_lload_n d_History_bucketOf_24 rfl ?_
    refine xa_lload d_History_bucketOf_25 rfl ?_
    refine xa_lxor d_History_bucketOf_27 ?_
    refine xa_ldc2 w_History_78 d_History_bucketOf_28 ?_
    refine xa_lmul d_History_bucketOf_31 ?_
    refine xa_lstore_n d_History_bucketOf_32 rfl rfl ?_
    refine xa_iincN d_History_bucketOf_33 rfl rfl rfl ?_
    refine xa_goto (tgt := 11) d_History_bucketOf_36 (by decide) ?_
    refine xa_ls ?_ (w_bucketOf hB hN (i + 1) (by omega))
    exact ⟨rfl, rfl, rfl, rfl, rfl, trivial⟩
termination_by (N + 31) / 32 - i
decreasing_by omega
theorem c_History_bucketOf {a N : Nat} {V : Nat → Nat} (hB : h a = some (xp_c D N V)) (hN : N < 1000) :
    xa_M l D H0 M_History_bucketOf 0 0 0 0 [.ref a] h sz (fun v h' sz' => v = some (.int (nI (gh V ((N + 31) / 32)))) ∧ h' = h ∧ sz' = sz) := by
  refine xa_enter (by decide) rfl rfl ?_
  refine xa_lconst (v := 0) d_History_bucketOf_0 rfl ?_
  refine xa_lstore_n d_History_bucketOf_1 rfl rfl ?_
  refine xa_aload_n d_History_bucketOf_2 rfl ?_
  refine xa_astore_n d_History_bucketOf_3 rfl rfl ?_
  refine xa_aload_n d_History_bucketOf_4 rfl ?_
  refine xa_alen (t0 := 1) (v := nI ((N + 31) / 32)) rfl d_History_bucketOf_5 hB rfl ?_
  refine xa_istore d_History_bucketOf_6 rfl rfl ?_
  refine xa_iconst (v := nI 0) d_History_bucketOf_8 rfl ?_
  refine xa_istore d_History_bucketOf_9 rfl rfl ?_
  refine xa_ls ?_ (w_bucketOf hB hN 0 (by omega))
  exact ⟨rfl, rfl, rfl, rfl, rfl, trivial⟩
theorem w_hasBoard {p a a' N : Nat} {V W : Nat → Nat} {v1 v2 v4 v5 v6 v7 : Value} (hp : h p = some (.inr (6, [v1, v2, .ref a, v4, v5, v6, v7]))) (hB : h a = some (xp_c D N V)) (hB' : h a' = some (xp_c D N W)) (hN : N < 1000) (hV : ∀ i, i < (N + 31) / 32 → V i < 2 ^ 64) (hW : ∀ i, i < (N + 31) / 32 → W i < 2 ^ 64) (i : Nat) (hi : i ≤ (N + 31) / 32) (he : ∀ j, j < i → V j = W j) :
    xa_X l D H0 M_Pos_hasBoard R (xa_Zr D H0 0 0 (fun v h' sz' => ((v = some (.int 1) ∧ xh_E N V W) ∨ (v = some (.int 0) ∧ ¬ xh_E N V W)) ∧ h' = h ∧ sz' = sz)) 0 0 h sz 2 [(0, .ref p), (1, .ref a'), (2, .int (nI i))] [] := by
  refine xa_iload_n d_Pos_hasBoard_2 rfl ?_
  refine xa_aload_n d_Pos_hasBoard_3 rfl ?_
  refine xa_getf f_Pos_16 d_Pos_hasBoard_4 (by assumption) (by rfl) ?_
  refine xa_alen (t0 := 1) (v := nI ((N + 31) / 32)) rfl d_Pos_hasBoard_7 hB rfl ?_
  refine xa_icmp_geN (tgt := 38) d_Pos_hasBoard_8 (by decide) (by omega) (by omega) (fun hb => ?_) (fun hb => ?_)
  ·
    refine xa_iconst (v := nI 1) d_Pos_hasBoard_38 rfl ?_
    exact xa_zreturn (v := nI 1) d_Pos_hasBoard_39 rfl (by decide) (by omega) (by omega) ⟨Or.inl ⟨rfl, fun j hj => he j (by omega)⟩, rfl, rfl⟩
  ·
    refine xa_iload_n d_Pos_hasBoard_11 rfl ?_
    refine xa_aload_n d_Pos_hasBoard_12 rfl ?_
    refine xa_alen (t0 := 1) (v := nI ((N + 31) / 32)) rfl d_Pos_hasBoard_13 hB' rfl ?_
    refine xa_icmp_geN (tgt := 38) d_Pos_hasBoard_14 (by decide) (by omega) (by omega) (fun hb2 => ?_) (fun hb2 => ?_)
    · omega
    ·
      refine xa_aload_n d_Pos_hasBoard_17 rfl ?_
      refine xa_getf f_Pos_16 d_Pos_hasBoard_18 (by assumption) (by rfl) ?_
      refine xa_iload_n d_Pos_hasBoard_21 rfl ?_
      refine xa_laldE d_Pos_hasBoard_22 hB rfl hb (by omega) rfl ?_
      refine xa_aload_n d_Pos_hasBoard_23 rfl ?_
      refine xa_iload_n d_Pos_hasBoard_24 rfl ?_
      refine xa_laldE d_Pos_hasBoard_25 hB' rfl hb (by omega) rfl ?_
      refine xa_lcmp d_Pos_hasBoard_26 ?_
      refine xa_if_eq (tgt := 32) d_Pos_hasBoard_27 (by decide) (fun hz => ?_) (fun hz => ?_)
      · have hvw : lN (V i) = lN (W i) := (lg_cmp_eq _ _).mp hz
        have hvw2 : V i = W i := by
          have e := congrArg (fun x : Int64 => x.toBitVec.toNat) hvw
          rw [wb_tn (hV i hb), wb_tn (hW i hb)] at e
          exact e
        refine xa_iincN d_Pos_hasBoard_32 rfl rfl rfl ?_
        refine xa_goto (tgt := 2) d_Pos_hasBoard_35 (by decide) ?_
        refine xa_ls ?_ (w_hasBoard hp hB hB' hN hV hW (i + 1) (by omega) (fun j hj => ?_))
        · exact ⟨rfl, rfl, rfl, trivial⟩
        · by_cases hji : j = i
          · rw [hji]; exact hvw2
          · exact he j (by omega)
      ·
        refine xa_iconst (v := nI 0) d_Pos_hasBoard_30 rfl ?_
        exact xa_zreturn (v := nI 0) d_Pos_hasBoard_31 rfl (by decide) (by omega) (by omega) ⟨Or.inr ⟨rfl, fun z => hz ((lg_cmp_eq _ _).mpr (by rw [z i hb]))⟩, rfl, rfl⟩
termination_by (N + 31) / 32 - i
decreasing_by omega
theorem c_Pos_hasBoard {p a a' N : Nat} {V W : Nat → Nat} {v1 v2 v4 v5 v6 v7 : Value} (hp : h p = some (.inr (6, [v1, v2, .ref a, v4, v5, v6, v7]))) (hB : h a = some (xp_c D N V)) (hB' : h a' = some (xp_c D N W)) (hN : N < 1000) (hV : ∀ i, i < (N + 31) / 32 → V i < 2 ^ 64) (hW : ∀ i, i < (N + 31) / 32 → W i < 2 ^ 64) :
    xa_M l D H0 M_Pos_hasBoard 0 0 0 0 [.ref p, .ref a'] h sz (fun v h' sz' => ((v = some (.int 1) ∧ xh_E N V W) ∨ (v = some (.int 0) ∧ ¬ xh_E N V W)) ∧ h' = h ∧ sz' = sz) := by
  refine xa_enter (by decide) rfl rfl ?_
  refine xa_iconst (v := nI 0) d_Pos_hasBoard_0 rfl ?_
  refine xa_istore_n d_Pos_hasBoard_1 rfl rfl ?_
  refine xa_ls ?_ (w_hasBoard hp hB hB' hN hV hW 0 (by omega) (fun j hj => absurd hj (Nat.not_lt_zero _)))
  exact ⟨rfl, rfl, rfl, trivial⟩
theorem w_find {hi a N m : Nat} {q B : Nat → Nat} {ob F : Nat → Option Nat} {pt : Nat → Int32} {tb tw W : Nat → Nat} {V : Nat → Nat → Nat} (hR : 1 ≤ R.frames ∧ 22 ≤ R.locals) (hP : xh_P D h N m q B ob pt tb tw V) (hC : xh_B N m q ob F V) (ha : h a = some (xp_c D N W)) (hN : N < 1000) (hV : ∀ j, j ≤ m → ∀ i, i < (N + 31) / 32 → V j i < 2 ^ 64) (hW : ∀ i, i < (N + 31) / 32 → W i < 2 ^ 64)
    (k : Nat) (hk : k ≤ m + 1) (hno : ∀ j, k ≤ j → j ≤ m → ¬ xh_E N (V j) W) :
    xa_X l D H0 M_History_find R (xa_Zr D H0 0 0 (fun v h' sz' => ((v = some .null ∧ ∀ j, j ≤ m → ¬ xh_E N (V j) W) ∨ ∃ j, j ≤ m ∧ v = some (.ref (q j)) ∧ xh_E N (V j) W ∧ ∀ j', j < j' → j' ≤ m → ¬ xh_E N (V j') W) ∧ h' = h ∧ sz' = sz)) 0 0 h sz 10 [(0, .ref hi), (1, .ref a), (2, va_rf ((gh_top (fun j => gh (V j) ((N + 31) / 32)) (gh W ((N + 31) / 32)) k).map q))] [] := by
  have hsame : ∀ j, xh_E N (V j) W → gh (V j) ((N + 31) / 32) = gh W ((N + 31) / 32) := fun j hj => gh_eq hj
  cases htop : gh_top (fun j => gh (V j) ((N + 31) / 32)) (gh W ((N + 31) / 32)) k with
  | none =>
    have h1 := gh_top_none htop
    show xa_X l D H0 M_History_find R _ 0 0 h sz 10 [(0, .ref hi), (1, .ref a), (2, .null)] []
    refine xa_aload_nN d_History_find_10 rfl ?_
    refine xa_ifnullN (tgt := 30) d_History_find_11 (by decide) ?_
    refine xa_aload_nN d_History_find_30 rfl ?_
    exact xa_areturnN d_History_find_31 rfl (Or.inl ⟨_, rfl⟩) (by omega) (by omega) ⟨Or.inl ⟨rfl, fun j hj hz => by
      by_cases hjk : j < k
      · exact h1 j hjk (hsame j hz)
      · exact hno j (by omega) hj hz⟩, rfl, rfl⟩
  | some j =>
    obtain ⟨h1, h2, h3⟩ := gh_top_some htop
    obtain ⟨p1, p2⟩ := hP j (by omega)
    have hno' : ∀ j', j < j' → j' ≤ m → ¬ xh_E N (V j') W := fun j' e1 e2 hz => by
      by_cases hjk : j' < k
      · exact h3 j' e1 hjk (hsame j' hz)
      · exact hno j' (by omega) e2 hz
    show xa_X l D H0 M_History_find R _ 0 0 h sz 10 [(0, .ref hi), (1, .ref a), (2, .ref (q j))] []
    refine xa_aload_n d_History_find_10 rfl ?_
    refine xa_ifnull d_History_find_11 ?_
    refine xa_aload_n d_History_find_14 rfl ?_
    refine xa_aload_n d_History_find_15 rfl ?_
    refine xa_callV (As := [.ref a]) (st := []) d_History_find_16 k_History_65 p1 (c_Pos_hasBoard p1 p2 ha hN (hV j (by omega)) hW) rfl rfl (Nat.le_of_ble_eq_true rfl) ⟨hR.1, hR.2⟩ (by omega) (by omega) (fun v h' sz' hq => ?_)
    obtain ⟨hv, e2, e3⟩ := hq
    rw [e2, e3]
    rcases hv with ⟨hv, hE⟩ | ⟨hv, hE⟩
    · rw [hv]
      refine xa_int (y := nI 1) rfl ?_
      refine xa_if_neN (tgt := 30) d_History_find_19 (by decide) (by omega) (fun hz => ?_) (fun hz => ?_)
      ·
        refine xa_aload_n d_History_find_30 rfl ?_
        exact xa_areturn d_History_find_31 rfl (Or.inl ⟨_, rfl⟩) (by omega) (by omega) ⟨Or.inr ⟨j, by omega, rfl, hE, hno'⟩, rfl, rfl⟩
      · omega
    · rw [hv]
      refine xa_int (y := nI 0) rfl ?_
      refine xa_if_neN (tgt := 30) d_History_find_19 (by decide) (by omega) (fun hz => ?_) (fun hz => ?_)
      · omega
      ·
        refine xa_aload_n d_History_find_22 rfl ?_
        refine xa_getf f_History_69 d_History_find_23 (by assumption) (by rfl) ?_
        have hob := hC.1 j (by omega)
        have h2' : gh (V j) ((N + 31) / 32) = gh W ((N + 31) / 32) := h2
        rw [h2'] at hob
        rw [hob]
        refine xa_astore_nQ d_History_find_26 rfl rfl ?_
        refine xa_goto (tgt := 10) d_History_find_27 (by decide) ?_
        refine xa_ls ?_ (w_find (hi := hi) hR hP hC ha hN hV hW j (by omega) (fun j' e1 e2 => ?_))
        · exact ⟨rfl, rfl, rfl, trivial⟩
        · by_cases hj : j' = j
          · rw [hj]; exact hE
          · exact hno' j' (by omega) e2
termination_by k
decreasing_by omega
theorem c_History_find {hi a N m : Nat} {q B : Nat → Nat} {ob F : Nat → Option Nat} {pt : Nat → Int32} {tb tw W : Nat → Nat} {V : Nat → Nat → Nat} {v1 : Value} (hh : h hi = some (.inr (4, [v1, .ref (hi + 1)]))) (hF : h (hi + 1) = some (.inl (D.1 103, 128, .inr (.inr (.inr (.inr F)))))) (hP : xh_P D h N m q B ob pt tb tw V) (hC : xh_B N m q ob F V) (ha : h a = some (xp_c D N W)) (hN : N < 1000) (hV : ∀ j, j ≤ m → ∀ i, i < (N + 31) / 32 → V j i < 2 ^ 64) (hW : ∀ i, i < (N + 31) / 32 → W i < 2 ^ 64) :
    xa_M l D H0 M_History_find 1 27 0 0 [.ref hi, .ref a] h sz (fun v h' sz' => ((v = some .null ∧ ∀ j, j ≤ m → ¬ xh_E N (V j) W) ∨ ∃ j, j ≤ m ∧ v = some (.ref (q j)) ∧ xh_E N (V j) W ∧ ∀ j', j < j' → j' ≤ m → ¬ xh_E N (V j') W) ∧ h' = h ∧ sz' = sz) := by
  refine xa_enter (by decide) rfl rfl ?_
  refine xa_aload_n d_History_find_0 rfl ?_
  refine xa_getf f_History_13 d_History_find_1 (by assumption) (by rfl) ?_
  refine xa_aload_n d_History_find_4 rfl ?_
  refine xa_callSr (As := [.ref a]) (st := [.ref (hi + 1)]) d_History_find_5 k_History_61 (c_History_bucketOf ha hN) rfl rfl (Nat.le_of_ble_eq_true rfl) ⟨by decide, by decide⟩ (by decide) (by decide) ?_
  refine xa_qaldE d_History_find_8 hF rfl (gh_lt _ _) (by decide) (hC.2 _ (gh_lt _ _)) ?_
  refine xa_astore_nQ d_History_find_9 rfl rfl ?_
  refine xa_ls ?_ (w_find (hi := hi) ⟨by decide, by decide⟩ hP hC ha hN hV hW (m + 1) (by omega) (fun j e1 e2 => by omega))
  exact ⟨rfl, rfl, rfl, trivial⟩
end HI
end
section
/-! History: cloning a board, Position(), keep, takeOutOfBucket, hasEnded, pointOfMove. -/
theorem w_clone : Cond.methodLink "StoneBoard$History" 35 ⟨"[J", "clone", "()Ljava/lang/Object;"⟩ ∈ xa_ws ∧ Cond.sameMethod "[J" "java/lang/Object" "clone" "()Ljava/lang/Object;" ∈ xa_ws ∧ Cond.native ⟨"java/lang/Object", "clone", "()Ljava/lang/Object;"⟩ ∈ xa_ws ∧ Cond.instanceMethod ⟨"java/lang/Object", "clone", "()Ljava/lang/Object;"⟩ ∈ xa_ws ∧ Cond.selects "[J" ⟨"[J", "clone", "()Ljava/lang/Object;"⟩ ⟨"java/lang/Object", "clone", "()Ljava/lang/Object;"⟩ ∈ xa_ws ∧ Cond.castable "[J" "java/lang/Cloneable" ∈ xa_ws := ⟨xa_m3 41 rfl rfl, xa_m3 42 rfl rfl, xa_m3 43 rfl rfl, xa_m3 44 rfl rfl, xa_m3 45 rfl rfl, xa_m3 46 rfl rfl⟩
theorem w_castL : Cond.classLink "StoneBoard$History" 36 "[J" ∈ xa_ws := xa_m3 47 rfl rfl
section XCL
variable {l : Launch} {D : va_G} {H0 : Heap} {μ : xa_Mu} {R : Room} {Z : xa_Z} {k n : Nat} {h : xa_H} {sz pc : Nat} {ls : List (Nat × Value)} {st : List Value}
theorem xa_nmL {s : State} (hK : va_K D xa_cl (xa_tys D) s) : s.vm.findClass "[J" = some (D.1 101) := (hK.2 1 _ rfl).2
theorem xa_castL {idx a : Nat} {x : vp_A} (hl1 : Cond.classLink μ.1.cls idx "[J" ∈ xa_ws) (hd : decode μ.2.1 pc = .ok (.checkcast idx, 3)) (ha : h a = some (.inl (D.1 101, x))) (kk : xa_X l D H0 μ R Z k n h sz (pc + 3) ls (.ref a :: st)) : xa_X l D H0 μ R Z k n h sz pc ls (.ref a :: st) := by
  intro p e s m args below meth c H locs la C hP hL hl
  exact va_castA C.1 C.2.1 C.2.2.2.1 (C.2.2.2.2.1 _ hl1) (hP.one ha) 0 rfl (xa_nmL C.2.2.2.2.2.1) hd (kk p e s m args below meth c H locs la C hP hL hl)
theorem xa_clone {idx a L : Nat} {f : Nat → Int64} (hw : Cond.methodLink μ.1.cls idx ⟨"[J", "clone", "()Ljava/lang/Object;"⟩ ∈ xa_ws ∧ Cond.sameMethod "[J" "java/lang/Object" "clone" "()Ljava/lang/Object;" ∈ xa_ws ∧ Cond.native ⟨"java/lang/Object", "clone", "()Ljava/lang/Object;"⟩ ∈ xa_ws ∧ Cond.instanceMethod ⟨"java/lang/Object", "clone", "()Ljava/lang/Object;"⟩ ∈ xa_ws ∧ Cond.selects "[J" ⟨"[J", "clone", "()Ljava/lang/Object;"⟩ ⟨"java/lang/Object", "clone", "()Ljava/lang/Object;"⟩ ∈ xa_ws ∧ Cond.castable "[J" "java/lang/Cloneable" ∈ xa_ws)
    (hd : decode μ.2.1 pc = .ok (.invokevirtual idx, 3)) (ha : h a = some (.inl (D.1 101, L, .inr (.inl f)))) (hfr : 1 ≤ R.frames) (hlo : (st.map fun v => v.category).sum + 14 ≤ R.locals) (hk : k + 1 ≤ R.cells) (hs : n + L ≤ R.slots) (kk : xa_X l D H0 μ R Z (k + 1) (n + L) (xa_u h sz (.inl (D.1 101, L, .inr (.inl f)))) (sz + 1) (pc + 3) ls (.ref sz :: st)) : xa_X l D H0 μ R Z k n h sz pc ls (.ref a :: st) := by
  intro p e s m args below meth c H locs la C hP hL hl T hT X
  obtain ⟨w1, w2, w3, w4, w5, w6⟩ := hw
  have hts := C.2.2.2.2.1
  have hK := C.2.2.2.2.2.1
  have hsz0 : (vp_cell (D.1 101) (L, .inr (.inl f))).slots.size = L := arrV_size _ _ _
  obtain ⟨c0, t0', f1, f2, f3⟩ := Cond.castable_spec (hts _ w6)
  cases (xa_nmL hK).symm.trans f1
  have hcellT : T.heap[a]? = some (vp_cell (D.1 101) (L, .inr (.inl f))) := by rw [hT]; exact (hP.2.2.2 a _ ha).2
  obtain ⟨-, kA, hkA, comp, hkind⟩ := State.isArrayOf_alike X.warmed.alike ((hK.2 1 _ rfl).1 0 (fun _ => .null))
  obtain ⟨-, kS, hkS, compS, hkindS⟩ := (hK.2 1 _ rfl).1 0 (fun _ => .null)
  obtain ⟨vm', X', st2⟩ := X.cloneArray C.1 C.2.2.2.1 (hts _ w1) (hts _ w2) (hts _ w3) (hts _ w4) (hts _ w5) (a := a) (cell := vp_cell (D.1 101) (L, .inr (.inl f))) hcellT (fun k h9 => by cases h9) (fun h9 => by cases h9) (xa_nmL hK) f2 f3
    (fun i v hv => by
      have hk' : T.vm.classes[D.1 101]? = some kA := hkA
      have hkind' : kA.kind = .array comp .long := hkind
      have hv' : fits .long v = true := by
        have hv2 : (arrV (D.1 101) L (fun j => .long (f j))).slots[i]? = some v := hv
        have hlt : i < L := by
          have := (Array.getElem?_eq_some_iff.mp hv2).1
          rw [arrV_size] at this
          exact this
        rw [arrV_read _ _ hlt] at hv2
        cases hv2
        rfl
      show State.fitsSlot _ (D.1 101) _ _ _ = true
      simpa [State.fitsSlot, State.slotType?, hk', hkind'] using hv')
    (g := F0 m pc la (.ref a :: st)) rfl (by rw [C.2.2.1]; exact hl.1) rfl (by rw [C.2.1]; exact hd) hfr (by show 2 * 0 + _ + 14 ≤ _; omega) hk (by rw [hsz0]; exact hs) (hloader := Vm.clonesLoader_of_array hkS hkindS)
  rw [hsz0] at X'
  have hcellE : ({ cls := (vp_cell (D.1 101) (L, .inr (.inl f))).cls, slots := (vp_cell (D.1 101) (L, .inr (.inl f))).slots } : Cell) = vp_cell (D.1 101) (L, .inr (.inl f)) := rfl
  obtain ⟨t, b1, b2⟩ := kk p e s m args below meth c (H.push (vp_cell (D.1 101) (L, .inr (.inl f)))) locs la C (hP.push (show (H.push _)[sz]? = some _ by rw [← hP.1, Array.getElem?_push_size]) (by rw [Array.size_push, hP.1]) (fun q hq => by rw [Array.getElem?_push, if_neg (by rw [hP.1]; omega)])) hL hl
    ((T.setVm vm').pushCell (vp_cell (D.1 101) (L, .inr (.inl f)))) (by rw [← hT]; rfl) X'
  refine ⟨t, st2 t ?_, b2⟩
  rw [hcellE, hT, hP.1]
  exact b1
theorem xa_nar_rf (C : String) (r : Option Nat) : narrow (.object C) (va_rf r) = va_rf r ∧ fits (.object C) (va_rf r) = true := by cases r <;> exact ⟨rfl, rfl⟩
end XCL
section PI
variable {l : Launch} {D : va_G} {H0 : Heap} {h : xa_H} {sz : Nat} {R : Room}
theorem xa_args7 (p B : Nat) (bf ob : Option Nat) (x y z : Int32) : lv_args 0 [.ref p, va_rf bf, va_rf ob, .ref B, .int x, .int y, .int z] = [(0, .ref p), (1, va_rf bf), (2, va_rf ob), (3, .ref B), (4, .int x), (5, .int y), (6, .int z)] := by cases bf <;> cases ob <;> rfl
theorem xa_fit7 (p B : Nat) (bf ob : Option Nat) (x y z : Int32) : Nat.ble (lg_sl [.ref p, va_rf bf, va_rf ob, .ref B, .int x, .int y, .int z]).length 7 = true := by cases bf <;> cases ob <;> rfl
theorem c_Pos_init {p B nb : Nat} {bf ob : Option Nat} {pt x y : Int32} (hp : h p = some (.inr (6, [.null, .null, .null, .int 0, .int 0, .int 0, .int 0]))) (hb : (bf = none ∧ nb = 0) ∨ ∃ (a k : Nat) (v1 v2 v3 v5 v6 v7 : Value), bf = some a ∧ a ≠ p ∧ h a = some (.inr (6, [v1, v2, v3, .int (nI k), v5, v6, v7])) ∧ nb = k + 1) :
    xa_M l D H0 M_Pos_init 1 20 0 0 [.ref p, va_rf bf, va_rf ob, .ref B, .int pt, .int x, .int y] h sz (fun v h' sz' => v = none ∧ h' = xa_u h p (.inr (6, [va_rf bf, va_rf ob, .ref B, .int (nI nb), .int pt, .int x, .int y])) ∧ sz' = sz) := by
  refine xa_enter (by decide) rfl (xa_fit7 _ _ _ _ _ _ _) ?_
  rw [xa_args7]
  refine xa_aload_n d_Pos_init_0 rfl ?_
  refine xa_objInit k_Pos_1 w_oi w_oc d_Pos_init_1 (by decide) (by decide) ?_
  refine xa_aload_n d_Pos_init_4 rfl ?_
  refine xa_aload_nQ d_Pos_init_5 rfl ?_
  refine xa_putF f_Pos_7 rfl (fun q hq => by cases hq; rfl) d_Pos_init_6 hp (Nat.le_of_ble_eq_true rfl) (xa_nar_rf _ _).1 (xa_nar_rf _ _).2 ?_
  refine xa_aload_n d_Pos_init_9 rfl ?_
  refine xa_aload_nQ d_Pos_init_10 rfl ?_
  refine xa_putF f_Pos_13 rfl (fun q hq => by cases hq; rfl) d_Pos_init_11 (xa_u_eq _ _ _) (Nat.le_of_ble_eq_true rfl) (xa_nar_rf _ _).1 (xa_nar_rf _ _).2 ?_
  rw [xa_uu]
  refine xa_aload_n d_Pos_init_14 rfl ?_
  refine xa_aload_n d_Pos_init_15 rfl ?_
  refine xa_putF f_Pos_16 rfl (fun q hq => by cases hq; rfl) d_Pos_init_16 (xa_u_eq _ _ _) (Nat.le_of_ble_eq_true rfl) rfl rfl ?_
  rw [xa_uu]
  have rest : xa_X l D H0 M_Pos_init (xa_rm 1 0 0 20) (xa_Zr D H0 0 0 (fun v h' sz' => v = none ∧ h' = xa_u h p (.inr (6, [va_rf bf, va_rf ob, .ref B, .int (nI nb), .int pt, .int x, .int y])) ∧ sz' = sz)) 0 0 (xa_u h p (.inr (6, [va_rf bf, va_rf ob, .ref B, .int 0, .int 0, .int 0, .int 0]))) sz 34 [(0, .ref p), (1, va_rf bf), (2, va_rf ob), (3, .ref B), (4, .int pt), (5, .int x), (6, .int y)] [.int (nI nb), .ref p] := by
    refine xa_putF f_Pos_20 rfl (fun q hq => by cases hq; rfl) d_Pos_init_34 (xa_u_eq _ _ _) (Nat.le_of_ble_eq_true rfl) rfl rfl ?_
    rw [xa_uu]
    refine xa_aload_n d_Pos_init_37 rfl ?_
    refine xa_iload d_Pos_init_38 rfl ?_
    refine xa_putF f_Pos_24 rfl (fun q hq => by cases hq; rfl) d_Pos_init_40 (xa_u_eq _ _ _) (Nat.le_of_ble_eq_true rfl) rfl rfl ?_
    rw [xa_uu]
    refine xa_aload_n d_Pos_init_43 rfl ?_
    refine xa_iload d_Pos_init_44 rfl ?_
    refine xa_putF f_Pos_27 rfl (fun q hq => by cases hq; rfl) d_Pos_init_46 (xa_u_eq _ _ _) (Nat.le_of_ble_eq_true rfl) rfl rfl ?_
    rw [xa_uu]
    refine xa_aload_n d_Pos_init_49 rfl ?_
    refine xa_iload d_Pos_init_50 rfl ?_
    refine xa_putF f_Pos_30 rfl (fun q hq => by cases hq; rfl) d_Pos_init_52 (xa_u_eq _ _ _) (Nat.le_of_ble_eq_true rfl) rfl rfl ?_
    rw [xa_uu]
    exact xa_return d_Pos_init_55 rfl (by omega) (by omega) ⟨rfl, rfl, rfl⟩
  refine xa_aload_n d_Pos_init_19 rfl ?_
  rcases hb with ⟨rfl, rfl⟩ | ⟨a, k, v1, v2, v3, v5, v6, v7, rfl, hne, ha, rfl⟩
  · refine xa_aload_nN d_Pos_init_20 rfl ?_
    refine xa_ifnonnullN d_Pos_init_21 ?_
    refine xa_iconst (v := nI 0) d_Pos_init_24 rfl ?_
    refine xa_goto (tgt := 34) d_Pos_init_25 (by decide) ?_
    exact rest
  · refine xa_aload_n d_Pos_init_20 rfl ?_
    refine xa_ifnonnull (tgt := 28) d_Pos_init_21 (by decide) ?_
    refine xa_aload_n d_Pos_init_28 rfl ?_
    refine xa_getf f_Pos_20 d_Pos_init_29 (xa_u_ne ha hne) rfl ?_
    refine xa_iconst (v := nI 1) d_Pos_init_32 rfl ?_
    refine xa_iaddN d_Pos_init_33 ?_
    exact rest
end PI
end
section
/-! History: keep, takeOutOfBucket, hasEnded, pointOfMove. -/
def xk_h (D : va_G) (h : xa_H) (hi sz B nb : Nat) (bf ob : Option Nat) (pt x y : Int32) (F : Nat → Option Nat) (u : Nat) : xa_H :=
  xa_u (xa_u (xa_u h sz (.inr (6, [va_rf bf, va_rf ob, .ref B, .int (nI nb), .int pt, .int x, .int y]))) hi (.inr (4, [.ref sz, .ref (hi + 1)]))) (hi + 1) (.inl (D.1 103, 128, .inr (.inr (.inr (.inr (va_up F u (some sz)))))))
section HK
variable {l : Launch} {D : va_G} {H0 : Heap} {h : xa_H} {sz : Nat} {R : Room}
theorem xa_args6 (p B : Nat) (bf : Option Nat) (x y z : Int32) : lv_args 0 [.ref p, va_rf bf, .ref B, .int x, .int y, .int z] = [(0, .ref p), (1, va_rf bf), (2, .ref B), (3, .int x), (4, .int y), (5, .int z)] := by cases bf <;> rfl
theorem xa_fit6 (p B : Nat) (bf : Option Nat) (x y z : Int32) : Nat.ble (lg_sl [.ref p, va_rf bf, .ref B, .int x, .int y, .int z]).length 7 = true := by cases bf <;> rfl
theorem xa_okb_rf {ls : List (Nat × Value)} (h : ∀ q ∈ ls, q.2.category = 1) (i : Nat) : xa_okb i ls = true := by
  induction ls with
  | nil => rfl
  | cons x r ih =>
    obtain ⟨j, w⟩ := x
    have h1 : w.category = 1 := h (j, w) List.mem_cons_self
    unfold xa_okb
    cases Nat.beq (j + 1) i with
    | true => simp [h1, ih (fun q hq => h q (List.mem_cons_of_mem _ hq))]
    | false => exact ih (fun q hq => h q (List.mem_cons_of_mem _ hq))
theorem c_History_keep {hi B N nb : Nat} {bf : Option Nat} {pt x y : Int32} {F : Nat → Option Nat} {V : Nat → Nat} {v1 : Value} (hh : h hi = some (.inr (4, [v1, .ref (hi + 1)]))) (hF : h (hi + 1) = some (.inl (D.1 103, 128, .inr (.inr (.inr (.inr F)))))) (hB : h B = some (xp_c D N V)) (hN : N < 1000)
    (hb : (bf = none ∧ nb = 0) ∨ ∃ (a k : Nat) (v1 v2 v3 v5 v6 v7 : Value), bf = some a ∧ h a = some (.inr (6, [v1, v2, v3, .int (nI k), v5, v6, v7])) ∧ nb = k + 1) :
    xa_M l D H0 M_History_keep 2 46 1 7 [.ref hi, va_rf bf, .ref B, .int pt, .int x, .int y] h sz (fun v h' sz' => v = none ∧ h' = xk_h D h hi sz B nb bf (F (gh V ((N + 31) / 32))) pt x y F (gh V ((N + 31) / 32)) ∧ sz' = sz + 1) := by
  refine xa_enter (by decide) rfl (xa_fit6 _ _ _ _ _ _) ?_
  rw [xa_args6]
  refine xa_pre (fun h1 h2 => ?_)
  have l1 := (h2 _ _ hh).2
  have l2 := (h2 _ _ hF).2
  have l3 := (h2 _ _ hB).2
  refine xa_aload_n d_History_keep_0 rfl ?_
  refine xa_callSr (As := [.ref B]) (st := []) d_History_keep_1 k_History_61 (c_History_bucketOf hB hN) rfl rfl (Nat.le_of_ble_eq_true rfl) ⟨by decide, by decide⟩ (by decide) (by decide) ?_
  refine xa_istore d_History_keep_4 rfl (xa_okb_rf (by intro q hq; simp only [List.mem_cons, List.not_mem_nil, or_false] at hq; rcases hq with rfl | rfl | rfl | rfl | rfl | rfl <;> first | rfl | exact xa_cat_rf _) _) ?_
  refine xa_aload_n d_History_keep_6 rfl ?_
  refine xa_new n_History_11 d_History_keep_7 (by decide) (by decide) ?_
  have e1 : xa_u h sz (.inr (6, [.null, .null, .null, .int 0, .int 0, .int 0, .int 0])) hi = some (.inr (4, [v1, .ref (hi + 1)])) := xa_u_ne hh (by omega)
  have e2 : xa_u h sz (.inr (6, [.null, .null, .null, .int 0, .int 0, .int 0, .int 0])) (hi + 1) = some (.inl (D.1 103, 128, .inr (.inr (.inr (.inr F))))) := xa_u_ne hF (by omega)
  refine xa_dup d_History_keep_10 rfl ?_
  refine xa_aload_nQ d_History_keep_11 rfl ?_
  refine xa_aload_n d_History_keep_12 rfl ?_
  refine xa_getf f_History_13 d_History_keep_13 (by assumption) (by rfl) ?_
  refine xa_iload d_History_keep_16 rfl ?_
  refine xa_qaldE d_History_keep_18 e2 rfl (gh_lt _ _) (by decide) rfl ?_
  refine xa_aload_n d_History_keep_19 rfl ?_
  refine xa_iload_n d_History_keep_20 rfl ?_
  refine xa_iload d_History_keep_21 rfl ?_
  refine xa_iload d_History_keep_23 rfl ?_
  refine xa_callIr (As := [va_rf bf, va_rf (F (gh V ((N + 31) / 32))), .ref B, .int pt, .int x, .int y]) (st := [.ref sz, .ref hi]) d_History_keep_25 k_History_75 (c_Pos_init (nb := nb) (xa_u_eq _ _ _) (by
    rcases hb with ⟨e3, e4⟩ | ⟨a, k, v1, v2, v3, v5, v6, v7, e3, e4, e5⟩
    · exact Or.inl ⟨e3, e4⟩
    · have := (h2 _ _ e4).2
      exact Or.inr ⟨a, k, v1, v2, v3, v5, v6, v7, e3, by omega, xa_u_ne e4 (by omega), e5⟩)) rfl rfl (Nat.le_of_ble_eq_true rfl) ⟨by decide, by decide⟩ (by decide) (by decide) ?_
  rw [xa_uu]
  refine xa_putf f_History_27 d_History_keep_28 (xa_u_ne hh (by omega)) (Nat.le_of_ble_eq_true rfl) rfl rfl ?_
  have e3 : ∀ e0 : va_E, xa_u (xa_u h sz e0) hi (.inr (4, [.ref sz, .ref (hi + 1)])) hi = some (.inr (4, [.ref sz, .ref (hi + 1)])) := fun e0 => xa_u_eq _ _ _
  have e4 := e3 (.inr (6, [va_rf bf, va_rf (F (gh V ((N + 31) / 32))), .ref B, .int (nI nb), .int pt, .int x, .int y]))
  refine xa_heap (h' := xa_u (xa_u h sz (.inr (6, [va_rf bf, va_rf (F (gh V ((N + 31) / 32))), .ref B, .int (nI nb), .int pt, .int x, .int y]))) hi (.inr (4, [.ref sz, .ref (hi + 1)]))) rfl ?_
  refine xa_aload_n d_History_keep_31 rfl ?_
  refine xa_getf f_History_13 d_History_keep_32 (by assumption) (by rfl) ?_
  refine xa_iload d_History_keep_35 rfl ?_
  refine xa_aload_n d_History_keep_37 rfl ?_
  refine xa_getf f_History_27 d_History_keep_38 (by assumption) (by rfl) ?_
  refine xa_qast d_History_keep_41 (xa_u_ne (xa_u_ne hF (by omega)) (by omega)) (vs := [va_rf bf, va_rf (F (gh V ((N + 31) / 32))), .ref B, .int (nI nb), .int pt, .int x, .int y]) (xa_u_ne (xa_u_eq _ _ _) (by omega)) (gh_lt _ _) rfl (by decide) ?_
  exact xa_return d_History_keep_42 rfl (by decide) (by decide) ⟨rfl, rfl, rfl⟩
theorem c_History_takeOut {hi p B N : Nat} {ob : Option Nat} {F : Nat → Option Nat} {V : Nat → Nat} {v1 w1 w4 w5 w6 w7 : Value} (hh : h hi = some (.inr (4, [v1, .ref (hi + 1)]))) (hF : h (hi + 1) = some (.inl (D.1 103, 128, .inr (.inr (.inr (.inr F)))))) (hp : h p = some (.inr (6, [w1, va_rf ob, .ref B, w4, w5, w6, w7]))) (hB : h B = some (xp_c D N V)) (hN : N < 1000) (ho : ∀ a, ob = some a → ∃ vs, h a = some (.inr (6, vs))) :
    xa_M l D H0 M_History_takeOutOfBucket 1 27 0 0 [.ref hi, .ref p] h sz (fun v h' sz' => v = none ∧ h' = xa_u h (hi + 1) (.inl (D.1 103, 128, .inr (.inr (.inr (.inr (va_up F (gh V ((N + 31) / 32)) ob)))))) ∧ sz' = sz) := by
  refine xa_enter (by decide) rfl rfl ?_
  refine xa_aload_n d_History_takeOutOfBucket_0 rfl ?_
  refine xa_getf f_History_13 d_History_takeOutOfBucket_1 (by assumption) (by rfl) ?_
  refine xa_aload_n d_History_takeOutOfBucket_4 rfl ?_
  refine xa_getf f_History_31 d_History_takeOutOfBucket_5 (by assumption) (by rfl) ?_
  refine xa_callSr (As := [.ref B]) (st := [.ref (hi + 1)]) d_History_takeOutOfBucket_8 k_History_61 (c_History_bucketOf hB hN) rfl rfl (Nat.le_of_ble_eq_true rfl) ⟨by decide, by decide⟩ (by decide) (by decide) ?_
  refine xa_aload_n d_History_takeOutOfBucket_11 rfl ?_
  refine xa_getf f_History_69 d_History_takeOutOfBucket_12 (by assumption) (by rfl) ?_
  cases ob with
  | none =>
    refine xa_qastN d_History_takeOutOfBucket_15 hF (gh_lt _ _) rfl (by decide) ?_
    exact xa_return d_History_takeOutOfBucket_16 rfl (by decide) (by decide) ⟨rfl, rfl, rfl⟩
  | some a =>
    obtain ⟨vs, ha⟩ := ho a rfl
    refine xa_qast d_History_takeOutOfBucket_15 hF (vs := vs) ha (gh_lt _ _) rfl (by decide) ?_
    exact xa_return d_History_takeOutOfBucket_16 rfl (by decide) (by decide) ⟨rfl, rfl, rfl⟩
theorem c_History_hasEnded {hi N m : Nat} {q B : Nat → Nat} {ob : Nat → Option Nat} {pt : Nat → Int32} {tb tw : Nat → Nat} {V : Nat → Nat → Nat} {v2 : Value} (hh : h hi = some (.inr (4, [.ref (q m), v2]))) (hP : xh_P D h N m q B ob pt tb tw V) :
    xa_M l D H0 M_History_hasEnded 0 0 0 0 [.ref hi] h sz (fun v h' sz' => v = some (.int (if pt m = -1 ∧ m ≠ 0 ∧ pt (m - 1) = -1 then 1 else 0)) ∧ h' = h ∧ sz' = sz) := by
  refine xa_enter (by decide) rfl rfl ?_
  obtain ⟨p1, -⟩ := hP m (Nat.le_refl m)
  have no : ¬ (pt m = -1 ∧ m ≠ 0 ∧ pt (m - 1) = -1) → ∀ lsx, xa_X l D H0 M_History_hasEnded (xa_rm 0 0 0 0) (xa_Zr D H0 0 0 (fun v h' sz' => v = some (.int (if pt m = -1 ∧ m ≠ 0 ∧ pt (m - 1) = -1 then 1 else 0)) ∧ h' = h ∧ sz' = sz)) 0 0 h sz 39 lsx [] := by
    intro hn lsx
    refine xa_iconst (v := nI 0) d_History_hasEnded_39 rfl ?_
    exact xa_zreturn (v := nI 0) d_History_hasEnded_40 rfl (by decide) (by decide) (by decide) ⟨by rw [if_neg hn]; rfl, rfl, rfl⟩
  refine xa_aload_n d_History_hasEnded_0 rfl ?_
  refine xa_getf f_History_27 d_History_hasEnded_1 (by assumption) (by rfl) ?_
  refine xa_getf f_History_58 d_History_hasEnded_4 (by assumption) (by rfl) ?_
  refine xa_iconst (v := -1) d_History_hasEnded_7 rfl ?_
  refine xa_icmp_ne (tgt := 39) d_History_hasEnded_8 (by decide) (fun hz => ?_) (fun hz => ?_)
  · exact no (fun z => hz z.1) _
  ·
    refine xa_aload_n d_History_hasEnded_11 rfl ?_
    refine xa_getf f_History_27 d_History_hasEnded_12 (by assumption) (by rfl) ?_
    refine xa_getf f_History_55 d_History_hasEnded_15 (by assumption) (by rfl) ?_
    by_cases hm : m = 0
    · rw [if_pos hm]
      refine xa_ifnullN (tgt := 39) d_History_hasEnded_18 (by decide) ?_
      exact no (fun z => z.2.1 hm) _
    · rw [if_neg hm]
      refine xa_ifnull d_History_hasEnded_18 ?_
      rw [if_neg hm] at p1
      obtain ⟨p2, -⟩ := hP (m - 1) (by omega)
      refine xa_aload_n d_History_hasEnded_21 rfl ?_
      refine xa_getf f_History_27 d_History_hasEnded_22 (by assumption) (by rfl) ?_
      refine xa_getf f_History_55 d_History_hasEnded_25 (by assumption) (by rfl) ?_
      refine xa_getf f_History_58 d_History_hasEnded_28 (by assumption) (by rfl) ?_
      refine xa_iconst (v := -1) d_History_hasEnded_31 rfl ?_
      refine xa_icmp_ne (tgt := 39) d_History_hasEnded_32 (by decide) (fun hz2 => ?_) (fun hz2 => ?_)
      · exact no (fun z => hz2 z.2.2) _
      ·
        refine xa_iconst (v := nI 1) d_History_hasEnded_35 rfl ?_
        refine xa_goto (tgt := 40) d_History_hasEnded_36 (by decide) ?_
        exact xa_zreturn (v := nI 1) d_History_hasEnded_40 rfl (by decide) (by decide) (by decide) ⟨by rw [if_pos ⟨hz, hm, hz2⟩]; rfl, rfl, rfl⟩
theorem w_pointOfMove {hi N m i : Nat} {q B : Nat → Nat} {ob : Nat → Option Nat} {pt : Nat → Int32} {tb tw : Nat → Nat} {V : Nat → Nat → Nat} (hP : xh_P D h N m q B ob pt tb tw V) (hm : m < 2000) (j : Nat) (hj : j ≤ m) (hij : i + 1 ≤ j) :
    xa_X l D H0 M_History_pointOfMove R (xa_Zr D H0 0 0 (fun v h' sz' => v = some (.int (pt (i + 1))) ∧ h' = h ∧ sz' = sz)) 0 0 h sz 5 [(0, .ref hi), (1, .int (nI i)), (2, .ref (q j))] [] := by
  obtain ⟨p1, -⟩ := hP j hj
  rw [if_neg (by omega)] at p1
  refine xa_aload_n d_History_pointOfMove_5 rfl ?_
  refine xa_getf f_History_55 d_History_pointOfMove_6 (by assumption) (by rfl) ?_
  refine xa_ifnull d_History_pointOfMove_9 ?_
  refine xa_aload_n d_History_pointOfMove_12 rfl ?_
  refine xa_getf f_History_72 d_History_pointOfMove_13 (by assumption) (by rfl) ?_
  refine xa_iload_n d_History_pointOfMove_16 rfl ?_
  refine xa_iconst (v := nI 1) d_History_pointOfMove_17 rfl ?_
  refine xa_iaddN d_History_pointOfMove_18 ?_
  refine xa_icmp_leN (tgt := 30) d_History_pointOfMove_19 (by decide) (by omega) (by omega) (fun hb => ?_) (fun hb => ?_)
  · have hji : j = i + 1 := by omega
    subst hji
    refine xa_aload_n d_History_pointOfMove_30 rfl ?_
    refine xa_getf f_History_58 d_History_pointOfMove_31 (by assumption) (by rfl) ?_
    exact xa_ireturn d_History_pointOfMove_34 rfl (by omega) (by omega) ⟨rfl, rfl, rfl⟩
  ·
    refine xa_aload_n d_History_pointOfMove_22 rfl ?_
    refine xa_getf f_History_55 d_History_pointOfMove_23 (by assumption) (by rfl) ?_
    refine xa_astore_n d_History_pointOfMove_26 rfl rfl ?_
    refine xa_goto (tgt := 5) d_History_pointOfMove_27 (by decide) ?_
    refine xa_ls ?_ (w_pointOfMove (hi := hi) hP hm (j - 1) (by omega) (by omega))
    exact ⟨rfl, rfl, rfl, trivial⟩
termination_by j
decreasing_by omega
theorem c_History_pointOfMove {hi N m i : Nat} {q B : Nat → Nat} {ob : Nat → Option Nat} {pt : Nat → Int32} {tb tw : Nat → Nat} {V : Nat → Nat → Nat} {v2 : Value} (hh : h hi = some (.inr (4, [.ref (q m), v2]))) (hP : xh_P D h N m q B ob pt tb tw V) (hm : m < 2000) (hi' : i < m) :
    xa_M l D H0 M_History_pointOfMove 0 0 0 0 [.ref hi, .int (nI i)] h sz (fun v h' sz' => v = some (.int (pt (i + 1))) ∧ h' = h ∧ sz' = sz) := by
  refine xa_enter (by decide) rfl rfl ?_
  refine xa_aload_n d_History_pointOfMove_0 rfl ?_
  refine xa_getf f_History_27 d_History_pointOfMove_1 (by assumption) (by rfl) ?_
  refine xa_astore_n d_History_pointOfMove_4 rfl rfl ?_
  refine xa_ls ?_ (w_pointOfMove (hi := hi) hP hm m (Nat.le_refl m) (by omega))
  exact ⟨rfl, rfl, rfl, trivial⟩
end HK
end
section
/-! History: its state; addMove, addPass, dropLatest, beginWith, History(). -/
def xh_K (hi T a : Nat) : Prop := hi + 1 < a ∧ (a ≤ hi + 3 ∨ T ≤ a)
def xh_up {α : Type} (f : Nat → α) (m : Nat) (x : α) : Nat → α := fun i => if i = m then x else f i
theorem xh_up_eq {α : Type} (f : Nat → α) (m : Nat) (x : α) : xh_up f m x m = x := if_pos rfl
theorem xh_up_ne {α : Type} (f : Nat → α) {m i : Nat} (x : α) (h : i ≠ m) : xh_up f m x i = f i := if_neg h
def xh_S (D : va_G) (h : xa_H) (hi T N m : Nat) (bd : Nat → Nat → Nat) (pt : Nat → Int32) (tb tw : Nat → Nat) : Prop :=
  ∃ (q B : Nat → Nat) (ob F : Nat → Option Nat) (V : Nat → Nat → Nat), h hi = some (.inr (4, [.ref (q m), .ref (hi + 1)])) ∧ h (hi + 1) = some (.inl (D.1 103, 128, .inr (.inr (.inr (.inr F))))) ∧ xh_P D h N m q B ob pt tb tw V ∧ xh_B N m q ob F V ∧ (∀ i, i ≤ m → gp_B N (bd i) (V i)) ∧ ∀ i, i ≤ m → xh_K hi T (q i) ∧ xh_K hi T (B i)
theorem xh_S_frame {D : va_G} {h h' : xa_H} {hi T N m : Nat} {bd : Nat → Nat → Nat} {pt : Nat → Int32} {tb tw : Nat → Nat} (hS : xh_S D h hi T N m bd pt tb tw) (hf : ∀ a e, h a = some e → (a = hi ∨ a = hi + 1 ∨ xh_K hi T a) → h' a = some e) : xh_S D h' hi T N m bd pt tb tw := by
  obtain ⟨q, B, ob, F, V, e1, e2, hP, hB, hV, hK⟩ := hS
  exact ⟨q, B, ob, F, V, hf _ _ e1 (Or.inl rfl), hf _ _ e2 (Or.inr (Or.inl rfl)), fun i hi' => ⟨hf _ _ (hP i hi').1 (Or.inr (Or.inr (hK i hi').1)), hf _ _ (hP i hi').2 (Or.inr (Or.inr (hK i hi').2))⟩, hB, hV, hK⟩
theorem xh_keep {D : va_G} {h : xa_H} {hi T N c sz aB : Nat} {q B : Nat → Nat} {ob F : Nat → Option Nat} {V : Nat → Nat → Nat} {bd : Nat → Nat → Nat} {pt : Nat → Int32} {tb tw : Nat → Nat} {t W : Nat → Nat} {pt' : Int32} {x y : Nat}
    (hP : ∀ i, i < c → h (q i) = some (.inr (6, [va_rf (if i = 0 then none else some (q (i - 1))), va_rf (ob i), .ref (B i), .int (nI i), .int (pt i), .int (nI (tb i)), .int (nI (tw i))])) ∧ h (B i) = some (xp_c D N (V i)))
    (hB1 : ∀ i, i < c → ob i = (gh_top (fun j => gh (V j) ((N + 31) / 32)) (gh (V i) ((N + 31) / 32)) i).map q) (hB2 : ∀ u, u < 128 → F u = (gh_top (fun j => gh (V j) ((N + 31) / 32)) u c).map q)
    (hV : ∀ i, i < c → gp_B N (bd i) (V i)) (hK : ∀ i, i < c → xh_K hi T (q i) ∧ xh_K hi T (B i)) (hlt : ∀ a e, h a = some e → a < sz) (hW : h aB = some (xp_c D N W)) (ht : gp_B N t W) (hKB : xh_K hi T aB) (hKs : xh_K hi T sz) :
    xh_S D (xk_h D h hi sz aB c (if c = 0 then none else some (q (c - 1))) (F (gh W ((N + 31) / 32))) pt' (nI x) (nI y) F (gh W ((N + 31) / 32))) hi T N c (xh_up bd c t) (xh_up pt c pt') (xh_up tb c x) (xh_up tw c y) := by
  have hz : ∀ a e, h a = some e → xh_K hi T a → xk_h D h hi sz aB c (if c = 0 then none else some (q (c - 1))) (F (gh W ((N + 31) / 32))) pt' (nI x) (nI y) F (gh W ((N + 31) / 32)) a = some e := fun a e ha hk => by
    have := hlt a e ha
    have := hk.1
    exact xa_u_ne (xa_u_ne (xa_u_ne ha (by omega)) (by omega)) (by omega)
  have hmap : ∀ (u i : Nat), i ≤ c → (gh_top (fun j => gh (xh_up V c W j) ((N + 31) / 32)) u i).map (xh_up q c sz) = (gh_top (fun j => gh (V j) ((N + 31) / 32)) u i).map q := fun u i hic => by
    rw [gh_top_ext (hs' := fun j => gh (V j) ((N + 31) / 32)) (fun j hj => by show gh (xh_up V c W j) _ = _; rw [xh_up_ne _ _ (by omega)])]
    cases hg : gh_top (fun j => gh (V j) ((N + 31) / 32)) u i with
    | none => rfl
    | some j =>
      have := (gh_top_some hg).1
      show some (xh_up q c sz j) = some (q j)
      rw [xh_up_ne _ _ (by omega)]
  refine ⟨xh_up q c sz, xh_up B c aB, xh_up ob c (F (gh W ((N + 31) / 32))), va_up F (gh W ((N + 31) / 32)) (some sz), xh_up V c W, ?_, xa_u_eq _ _ _, fun i hic => ?_, ⟨fun i hic => ?_, fun u hu => ?_⟩, fun i hic => ?_, fun i hic => ?_⟩
  · rw [xh_up_eq]
    exact xa_u_ne (xa_u_eq _ _ _) (by omega)
  · by_cases hc : i = c
    · subst hc
      rw [xh_up_eq, xh_up_eq, xh_up_eq, xh_up_eq, xh_up_eq, xh_up_eq, xh_up_eq]
      refine ⟨?_, hz _ _ hW hKB⟩
      have e1 : (if i = 0 then none else some (xh_up q i sz (i - 1))) = (if i = 0 then none else some (q (i - 1))) := by
        by_cases h0 : i = 0
        · rw [if_pos h0, if_pos h0]
        · rw [if_neg h0, if_neg h0, xh_up_ne _ _ (by omega)]
      rw [e1]
      have := hKs.1
      exact xa_u_ne (xa_u_ne (xa_u_eq _ _ _) (by omega)) (by omega)
    · rw [xh_up_ne _ _ hc, xh_up_ne _ _ hc, xh_up_ne _ _ hc, xh_up_ne _ _ hc, xh_up_ne _ _ hc, xh_up_ne _ _ hc, xh_up_ne _ _ hc, xh_up_ne _ _ (by omega)]
      exact ⟨hz _ _ (hP i (by omega)).1 (hK i (by omega)).1, hz _ _ (hP i (by omega)).2 (hK i (by omega)).2⟩
  · rw [hmap _ _ hic]
    by_cases hc : i = c
    · subst hc
      rw [xh_up_eq, xh_up_eq]
      exact hB2 _ (gh_lt _ _)
    · rw [xh_up_ne _ _ hc, xh_up_ne _ _ hc]
      exact hB1 i (by omega)
  · unfold gh_top
    show va_up F (gh W ((N + 31) / 32)) (some sz) u = Option.map (xh_up q c sz) (if gh (xh_up V c W c) ((N + 31) / 32) = u then some c else gh_top (fun j => gh (xh_up V c W j) ((N + 31) / 32)) u c)
    rw [xh_up_eq]
    by_cases hg : gh W ((N + 31) / 32) = u
    · rw [if_pos hg]
      show va_up F (gh W ((N + 31) / 32)) (some sz) u = some (xh_up q c sz c)
      rw [xh_up_eq, ← hg]
      exact if_pos rfl
    · rw [if_neg hg, hmap _ _ (Nat.le_refl c), ← hB2 u hu]
      exact if_neg (fun z => hg z.symm)
  · by_cases hc : i = c
    · subst hc
      rw [xh_up_eq, xh_up_eq]
      exact ht
    · rw [xh_up_ne _ _ hc, xh_up_ne _ _ hc]
      exact hV i (by omega)
  · by_cases hc : i = c
    · subst hc
      rw [xh_up_eq, xh_up_eq]
      exact ⟨hKs, hKB⟩
    · rw [xh_up_ne _ _ hc, xh_up_ne _ _ hc]
      exact hK i (by omega)
section HL
variable {l : Launch} {D : va_G} {H0 : Heap} {h : xa_H} {sz : Nat} {R : Room}
theorem xk_hn {hi aB nb : Nat} {bf ob : Option Nat} {pt x y : Int32} {F : Nat → Option Nat} {u a : Nat} (h1 : a < sz) (h2 : a ≠ hi) (h3 : a ≠ hi + 1) : xk_h D h hi sz aB nb bf ob pt x y F u a = h a := xa_u_ne (xa_u_ne (xa_u_ne rfl (by omega)) h2) h3
theorem c_History_addMove {hi T N m p aT ls k : Nat} {bd : Nat → Nat → Nat} {pt : Nat → Int32} {tb tw t W : Nat → Nat} (hS : xh_S D h hi T N m bd pt tb tw) (hW : h aT = some (xp_c D N W)) (ht : gp_B N t W) (hN : N ≤ 169) (hT : T ≤ sz) (hls : ls = 1 ∨ ls = 2) :
    xa_M l D H0 M_History_addMove 3 72 2 13 [.ref hi, .int (nI p), .ref aT, .int (nI ls), .int (nI k)] h sz (fun v h' sz' => v = none ∧ xh_S D h' hi T N (m + 1) (xh_up bd (m + 1) t) (xh_up pt (m + 1) (nI p)) (xh_up tb (m + 1) (tb m + if ls = 1 then k else 0)) (xh_up tw (m + 1) (tw m + if ls = 2 then k else 0)) ∧ (∀ a, a < sz → a ≠ hi → a ≠ hi + 1 → h' a = h a) ∧ sz' = sz + 2) := by
  obtain ⟨q, B, ob, F, V, e1, e2, hP, hB, hV, hK⟩ := hS
  refine xa_enter (by decide) rfl rfl ?_
  refine xa_pre (fun h1 h2 => ?_)
  obtain ⟨p1, p2⟩ := hP m (Nat.le_refl m)
  have l1 := (h2 _ _ e1).2
  have l2 := (h2 _ _ e2).2
  have rest2 : ∀ x y, x = tb m + (if ls = 1 then k else 0) → y = tw m + (if ls = 2 then k else 0) → xa_X l D H0 M_History_addMove (xa_rm 3 2 13 72) (xa_Zr D H0 2 13 (fun v h' sz' => v = none ∧ xh_S D h' hi T N (m + 1) (xh_up bd (m + 1) t) (xh_up pt (m + 1) (nI p)) (xh_up tb (m + 1) (tb m + if ls = 1 then k else 0)) (xh_up tw (m + 1) (tw m + if ls = 2 then k else 0)) ∧ (∀ a, a < sz → a ≠ hi → a ≠ hi + 1 → h' a = h a) ∧ sz' = sz + 2)) 0 0 h sz 42 [(0, .ref hi), (1, .int (nI p)), (2, .ref aT), (3, .int (nI ls)), (4, .int (nI k)), (5, .int (nI x)), (6, .int (nI y))] [] := by
    intro x y hx hy
    refine xa_aload_n d_History_addMove_42 rfl ?_
    refine xa_aload_n d_History_addMove_43 rfl ?_
    refine xa_getf f_History_27 d_History_addMove_44 (by assumption) (by rfl) ?_
    refine xa_aload_n d_History_addMove_47 rfl ?_
    refine xa_clone w_clone d_History_addMove_48 hW (by decide) (Nat.le_of_ble_eq_true rfl) (by decide) (show 0 + (N + 31) / 32 ≤ 13 by omega) ?_
    refine xa_castL w_castL d_History_addMove_51 (xa_u_eq _ _ _) ?_
    refine xa_iload_n d_History_addMove_54 rfl ?_
    refine xa_iload d_History_addMove_55 rfl ?_
    refine xa_iload d_History_addMove_57 rfl ?_
    have f1 : xa_u h sz (xp_c D N W) hi = some (.inr (4, [.ref (q m), .ref (hi + 1)])) := xa_u_ne e1 (by omega)
    have f2 : xa_u h sz (xp_c D N W) (hi + 1) = some (.inl (D.1 103, 128, .inr (.inr (.inr (.inr F))))) := xa_u_ne e2 (by omega)
    have f3 := (h2 _ _ p1).2
    refine xa_callVr (As := [.ref (q m), .ref sz, .int (nI p), .int (nI x), .int (nI y)]) (st := []) d_History_addMove_59 k_History_23 f1 (c_History_keep (bf := some (q m)) (nb := m + 1) f1 f2 (xa_u_eq _ _ _) (by omega) (Or.inr ⟨q m, m, _, _, _, _, _, _, rfl, xa_u_ne p1 (by omega), rfl⟩)) rfl rfl (Nat.le_of_ble_eq_true rfl) ⟨by decide, by decide⟩ (by decide) (show 0 + (N + 31) / 32 + 7 ≤ 13 by omega) ?_
    refine xa_return d_History_addMove_62 rfl (by decide) (show 0 + (N + 31) / 32 + 7 ≤ 13 by omega) ⟨rfl, ?_, fun a h3 h4 h5 => ?_, rfl⟩
    · rw [← hx, ← hy]
      refine xh_keep (c := m + 1) (t := t) (fun i hi' => ⟨xa_u_ne (hP i (by omega)).1 ?_, xa_u_ne (hP i (by omega)).2 ?_⟩) (fun i hi' => hB.1 i (by omega)) hB.2 (fun i hi' => hV i (by omega)) (fun i hi' => hK i (by omega)) (fun a e ha => ?_) (xa_u_eq _ _ _) ht ⟨by omega, by omega⟩ ⟨by omega, by omega⟩
      · have := (h2 _ _ (hP i (by omega)).1).2
        omega
      · have := (h2 _ _ (hP i (by omega)).2).2
        omega
      · by_cases ha' : a = sz
        · omega
        · have ha2 : h a = some e := by rw [← ha]; exact (if_neg ha').symm
          have := (h2 _ _ ha2).2
          omega
    · rw [xk_hn (by omega) h4 h5]
      exact xa_u_ne rfl (by omega)
  have rest : ∀ x, x = tb m + (if ls = 1 then k else 0) → xa_X l D H0 M_History_addMove (xa_rm 3 2 13 72) (xa_Zr D H0 2 13 (fun v h' sz' => v = none ∧ xh_S D h' hi T N (m + 1) (xh_up bd (m + 1) t) (xh_up pt (m + 1) (nI p)) (xh_up tb (m + 1) (tb m + if ls = 1 then k else 0)) (xh_up tw (m + 1) (tw m + if ls = 2 then k else 0)) ∧ (∀ a, a < sz → a ≠ hi → a ≠ hi + 1 → h' a = h a) ∧ sz' = sz + 2)) 0 0 h sz 21 [(0, .ref hi), (1, .int (nI p)), (2, .ref aT), (3, .int (nI ls)), (4, .int (nI k)), (5, .int (nI x))] [] := by
    intro x hx
    refine xa_aload_n d_History_addMove_21 rfl ?_
    refine xa_getf f_History_27 d_History_addMove_22 (by assumption) (by rfl) ?_
    refine xa_getf f_History_52 d_History_addMove_25 (by assumption) (by rfl) ?_
    refine xa_iload_n d_History_addMove_28 rfl ?_
    refine xa_iconst (v := nI 2) d_History_addMove_29 rfl ?_
    refine xa_icmp_neN (tgt := 38) d_History_addMove_30 (by decide) (by omega) (by omega) (fun hl => ?_) (fun hl => ?_)
    ·
      refine xa_iconst (v := nI 0) d_History_addMove_38 rfl ?_
      refine xa_iaddN d_History_addMove_39 ?_
      refine xa_istore d_History_addMove_40 rfl rfl ?_
      exact rest2 x _ hx (by rw [if_neg hl])
    ·
      refine xa_iload d_History_addMove_33 rfl ?_
      refine xa_goto (tgt := 39) d_History_addMove_35 (by decide) ?_
      refine xa_iaddN d_History_addMove_39 ?_
      refine xa_istore d_History_addMove_40 rfl rfl ?_
      exact rest2 x _ hx (by rw [if_pos hl])
  refine xa_aload_n d_History_addMove_0 rfl ?_
  refine xa_getf f_History_27 d_History_addMove_1 (by assumption) (by rfl) ?_
  refine xa_getf f_History_48 d_History_addMove_4 (by assumption) (by rfl) ?_
  refine xa_iload_n d_History_addMove_7 rfl ?_
  refine xa_iconst (v := nI 1) d_History_addMove_8 rfl ?_
  refine xa_icmp_neN (tgt := 17) d_History_addMove_9 (by decide) (by omega) (by omega) (fun hl => ?_) (fun hl => ?_)
  ·
    refine xa_iconst (v := nI 0) d_History_addMove_17 rfl ?_
    refine xa_iaddN d_History_addMove_18 ?_
    refine xa_istore d_History_addMove_19 rfl rfl ?_
    exact rest _ (by rw [if_neg hl])
  ·
    refine xa_iload d_History_addMove_12 rfl ?_
    refine xa_goto (tgt := 18) d_History_addMove_14 (by decide) ?_
    refine xa_iaddN d_History_addMove_18 ?_
    refine xa_istore d_History_addMove_19 rfl rfl ?_
    exact rest _ (by rw [if_pos hl])
theorem c_History_addPass {hi T N m : Nat} {bd : Nat → Nat → Nat} {pt : Nat → Int32} {tb tw : Nat → Nat} (hS : xh_S D h hi T N m bd pt tb tw) (hN : N ≤ 169) (hT : T ≤ sz) :
    xa_M l D H0 M_History_addPass 3 72 1 7 [.ref hi] h sz (fun v h' sz' => v = none ∧ xh_S D h' hi T N (m + 1) (xh_up bd (m + 1) (bd m)) (xh_up pt (m + 1) (-1)) (xh_up tb (m + 1) (tb m)) (xh_up tw (m + 1) (tw m)) ∧ (∀ a, a < sz → a ≠ hi → a ≠ hi + 1 → h' a = h a) ∧ sz' = sz + 1) := by
  obtain ⟨q, B, ob, F, V, e1, e2, hP, hB, hV, hK⟩ := hS
  refine xa_enter (by decide) rfl rfl ?_
  refine xa_pre (fun h1 h2 => ?_)
  obtain ⟨p1, p2⟩ := hP m (Nat.le_refl m)
  have l1 := (h2 _ _ e1).2
  have l2 := (h2 _ _ e2).2
  refine xa_aload_n d_History_addPass_0 rfl ?_
  refine xa_aload_n d_History_addPass_1 rfl ?_
  refine xa_getf f_History_27 d_History_addPass_2 (by assumption) (by rfl) ?_
  refine xa_aload_n d_History_addPass_5 rfl ?_
  refine xa_getf f_History_27 d_History_addPass_6 (by assumption) (by rfl) ?_
  refine xa_getf f_History_31 d_History_addPass_9 (by assumption) (by rfl) ?_
  refine xa_iconst (v := -1) d_History_addPass_12 rfl ?_
  refine xa_aload_n d_History_addPass_13 rfl ?_
  refine xa_getf f_History_27 d_History_addPass_14 (by assumption) (by rfl) ?_
  refine xa_getf f_History_48 d_History_addPass_17 (by assumption) (by rfl) ?_
  refine xa_aload_n d_History_addPass_20 rfl ?_
  refine xa_getf f_History_27 d_History_addPass_21 (by assumption) (by rfl) ?_
  refine xa_getf f_History_52 d_History_addPass_24 (by assumption) (by rfl) ?_
  refine xa_callVr (As := [.ref (q m), .ref (B m), .int (-1), .int (nI (tb m)), .int (nI (tw m))]) (st := []) d_History_addPass_27 k_History_23 e1 (c_History_keep (bf := some (q m)) (nb := m + 1) e1 e2 p2 (by omega) (Or.inr ⟨q m, m, _, _, _, _, _, _, rfl, p1, rfl⟩)) rfl rfl (Nat.le_of_ble_eq_true rfl) ⟨by decide, by decide⟩ (by decide) (by decide) ?_
  refine xa_return d_History_addPass_30 rfl (by decide) (by decide) ⟨rfl, ?_, fun a h3 h4 h5 => xk_hn h3 h4 h5, rfl⟩
  exact xh_keep (c := m + 1) (t := bd m) (fun i hi' => hP i (by omega)) (fun i hi' => hB.1 i (by omega)) hB.2 (fun i hi' => hV i (by omega)) (fun i hi' => hK i (by omega)) (fun a e ha => (h2 _ _ ha).2) p2 (hV m (Nat.le_refl m)) (hK m (Nat.le_refl m)).2 ⟨by omega, by omega⟩
theorem c_History_dropLatest {hi T N m : Nat} {bd : Nat → Nat → Nat} {pt : Nat → Int32} {tb tw : Nat → Nat} (hS : xh_S D h hi T N (m + 1) bd pt tb tw) (hN : N ≤ 169) :
    xa_M l D H0 M_History_dropLatest 2 48 0 0 [.ref hi] h sz (fun v h' sz' => v = none ∧ xh_S D h' hi T N m bd pt tb tw ∧ (∀ a, a ≠ hi → a ≠ hi + 1 → h' a = h a) ∧ sz' = sz) := by
  obtain ⟨q, B, ob, F, V, e1, e2, hP, hB, hV, hK⟩ := hS
  refine xa_enter (by decide) rfl rfl ?_
  obtain ⟨p1, p2⟩ := hP (m + 1) (Nat.le_refl _)
  rw [if_neg (by omega)] at p1
  have hob : ∀ a, ob (m + 1) = some a → ∃ vs, h a = some (.inr (6, vs)) := fun a ha => by
    rw [hB.1 (m + 1) (Nat.le_refl _)] at ha
    cases hg : gh_top (fun j => gh (V j) ((N + 31) / 32)) (gh (V (m + 1)) ((N + 31) / 32)) (m + 1) with
    | none => rw [hg] at ha; cases ha
    | some j =>
      rw [hg] at ha
      cases ha
      have := (gh_top_some hg).1
      exact ⟨_, (hP j (by omega)).1⟩
  refine xa_aload_n d_History_dropLatest_0 rfl ?_
  refine xa_getf f_History_27 d_History_dropLatest_1 (by assumption) (by rfl) ?_
  refine xa_getf f_History_55 d_History_dropLatest_4 (by assumption) (by rfl) ?_
  refine xa_ifnull d_History_dropLatest_7 ?_
  refine xa_aload_n d_History_dropLatest_10 rfl ?_
  refine xa_aload_n d_History_dropLatest_11 rfl ?_
  refine xa_getf f_History_27 d_History_dropLatest_12 (by assumption) (by rfl) ?_
  refine xa_callVr (As := [.ref (q (m + 1))]) (st := []) d_History_dropLatest_15 k_History_44 e1 (c_History_takeOut e1 e2 p1 p2 (by omega) hob) rfl rfl (Nat.le_of_ble_eq_true rfl) ⟨by decide, by decide⟩ (by decide) (by decide) ?_
  have k1 := (hK (m + 1) (Nat.le_refl _)).1
  have f1 : xa_u h (hi + 1) (.inl (D.1 103, 128, .inr (.inr (.inr (.inr (va_up F (gh (V (m + 1)) ((N + 31) / 32)) (ob (m + 1)))))))) hi = some (.inr (4, [.ref (q (m + 1)), .ref (hi + 1)])) := xa_u_ne e1 (by omega)
  have f2 : xa_u h (hi + 1) (.inl (D.1 103, 128, .inr (.inr (.inr (.inr (va_up F (gh (V (m + 1)) ((N + 31) / 32)) (ob (m + 1)))))))) (q (m + 1)) = some (.inr (6, [va_rf (some (q (m + 1 - 1))), va_rf (ob (m + 1)), .ref (B (m + 1)), .int (nI (m + 1)), .int (pt (m + 1)), .int (nI (tb (m + 1))), .int (nI (tw (m + 1)))])) := xa_u_ne p1 (by have := k1.1; omega)
  refine xa_aload_n d_History_dropLatest_18 rfl ?_
  refine xa_aload_n d_History_dropLatest_19 rfl ?_
  refine xa_getf f_History_27 d_History_dropLatest_20 (by assumption) (by rfl) ?_
  refine xa_getf f_History_55 d_History_dropLatest_23 (by assumption) (by rfl) ?_
  refine xa_putf f_History_27 d_History_dropLatest_26 f1 (Nat.le_of_ble_eq_true rfl) rfl rfl ?_
  refine xa_return d_History_dropLatest_29 rfl (by decide) (by decide) ⟨rfl, ?_, fun a h3 h4 => ?_, rfl⟩
  · refine ⟨q, B, ob, va_up F (gh (V (m + 1)) ((N + 31) / 32)) (ob (m + 1)), V, xa_u_eq _ _ _, xa_u_ne (xa_u_eq _ _ _) (by omega), fun i hi' => ?_, ⟨fun i hi' => hB.1 i (by omega), fun u hu => ?_⟩, fun i hi' => hV i (by omega), fun i hi' => hK i (by omega)⟩
    · have k2 := (hK i (by omega)).1.1
      have k3 := (hK i (by omega)).2.1
      exact ⟨xa_u_ne (xa_u_ne (hP i (by omega)).1 (by omega)) (by omega), xa_u_ne (xa_u_ne (hP i (by omega)).2 (by omega)) (by omega)⟩
    · by_cases hu' : u = gh (V (m + 1)) ((N + 31) / 32)
      · rw [hu']
        show (if _ = _ then _ else _) = _
        rw [if_pos rfl]
        exact hB.1 (m + 1) (Nat.le_refl _)
      · show (if u = _ then _ else _) = _
        rw [if_neg hu', hB.2 u hu]
        show Option.map q (if gh (V (m + 1)) ((N + 31) / 32) = u then some (m + 1) else gh_top (fun j => gh (V j) ((N + 31) / 32)) u (m + 1)) = _
        rw [if_neg (fun z => hu' z.symm)]
  · exact xa_u_ne (xa_u_ne rfl h4) h3
theorem c_History_beginWith {hi T N p k : Nat} {bd : Nat → Nat → Nat} {pt : Nat → Int32} {tb tw : Nat → Nat} (hS : xh_S D h hi T N 0 bd pt tb tw) (hN : N ≤ 169) (hT : T ≤ sz) (hp : p < N) (hk : k ≤ 2) :
    xa_M l D H0 M_History_beginWith 3 72 2 13 [.ref hi, .int (nI p), .int (nI k)] h sz (fun v h' sz' => v = none ∧ xh_S D h' hi T N 0 (xh_up bd 0 (fun x => if x = p then k else bd 0 x)) (xh_up pt 0 (-2)) (xh_up tb 0 0) (xh_up tw 0 0) ∧ (∀ a, a < sz → a ≠ hi → a ≠ hi + 1 → h' a = h a) ∧ sz' = sz + 2) := by
  obtain ⟨q, B, ob, F, V, e1, e2, hP, hB, hV, hK⟩ := hS
  refine xa_enter (by decide) rfl rfl ?_
  refine xa_pre (fun h1 h2 => ?_)
  obtain ⟨p1, p2⟩ := hP 0 (Nat.le_refl _)
  have l1 := (h2 _ _ e1).2
  have l2 := (h2 _ _ e2).2
  have l3 := (h2 _ _ p1).2
  have l4 := (h2 _ _ p2).2
  have k1 := (hK 0 (Nat.le_refl _)).1.1
  have k2 := (hK 0 (Nat.le_refl _)).2.1
  have hob : ob 0 = none := hB.1 0 (Nat.le_refl _)
  refine xa_aload_n d_History_beginWith_0 rfl ?_
  refine xa_getf f_History_27 d_History_beginWith_1 (by assumption) (by rfl) ?_
  refine xa_getf f_History_31 d_History_beginWith_4 (by assumption) (by rfl) ?_
  refine xa_clone w_clone d_History_beginWith_7 p2 (by decide) (by decide) (by decide) (show 0 + (N + 31) / 32 ≤ 13 by omega) ?_
  refine xa_castL w_castL d_History_beginWith_10 (xa_u_eq _ _ _) ?_
  refine xa_astore_n d_History_beginWith_13 rfl rfl ?_
  refine xa_aload_n d_History_beginWith_14 rfl ?_
  refine xa_iload_n d_History_beginWith_15 rfl ?_
  refine xa_iload_n d_History_beginWith_16 rfl ?_
  refine xa_callSr (As := [.ref sz, .int (nI p), .int (nI k)]) (st := []) d_History_beginWith_17 k_History_40 (c_Packed_setKind (xa_u_eq _ _ _) (hV 0 (Nat.le_refl _)) hp (by omega) (by omega)) rfl rfl (Nat.le_of_ble_eq_true rfl) ⟨by decide, by decide⟩ (by decide) (show 0 + (N + 31) / 32 + 0 ≤ 13 by omega) ?_
  rw [xa_uu]
  have ht := gp_B_set (hV 0 (Nat.le_refl _)) hp (show k < 4 by omega)
  generalize hWg : (fun i => if i = p / 32 then gp_set (V 0 (p / 32)) (p % 32) k else V 0 i) = W at ht
  have f1 : xa_u h sz (xp_c D N W) hi = some (.inr (4, [.ref (q 0), .ref (hi + 1)])) := xa_u_ne e1 (by omega)
  have f2 : xa_u h sz (xp_c D N W) (hi + 1) = some (.inl (D.1 103, 128, .inr (.inr (.inr (.inr F))))) := xa_u_ne e2 (by omega)
  have f3 : xa_u h sz (xp_c D N W) (q 0) = some (.inr (6, [va_rf (if 0 = 0 then none else some (q (0 - 1))), va_rf (ob 0), .ref (B 0), .int (nI 0), .int (pt 0), .int (nI (tb 0)), .int (nI (tw 0))])) := xa_u_ne p1 (by omega)
  have f4 : xa_u h sz (xp_c D N W) (B 0) = some (xp_c D N (V 0)) := xa_u_ne p2 (by omega)
  refine xa_aload_n d_History_beginWith_20 rfl ?_
  refine xa_aload_n d_History_beginWith_21 rfl ?_
  refine xa_getf f_History_27 d_History_beginWith_22 (by assumption) (by rfl) ?_
  refine xa_callVr (As := [.ref (q 0)]) (st := []) d_History_beginWith_25 k_History_44 f1 (c_History_takeOut f1 f2 f3 f4 (by omega) (fun a ha => by rw [hob] at ha; cases ha)) rfl rfl (Nat.le_of_ble_eq_true rfl) ⟨by decide, by decide⟩ (by decide) (show 0 + (N + 31) / 32 + 0 + 0 ≤ 13 by omega) ?_
  refine xa_aload_n d_History_beginWith_28 rfl ?_
  refine xa_null d_History_beginWith_29 ?_
  refine xa_aload_n d_History_beginWith_30 rfl ?_
  refine xa_bipush (v := -2) d_History_beginWith_31 (by decide) ?_
  refine xa_iconst (v := nI 0) d_History_beginWith_33 rfl ?_
  refine xa_iconst (v := nI 0) d_History_beginWith_34 rfl ?_
  generalize hFg : va_up F (gh (V 0) ((N + 31) / 32)) (ob 0) = F'
  have hF0 : ∀ u, u < 128 → F' u = none := fun u hu => by
    rw [← hFg]
    by_cases hu' : u = gh (V 0) ((N + 31) / 32)
    · rw [hu']
      show (if _ = _ then _ else _) = _
      rw [if_pos rfl]
      exact hob
    · show (if u = _ then _ else _) = _
      rw [if_neg hu', hB.2 u hu]
      show Option.map q (if gh (V 0) ((N + 31) / 32) = u then some 0 else none) = _
      rw [if_neg (fun z => hu' z.symm)]
      rfl
  have g1 : xa_u (xa_u h sz (xp_c D N W)) (hi + 1) (.inl (D.1 103, 128, .inr (.inr (.inr (.inr F'))))) hi = some (.inr (4, [.ref (q 0), .ref (hi + 1)])) := xa_u_ne f1 (by omega)
  have g3 : xa_u (xa_u h sz (xp_c D N W)) (hi + 1) (.inl (D.1 103, 128, .inr (.inr (.inr (.inr F'))))) sz = some (xp_c D N W) := xa_u_ne (xa_u_eq _ _ _) (by omega)
  refine xa_callVr (As := [va_rf none, .ref sz, .int (-2), .int (nI 0), .int (nI 0)]) (st := []) d_History_beginWith_35 k_History_23 g1 (c_History_keep (bf := none) (nb := 0) g1 (xa_u_eq _ _ _) g3 (by omega) (Or.inl ⟨rfl, rfl⟩)) rfl rfl (Nat.le_of_ble_eq_true rfl) ⟨by decide, by decide⟩ (by decide) (show 0 + (N + 31) / 32 + 0 + 0 + 7 ≤ 13 by omega) ?_
  refine xa_return d_History_beginWith_38 rfl (by decide) (show 0 + (N + 31) / 32 + 0 + 0 + 7 ≤ 13 by omega) ⟨rfl, ?_, fun a h3 h4 h5 => ?_, rfl⟩
  · refine xh_keep (c := 0) (q := q) (B := B) (ob := ob) (V := V) (fun i hi' => absurd hi' (Nat.not_lt_zero _)) (fun i hi' => absurd hi' (Nat.not_lt_zero _)) (fun u hu => by rw [hF0 u hu]; rfl) (fun i hi' => absurd hi' (Nat.not_lt_zero _)) (fun i hi' => absurd hi' (Nat.not_lt_zero _)) (fun a e ha => ?_) g3 ht ⟨by omega, by omega⟩ ⟨by omega, by omega⟩
    by_cases ha1 : a = hi + 1
    · omega
    · have ha2 : xa_u h sz (xp_c D N W) a = some e := by rw [← ha]; exact (if_neg ha1).symm
      by_cases ha3 : a = sz
      · omega
      · have ha4 : h a = some e := by rw [← ha2]; exact (if_neg ha3).symm
        have := (h2 _ _ ha4).2
        omega
  · rw [xk_hn (by omega) h4 h5]
    exact xa_u_ne (xa_u_ne rfl (by omega)) h5
theorem c_History_init {hi N : Nat} {T : Nat} (hh : h hi = some (.inr (4, [.null, .null]))) (hs : sz = hi + 1) (hN : N ≤ 169) :
    xa_M l D H0 M_History_init 3 72 3 141 [.ref hi, .int (nI N)] h sz (fun v h' sz' => v = none ∧ xh_S D h' hi T N 0 (fun _ _ => 0) (fun _ => -2) (fun _ => 0) (fun _ => 0) ∧ (∀ a, a < hi → h' a = h a) ∧ sz' = sz + 3) := by
  refine xa_enter (by decide) rfl rfl ?_
  refine xa_pre (fun h1 h2 => ?_)
  subst hs
  refine xa_aload_n d_History_init_0 rfl ?_
  refine xa_objInit k_History_3 w_oi w_oc d_History_init_1 (by decide) (by decide) ?_
  refine xa_aload_n d_History_init_4 rfl ?_
  refine xa_sipush (v := nI 128) d_History_init_5 (by decide) ?_
  refine xa_newq (N := 128) w_cl_pos w_arr_q d_History_init_8 rfl (by decide) (by decide) (Nat.le_of_ble_eq_true rfl) (Nat.le_of_ble_eq_true rfl) ?_
  refine xa_putF f_History_13 rfl (fun q hq => by cases hq; rfl) d_History_init_11 (xa_u_ne hh (by omega)) (Nat.le_of_ble_eq_true rfl) rfl rfl ?_
  refine xa_heap (h' := xa_u (xa_u h (hi + 1) (.inl (D.1 103, 128, .inr (.inr (.inr (.inr (fun _ => none))))))) hi (.inr (4, [.null, .ref (hi + 1)]))) rfl ?_
  refine xa_aload_n d_History_init_14 rfl ?_
  refine xa_null d_History_init_15 ?_
  refine xa_iload_n d_History_init_16 rfl ?_
  refine xa_callSr (As := [.int (nI N)]) (st := [.null, .ref hi]) d_History_init_17 k_History_17 (c_Packed_freeBoard hN) rfl rfl (Nat.le_of_ble_eq_true rfl) ⟨by decide, by decide⟩ (Nat.le_of_ble_eq_true rfl) (Nat.le_of_ble_eq_true rfl) ?_
  refine xa_bipush (v := -2) d_History_init_20 (by decide) ?_
  refine xa_iconst (v := nI 0) d_History_init_22 rfl ?_
  refine xa_iconst (v := nI 0) d_History_init_23 rfl ?_
  generalize hg : xa_u (xa_u h (hi + 1) (.inl (D.1 103, 128, .inr (.inr (.inr (.inr (fun _ => none))))))) hi (.inr (4, [.null, .ref (hi + 1)])) = g
  have g1 : g hi = some (.inr (4, [.null, .ref (hi + 1)])) := by rw [← hg]; exact xa_u_eq _ _ _
  have g2 : g (hi + 1) = some (.inl (D.1 103, 128, .inr (.inr (.inr (.inr (fun _ => none)))))) := by rw [← hg]; exact xa_u_ne (xa_u_eq _ _ _) (by omega)
  have g3 : ∀ a e, g a = some e → a < hi + 2 := fun a e ha => by
    rw [← hg] at ha
    by_cases h5 : a = hi
    · omega
    · by_cases h6 : a = hi + 1
      · omega
      · rw [xa_u_ne (xa_u_ne rfl h6) h5] at ha
        have := (h2 _ _ ha).2
        omega
  refine xa_callVr (As := [va_rf none, .ref (hi + 1 + 1), .int (-2), .int (nI 0), .int (nI 0)]) (st := []) d_History_init_24 k_History_23 (xa_u_ne g1 (by omega)) (c_History_keep (N := N) (V := fun _ => 0) (bf := none) (nb := 0) (xa_u_ne g1 (by omega)) (xa_u_ne g2 (by omega)) (xa_u_eq _ _ _) (by omega) (Or.inl ⟨rfl, rfl⟩)) rfl rfl (Nat.le_of_ble_eq_true rfl) ⟨by decide, by decide⟩ (Nat.le_of_ble_eq_true rfl) (Nat.le_of_ble_eq_true rfl) ?_
  refine xa_return d_History_init_27 rfl (Nat.le_of_ble_eq_true rfl) (Nat.le_of_ble_eq_true rfl) ⟨rfl, ?_, fun a h3 => ?_, by omega⟩
  · have hx := xh_keep (D := D) (h := xa_u g (hi + 1 + 1) (xp_c D N (fun _ => 0))) (hi := hi) (T := T) (N := N) (c := 0) (sz := hi + 1 + 1 + 1) (aB := hi + 1 + 1) (q := fun _ => 0) (B := fun _ => 0) (ob := fun _ => none) (F := fun _ => none) (V := fun _ _ => 0) (bd := fun _ _ => 0) (pt := fun _ => -2) (tb := fun _ => 0) (tw := fun _ => 0) (t := fun _ => 0) (W := fun _ => 0) (pt' := -2) (x := 0) (y := 0)
      (fun i hi' => absurd hi' (Nat.not_lt_zero _)) (fun i hi' => absurd hi' (Nat.not_lt_zero _)) (fun u hu => rfl) (fun i hi' => absurd hi' (Nat.not_lt_zero _)) (fun i hi' => absurd hi' (Nat.not_lt_zero _)) (fun a e ha => by
        by_cases ha1 : a = hi + 1 + 1
        · omega
        · have := g3 a e (by rw [← ha]; exact (if_neg ha1).symm)
          omega) (xa_u_eq _ _ _) (gp_B_0 N) ⟨by omega, by omega⟩ ⟨by omega, by omega⟩
    have u1 : ∀ {α : Type} (x : α), xh_up (fun _ => x) 0 x = fun _ => x := fun x => by
      funext i
      unfold xh_up
      split <;> rfl
    rw [u1, u1, u1] at hx
    exact hx
  · rw [xk_hn (by omega) (by omega) (by omega)]
    rw [← hg]
    exact xa_u_ne (xa_u_ne (xa_u_ne rfl (by omega)) (by omega)) (by omega)
end HL
end
section
/-! Chart: hasStringWithoutBreath, countStrings, countGround; whose a point is (pure part first). -/
theorem gb_cnt_img {P : Nat → Prop} {f : Nat → Nat} {N : Nat} : ∀ c : Nat, (∀ a, a < c → P a → f a < N) → (∀ a a', a < c → a' < c → f a = f a' → a = a') → gb_cnt (fun p => ∃ a, a < c ∧ P a ∧ f a = p) N = gb_cnt P c := by
  intro c
  induction c with
  | zero => intro _ _; exact gb_cnt_0 _ (fun q _ ⟨a, h, _⟩ => by omega)
  | succ c ih =>
    intro h1 h2
    have ih' := ih (fun a ha => h1 a (by omega)) (fun a a' ha ha' => h2 a a' (by omega) (by omega))
    by_cases hP : P c
    · rw [gb_cnt_y hP, ← ih']
      refine gb_cnt_add (x := f c) (fun z => ?_) (fun q => ⟨?_, ?_⟩) N (h1 c (by omega) hP)
      · obtain ⟨a, ha, _, e⟩ := z
        have := h2 a c (by omega) (by omega) e
        omega
      · rintro ⟨a, ha, hp, e⟩
        by_cases hc : a = c
        · subst hc; exact Or.inr e.symm
        · exact Or.inl ⟨a, by omega, hp, e⟩
      · rintro (⟨a, ha, hp, e⟩ | e)
        · exact ⟨a, by omega, hp, e⟩
        · exact ⟨c, by omega, hP, e.symm⟩
    · rw [gb_cnt_n hP, ← ih']
      refine gb_cnt_eq _ (fun q _ => ⟨?_, ?_⟩)
      · rintro ⟨a, ha, hp, e⟩
        by_cases hc : a = c
        · subst hc; exact absurd hp hP
        · exact ⟨a, by omega, hp, e⟩
      · rintro ⟨a, ha, hp, e⟩
        exact ⟨a, by omega, hp, e⟩
/-- p is the least point of its area -/
def gx_lst (n : Nat) (K : Nat → Int32) (p : Nat) : Prop := ∀ q, gb_conn n K p q → p ≤ q
theorem gs_W_lst {n : Nat} {K : Nat → Int32} {c : Nat} {ar o s : Nat → Nat} (h : gs_W n K c ar o s) {p : Nat} (hp : p < n * n) : gx_lst n K p ↔ o (s (ar p)) = p := by
  obtain ⟨a1, a2, a3, a4, a5⟩ := gs_W_area h (h.1 p hp)
  have hc : gb_conn n K (o (s (ar p))) p := (h.2.1 _ _ a3 hp).mp a4
  have hle := h.2.2.2.2.2.2.2.2.2.1 (ar p) (h.1 p hp) p hp rfl
  constructor
  · intro hl
    have := hl _ (gb_conn_sy a3 hc)
    omega
  · intro e q hq
    have hqN := gb_conn_lt hp hq
    have h5 := h.2.2.2.2.2.2.2.2.2.1 (ar p) (h.1 p hp) q hqN ((h.2.1 _ _ hqN hp).mpr (gb_conn_sy hp hq))
    omega
theorem gs_W_cnt {n : Nat} {K : Nat → Int32} {c : Nat} {ar o s : Nat → Nat} (h : gs_W n K c ar o s) (P : Nat → Prop) : gb_cnt (fun a => P (o (s a))) c = gb_cnt (fun p => P p ∧ gx_lst n K p) (n * n) := by
  rw [← gb_cnt_img (f := fun a => o (s a)) (N := n * n) c (fun a ha _ => (gs_W_area h ha).2.2.1) (fun a a' ha ha' e => by
    have e1 := (gs_W_area h ha).2.2.2.1
    have e2 := (gs_W_area h ha').2.2.2.1
    have e3 : o (s a) = o (s a') := e
    rw [← e1, ← e2, e3])]
  refine gb_cnt_eq _ (fun q hq => ⟨?_, ?_⟩)
  · rintro ⟨a, ha, hP, e⟩
    have e' : o (s a) = q := e
    have hP' : P (o (s a)) := hP
    rw [e'] at hP'
    refine ⟨hP', (gs_W_lst h hq).mpr ?_⟩
    rw [← e', (gs_W_area h ha).2.2.2.1]
  · rintro ⟨hP, hl⟩
    have e := (gs_W_lst h hq).mp hl
    exact ⟨ar q, h.1 q hq, by show P (o (s (ar q))); rw [e]; exact hP, e⟩
theorem gb_b_eq {n : Nat} {b : Nat → Nat} {p q : Nat} (hp : p < n * n) (hb : ∀ q, q < n * n → b q ≤ 2) (h : gb_conn n (fun q => nI (b q)) p q) : b q = b p := by
  have e : nI (b q) = nI (b p) := gb_conn_k (k := fun q => nI (b q)) h
  have h5 := hb q (gb_conn_lt hp h)
  have h6 := hb p hp
  exact (nI_eq (by omega) (by omega)).mp e
/-- every stone's string has a breath -/
def gx_br (n : Nat) (b : Nat → Nat) : Prop := ∀ p, p < n * n → b p ≠ 0 → gb_cnt (gt_br n (fun q => nI (b q)) p) (n * n) ≠ 0
/-- whose a point is -/
noncomputable def gx_own (n : Nat) (b : Nat → Nat) (p : Nat) : Nat := if b p = 0 then gc_hold n b p else b p
theorem gc_meet_conn {n : Nat} {b : Nat → Nat} {p q x : Nat} (h : gb_conn n (fun q => nI (b q)) p q) (hm : gc_meet n b q x) : gc_meet n b p x := by
  obtain ⟨r, w, y, h1, h2, h3, h4⟩ := hm
  exact ⟨r, w, y, gb_conn_tr h h1, h2, h3, h4⟩
theorem gc_hold_eq {n : Nat} {b : Nat → Nat} {p q : Nat} (hp : p < n * n) (h : gb_conn n (fun q => nI (b q)) p q) : gc_hold n b q = gc_hold n b p := by
  have e : gc_meet n b q = gc_meet n b p := funext fun x => propext ⟨gc_meet_conn h, gc_meet_conn (gb_conn_sy hp h)⟩
  unfold gc_hold
  rw [e]
theorem gx_own_conn {n : Nat} {b : Nat → Nat} {p q : Nat} (hp : p < n * n) (hb : ∀ q, q < n * n → b q ≤ 2) (h : gb_conn n (fun q => nI (b q)) p q) : gx_own n b q = gx_own n b p := by
  unfold gx_own
  rw [gb_b_eq hp hb h, gc_hold_eq hp h]
theorem gc_hold_le (n : Nat) (b : Nat → Nat) (p : Nat) : gc_hold n b p ≤ 2 := by
  unfold gc_hold
  split
  · omega
  · split <;> omega
theorem gx_own_le {n : Nat} {b : Nat → Nat} {p : Nat} (hp : p < n * n) (hb : ∀ q, q < n * n → b q ≤ 2) : gx_own n b p ≤ 2 := by
  unfold gx_own
  split
  · exact gc_hold_le _ _ _
  · exact hb p hp
section CH2
variable {l : Launch} {D : va_G} {H0 : Heap} {h : xa_H} {sz : Nat} {R : Room}
theorem w_hasString {n ch g aK c : Nat} {f A O S BR : Nat → Int32} {b ar o s : Nat → Nat} (hR : 2 ≤ R.frames ∧ 42 ≤ R.locals) (hr : xq_R D h n ch g aK c f A O S BR b ar o s) (a : Nat) (ha : a ≤ c) (hno : ∀ a', a' < a → b (o (s a')) ≠ 0 → gb_cnt (gt_br n (fun q => nI (b q)) (o (s a'))) (n * n) ≠ 0) :
    xa_X l D H0 M_Chart_hasStringWithoutBreath R (xa_Zr D H0 0 0 (fun v h' sz' => ((v = some (.int 1) ∧ ¬ gx_br n b) ∨ (v = some (.int 0) ∧ gx_br n b)) ∧ h' = h ∧ sz' = sz)) 0 0 h sz 2 [(0, .ref ch), (1, .int (nI a))] [] := by
  obtain ⟨⟨r1, r2, r3, r4, r5, r6, r7, r8, hN, hf, hb⟩, r9, hW, hBR⟩ := id hr
  obtain ⟨w1, w2, w3, w4⟩ := id hW
  have hcN : c ≤ n * n := w1.2.2.2.2.2.2.2.2.2.2
  refine xa_iload_n d_Chart_hasStringWithoutBreath_2 rfl ?_
  refine xa_aload_n d_Chart_hasStringWithoutBreath_3 rfl ?_
  refine xa_getf f_Chart_24 d_Chart_hasStringWithoutBreath_4 (by assumption) (by rfl) ?_
  refine xa_getf f_Chart_59 d_Chart_hasStringWithoutBreath_7 (by assumption) (by rfl) ?_
  refine xa_icmp_geN (tgt := 38) d_Chart_hasStringWithoutBreath_10 (by decide) (by omega) (by omega) (fun hbc => ?_) (fun hbc => ?_)
  ·
    refine xa_iconst (v := nI 0) d_Chart_hasStringWithoutBreath_38 rfl ?_
    refine xa_zreturn (v := nI 0) d_Chart_hasStringWithoutBreath_39 rfl (by decide) (by omega) (by omega) ⟨Or.inr ⟨rfl, fun p hp hp0 => ?_⟩, rfl, rfl⟩
    have hax := w1.1 p hp
    obtain ⟨a1, a2, a3, a4, a5⟩ := gs_W_area w1 hax
    have hcon : gb_conn n (fun q => nI (b q)) (o (s (ar p))) p := (w1.2.1 _ _ a3 hp).mp a4
    have hz := hno (ar p) (by omega) (by rw [← gb_b_eq a3 hb hcon]; exact hp0)
    rw [gb_cnt_eq _ (fun q _ => gt_br_conn a3 hcon q)] at hz
    exact hz
  · obtain ⟨a1, a2, a3, a4, a5⟩ := gs_W_area w1 hbc
    have hle := gb_cnt_le (P := gt_br n (fun q => nI (b q)) (o (s a))) (n * n)
    refine xa_aload_n d_Chart_hasStringWithoutBreath_13 rfl ?_
    refine xa_iload_n d_Chart_hasStringWithoutBreath_14 rfl ?_
    refine xa_callVr (As := [.int (nI a)]) (st := []) d_Chart_hasStringWithoutBreath_15 k_Chart_60 r1 (c_Chart_isFree hr.1 hW hbc) rfl rfl (Nat.le_of_ble_eq_true rfl) ⟨by have := hR.1; show 1 + 1 ≤ _; omega, by have := hR.2; show 8 + (2 + 11) + 21 ≤ _; omega⟩ (by omega) (by omega) ?_
    have again : (b (o (s a)) ≠ 0 → gb_cnt (gt_br n (fun q => nI (b q)) (o (s a))) (n * n) ≠ 0) → xa_X l D H0 M_Chart_hasStringWithoutBreath R (xa_Zr D H0 0 0 (fun v h' sz' => ((v = some (.int 1) ∧ ¬ gx_br n b) ∨ (v = some (.int 0) ∧ gx_br n b)) ∧ h' = h ∧ sz' = sz)) 0 0 h sz 32 [(0, .ref ch), (1, .int (nI a))] [] := by
      intro hz
      refine xa_iincN d_Chart_hasStringWithoutBreath_32 rfl rfl rfl ?_
      refine xa_goto (tgt := 2) d_Chart_hasStringWithoutBreath_35 (by decide) ?_
      refine xa_ls ?_ (w_hasString hR hr (a + 1) (by omega) (fun a' ha' hb' => ?_))
      · exact ⟨rfl, rfl, trivial⟩
      · by_cases he : a' = a
        · subst he; exact hz hb'
        · exact hno a' (by omega) hb'
    by_cases h0 : b (o (s a)) = 0
    · refine xa_int (y := nI 1) (by rw [if_pos h0]; rfl) ?_
      refine xa_if_neN (tgt := 32) d_Chart_hasStringWithoutBreath_18 (by decide) (by omega) (fun hq => ?_) (fun hq => ?_)
      · exact again (fun z => absurd h0 z)
      · omega
    · refine xa_int (y := nI 0) (by rw [if_neg h0]; rfl) ?_
      refine xa_if_neN (tgt := 32) d_Chart_hasStringWithoutBreath_18 (by decide) (by omega) (fun hq => ?_) (fun hq => ?_)
      · omega
      ·
        refine xa_aload_n d_Chart_hasStringWithoutBreath_21 rfl ?_
        refine xa_getf f_Chart_34 d_Chart_hasStringWithoutBreath_22 (by assumption) (by rfl) ?_
        refine xa_iload_n d_Chart_hasStringWithoutBreath_25 rfl ?_
        refine xa_ialdE d_Chart_hasStringWithoutBreath_26 r9 rfl (show a < n * n by omega) (by omega) (hBR a hbc h0) ?_
        refine xa_if_neN (tgt := 32) d_Chart_hasStringWithoutBreath_27 (by decide) (by omega) (fun hq2 => ?_) (fun hq2 => ?_)
        · exact again (fun _ => by omega)
        ·
          refine xa_iconst (v := nI 1) d_Chart_hasStringWithoutBreath_30 rfl ?_
          exact xa_zreturn (v := nI 1) d_Chart_hasStringWithoutBreath_31 rfl (by decide) (by omega) (by omega) ⟨Or.inl ⟨rfl, fun z => z _ a3 h0 hq2⟩, rfl, rfl⟩
termination_by c - a
decreasing_by omega
theorem c_Chart_hasString {n ch g aK c : Nat} {f A O S BR : Nat → Int32} {b ar o s : Nat → Nat} (hr : xq_R D h n ch g aK c f A O S BR b ar o s) :
    xa_M l D H0 M_Chart_hasStringWithoutBreath 2 42 0 0 [.ref ch] h sz (fun v h' sz' => ((v = some (.int 1) ∧ ¬ gx_br n b) ∨ (v = some (.int 0) ∧ gx_br n b)) ∧ h' = h ∧ sz' = sz) := by
  refine xa_enter (by decide) rfl rfl ?_
  refine xa_iconst (v := nI 0) d_Chart_hasStringWithoutBreath_0 rfl ?_
  refine xa_istore_n d_Chart_hasStringWithoutBreath_1 rfl rfl ?_
  refine xa_ls ?_ (w_hasString ⟨by decide, by decide⟩ hr 0 (by omega) (fun a' ha' => by omega))
  exact ⟨rfl, rfl, trivial⟩
theorem w_countStrings {n ch g aK c sd : Nat} {f A O S BR HO : Nat → Int32} {b ar o s : Nat → Nat} (hR : 2 ≤ R.frames ∧ 42 ≤ R.locals) (hr : xq_R D h n ch g aK c f A O S BR b ar o s) (hH : h (ch + 7) = some (.inl (D.1 100, n * n, .inl HO))) (hHO : ∀ a, a < c → HO a = nI (gx_own n b (o (s a)))) (hsd : sd = 1 ∨ sd = 2) (a : Nat) (ha : a ≤ c) :
    xa_X l D H0 M_Chart_countStrings R (xa_Zr D H0 0 0 (fun v h' sz' => v = some (.int (nI (gb_cnt (fun p => b p = sd ∧ gx_lst n (fun q => nI (b q)) p) (n * n)))) ∧ h' = h ∧ sz' = sz)) 0 0 h sz 4 [(0, .ref ch), (1, .int (nI sd)), (2, .int (nI (gb_cnt (fun a => b (o (s a)) = sd) a))), (3, .int (nI a))] [] := by
  obtain ⟨⟨r1, r2, r3, r4, r5, r6, r7, r8, hN, hf, hb⟩, r9, hW, hBR⟩ := id hr
  obtain ⟨w1, w2, w3, w4⟩ := id hW
  have hcN : c ≤ n * n := w1.2.2.2.2.2.2.2.2.2.2
  refine xa_iload_n d_Chart_countStrings_4 rfl ?_
  refine xa_aload_n d_Chart_countStrings_5 rfl ?_
  refine xa_getf f_Chart_24 d_Chart_countStrings_6 (by assumption) (by rfl) ?_
  refine xa_getf f_Chart_59 d_Chart_countStrings_9 (by assumption) (by rfl) ?_
  refine xa_icmp_geN (tgt := 42) d_Chart_countStrings_12 (by decide) (by omega) (by omega) (fun hbc => ?_) (fun hbc => ?_)
  · have hac : a = c := by omega
    subst hac
    refine xa_iload_n d_Chart_countStrings_42 rfl ?_
    exact xa_ireturn d_Chart_countStrings_43 rfl (by omega) (by omega) ⟨by rw [gs_W_cnt w1 (fun p => b p = sd)], rfl, rfl⟩
  · obtain ⟨a1, a2, a3, a4, a5⟩ := gs_W_area w1 hbc
    have hown := gx_own_le a3 hb
    refine xa_aload_n d_Chart_countStrings_15 rfl ?_
    refine xa_iload_n d_Chart_countStrings_16 rfl ?_
    refine xa_callVr (As := [.int (nI a)]) (st := []) d_Chart_countStrings_17 k_Chart_60 r1 (c_Chart_isFree hr.1 hW hbc) rfl rfl (Nat.le_of_ble_eq_true rfl) ⟨by have := hR.1; show 1 + 1 ≤ _; omega, by have := hR.2; show 8 + (2 + 11) + 21 ≤ _; omega⟩ (by omega) (by omega) ?_
    have no : b (o (s a)) ≠ sd → xa_X l D H0 M_Chart_countStrings R (xa_Zr D H0 0 0 (fun v h' sz' => v = some (.int (nI (gb_cnt (fun p => b p = sd ∧ gx_lst n (fun q => nI (b q)) p) (n * n)))) ∧ h' = h ∧ sz' = sz)) 0 0 h sz 36 [(0, .ref ch), (1, .int (nI sd)), (2, .int (nI (gb_cnt (fun a => b (o (s a)) = sd) a))), (3, .int (nI a))] [] := by
      intro hz
      refine xa_iincN d_Chart_countStrings_36 rfl rfl rfl ?_
      refine xa_goto (tgt := 4) d_Chart_countStrings_39 (by decide) ?_
      refine xa_ls ?_ (w_countStrings hR hr hH hHO hsd (a + 1) (by omega))
      exact ⟨rfl, rfl, by rw [gb_cnt_n (P := fun a => b (o (s a)) = sd) hz]; rfl, rfl, trivial⟩
    by_cases h0 : b (o (s a)) = 0
    · refine xa_int (y := nI 1) (by rw [if_pos h0]; rfl) ?_
      refine xa_if_neN (tgt := 36) d_Chart_countStrings_20 (by decide) (by omega) (fun hq => ?_) (fun hq => ?_)
      · exact no (by omega)
      · omega
    · refine xa_int (y := nI 0) (by rw [if_neg h0]; rfl) ?_
      refine xa_if_neN (tgt := 36) d_Chart_countStrings_20 (by decide) (by omega) (fun hq => ?_) (fun hq => ?_)
      · omega
      · have hx : gx_own n b (o (s a)) = b (o (s a)) := if_neg h0
        refine xa_aload_n d_Chart_countStrings_23 rfl ?_
        refine xa_getf f_Chart_40 d_Chart_countStrings_24 (by assumption) (by rfl) ?_
        refine xa_iload_n d_Chart_countStrings_27 rfl ?_
        refine xa_ialdE d_Chart_countStrings_28 hH rfl (show a < n * n by omega) (by omega) (hHO a hbc) ?_
        refine xa_iload_n d_Chart_countStrings_29 rfl ?_
        refine xa_icmp_neN (tgt := 36) d_Chart_countStrings_30 (by decide) (by omega) (by omega) (fun hq2 => ?_) (fun hq2 => ?_)
        · exact no (by rw [← hx]; exact hq2)
        ·
          refine xa_iincN d_Chart_countStrings_33 rfl rfl rfl ?_
          refine xa_iincN d_Chart_countStrings_36 rfl rfl rfl ?_
          refine xa_goto (tgt := 4) d_Chart_countStrings_39 (by decide) ?_
          refine xa_ls ?_ (w_countStrings hR hr hH hHO hsd (a + 1) (by omega))
          exact ⟨rfl, rfl, by rw [gb_cnt_y (P := fun a => b (o (s a)) = sd) (by rw [← hx]; exact hq2)]; rfl, rfl, trivial⟩
termination_by c - a
decreasing_by all_goals omega
theorem c_Chart_countStrings {n ch g aK c sd : Nat} {f A O S BR HO : Nat → Int32} {b ar o s : Nat → Nat} (hr : xq_R D h n ch g aK c f A O S BR b ar o s) (hH : h (ch + 7) = some (.inl (D.1 100, n * n, .inl HO))) (hHO : ∀ a, a < c → HO a = nI (gx_own n b (o (s a)))) (hsd : sd = 1 ∨ sd = 2) :
    xa_M l D H0 M_Chart_countStrings 2 42 0 0 [.ref ch, .int (nI sd)] h sz (fun v h' sz' => v = some (.int (nI (gb_cnt (fun p => b p = sd ∧ gx_lst n (fun q => nI (b q)) p) (n * n)))) ∧ h' = h ∧ sz' = sz) := by
  refine xa_enter (by decide) rfl rfl ?_
  refine xa_iconst (v := nI 0) d_Chart_countStrings_0 rfl ?_
  refine xa_istore_n d_Chart_countStrings_1 rfl rfl ?_
  refine xa_iconst (v := nI 0) d_Chart_countStrings_2 rfl ?_
  refine xa_istore_n d_Chart_countStrings_3 rfl rfl ?_
  refine xa_ls ?_ (w_countStrings ⟨by decide, by decide⟩ hr hH hHO hsd 0 (by omega))
  exact ⟨rfl, rfl, rfl, rfl, trivial⟩
theorem w_countGround {n ch g aK c sd : Nat} {f A O S BR HO : Nat → Int32} {b ar o s : Nat → Nat} (hR : 1 ≤ R.frames ∧ 21 ≤ R.locals) (hr : xq_R D h n ch g aK c f A O S BR b ar o s) (hH : h (ch + 7) = some (.inl (D.1 100, n * n, .inl HO))) (hHO : ∀ a, a < c → HO a = nI (gx_own n b (o (s a)))) (hsd : sd ≤ 2) (a : Nat) (ha : a ≤ c) :
    xa_X l D H0 M_Chart_countGround R (xa_Zr D H0 0 0 (fun v h' sz' => v = some (.int (nI (gb_cnt (fun p => gx_own n b p = sd) (n * n)))) ∧ h' = h ∧ sz' = sz)) 0 0 h sz 4 [(0, .ref ch), (1, .int (nI sd)), (2, .int (nI (gb_cnt (fun p => ar p < a ∧ gx_own n b p = sd) (n * n)))), (3, .int (nI a))] [] := by
  obtain ⟨⟨r1, r2, r3, r4, r5, r6, r7, r8, hN, hf, hb⟩, r9, hW, hBR⟩ := id hr
  obtain ⟨w1, w2, w3, w4⟩ := id hW
  have hcN : c ≤ n * n := w1.2.2.2.2.2.2.2.2.2.2
  refine xa_iload_n d_Chart_countGround_4 rfl ?_
  refine xa_aload_n d_Chart_countGround_5 rfl ?_
  refine xa_getf f_Chart_24 d_Chart_countGround_6 (by assumption) (by rfl) ?_
  refine xa_getf f_Chart_59 d_Chart_countGround_9 (by assumption) (by rfl) ?_
  refine xa_icmp_geN (tgt := 42) d_Chart_countGround_12 (by decide) (by omega) (by omega) (fun hbc => ?_) (fun hbc => ?_)
  · have hac : a = c := by omega
    subst hac
    refine xa_iload_n d_Chart_countGround_42 rfl ?_
    exact xa_ireturn d_Chart_countGround_43 rfl (by omega) (by omega) ⟨by rw [gb_cnt_eq _ (fun q hq => ⟨fun z => z.2, fun z => ⟨w1.1 q hq, z⟩⟩)], rfl, rfl⟩
  · obtain ⟨a1, a2, a3, a4, a5⟩ := gs_W_area w1 hbc
    have hown := gx_own_le a3 hb
    have hse := gs_W_size w1 hbc
    have hlt := w1.2.2.2.2.2.2.2.1 a hbc
    have hin : ∀ q, q < n * n → ar q = a → gx_own n b q = gx_own n b (o (s a)) := fun q hq he => gx_own_conn a3 hb ((w1.2.1 _ _ a3 hq).mp (by rw [a4, he]))
    refine xa_aload_n d_Chart_countGround_15 rfl ?_
    refine xa_getf f_Chart_40 d_Chart_countGround_16 (by assumption) (by rfl) ?_
    refine xa_iload_n d_Chart_countGround_19 rfl ?_
    refine xa_ialdE d_Chart_countGround_20 hH rfl (show a < n * n by omega) (by omega) (hHO a hbc) ?_
    refine xa_iload_n d_Chart_countGround_21 rfl ?_
    refine xa_icmp_neN (tgt := 36) d_Chart_countGround_22 (by decide) (by omega) (by omega) (fun hq2 => ?_) (fun hq2 => ?_)
    ·
      refine xa_iincN d_Chart_countGround_36 rfl rfl rfl ?_
      refine xa_goto (tgt := 4) d_Chart_countGround_39 (by decide) ?_
      refine xa_ls ?_ (w_countGround hR hr hH hHO hsd (a + 1) (by omega))
      suffices e : gb_cnt (fun p => ar p < a ∧ gx_own n b p = sd) (n * n) = gb_cnt (fun p => ar p < a + 1 ∧ gx_own n b p = sd) (n * n) from ⟨rfl, rfl, by rw [e]; rfl, rfl, trivial⟩
      refine gb_cnt_eq _ (fun q hq => ?_)
      constructor
      · exact fun z => ⟨by omega, z.2⟩
      · intro z
        refine ⟨?_, z.2⟩
        by_cases he : ar q = a
        · exact absurd ((hin q hq he).symm.trans z.2) hq2
        · omega
    ·
      refine xa_iload_n d_Chart_countGround_25 rfl ?_
      refine xa_aload_n d_Chart_countGround_26 rfl ?_
      refine xa_getf f_Chart_24 d_Chart_countGround_27 (by assumption) (by rfl) ?_
      refine xa_iload_n d_Chart_countGround_30 rfl ?_
      refine xa_callVr (As := [.int (nI a)]) (st := [.int (nI (gb_cnt (fun p => ar p < a ∧ gx_own n b p = sd) (n * n)))]) d_Chart_countGround_31 k_Chart_75 r2 (c_Areas_sizeOf (s := s) r2 r5 hN (by omega) (w4 a (by omega)) (w4 (a + 1) (by omega)) (by omega)) rfl rfl (Nat.le_of_ble_eq_true rfl) ⟨hR.1, hR.2⟩ (by omega) (by omega) ?_
      refine xa_iaddN d_Chart_countGround_34 ?_
      refine xa_istore_n d_Chart_countGround_35 rfl rfl ?_
      refine xa_iincN d_Chart_countGround_36 rfl rfl rfl ?_
      refine xa_goto (tgt := 4) d_Chart_countGround_39 (by decide) ?_
      refine xa_ls ?_ (w_countGround hR hr hH hHO hsd (a + 1) (by omega))
      suffices e : gb_cnt (fun p => ar p < a + 1 ∧ gx_own n b p = sd) (n * n) = gb_cnt (fun p => ar p < a ∧ gx_own n b p = sd) (n * n) + (s (a + 1) - s a) from ⟨rfl, rfl, by rw [e]; rfl, rfl, trivial⟩
      rw [← hse, ← gb_cnt_or (P := fun p => ar p < a ∧ gx_own n b p = sd) (P' := gb_conn n (fun q => nI (b q)) (o (s a)))]
      rotate_left
      · rintro q hq ⟨z1, z2⟩
        have := (w1.2.1 _ _ a3 hq).mpr z2
        omega
      · refine gb_cnt_eq _ (fun q hq => ?_)
        constructor
        · intro z
          by_cases he : ar q = a
          · exact Or.inr ((w1.2.1 _ _ a3 hq).mp (by rw [a4, he]))
          · exact Or.inl ⟨by omega, z.2⟩
        · rintro (z | z)
          · exact ⟨by omega, z.2⟩
          · have he := (w1.2.1 _ _ a3 hq).mpr z
            exact ⟨by omega, by rw [hin q hq (by omega)]; exact hq2⟩
termination_by c - a
decreasing_by all_goals omega
theorem c_Chart_countGround {n ch g aK c sd : Nat} {f A O S BR HO : Nat → Int32} {b ar o s : Nat → Nat} (hr : xq_R D h n ch g aK c f A O S BR b ar o s) (hH : h (ch + 7) = some (.inl (D.1 100, n * n, .inl HO))) (hHO : ∀ a, a < c → HO a = nI (gx_own n b (o (s a)))) (hsd : sd ≤ 2) :
    xa_M l D H0 M_Chart_countGround 1 21 0 0 [.ref ch, .int (nI sd)] h sz (fun v h' sz' => v = some (.int (nI (gb_cnt (fun p => gx_own n b p = sd) (n * n)))) ∧ h' = h ∧ sz' = sz) := by
  refine xa_enter (by decide) rfl rfl ?_
  refine xa_iconst (v := nI 0) d_Chart_countGround_0 rfl ?_
  refine xa_istore_n d_Chart_countGround_1 rfl rfl ?_
  refine xa_iconst (v := nI 0) d_Chart_countGround_2 rfl ?_
  refine xa_istore_n d_Chart_countGround_3 rfl rfl ?_
  refine xa_ls ?_ (w_countGround ⟨by decide, by decide⟩ hr hH hHO hsd 0 (by omega))
  exact ⟨rfl, rfl, by rw [gb_cnt_0 _ (fun q _ z => Nat.not_lt_zero _ z.1)]; rfl, rfl, trivial⟩
end CH2
end
section
/-! Grid(), Areas(), Chart(), Trial(). -/
def xg_h (D : va_G) (h : xa_H) (g N : Nat) (f : Nat → Int32) : xa_H := xa_u (xa_u h g (.inr (3, [.int (nI N), .ref (g + 1)]))) (g + 1) (.inl (D.1 100, 4 * N, .inl f))
theorem xg_u (D : va_G) (h : xa_H) (g N : Nat) (f f' : Nat → Int32) : xa_u (xg_h D h g N f) (g + 1) (.inl (D.1 100, 4 * N, .inl f')) = xg_h D h g N f' := xa_uu _ _ _ _
def xg_I (n k : Nat) (f : Nat → Int32) : Prop := ∀ q w, q < k → w < 4 → f (4 * q + w) = gb_oi (gb_nb n q w)
theorem xg_I_add {n k : Nat} {f : Nat → Int32} (h : xg_I n k f) : xg_I n (k + 1) (upd (upd (upd (upd f (4 * k) (gb_oi (gb_nb n k 0))) (4 * k + 1) (gb_oi (gb_nb n k 1))) (4 * k + 2) (gb_oi (gb_nb n k 2))) (4 * k + 3) (gb_oi (gb_nb n k 3))) := by
  intro q w hq hw
  unfold upd
  by_cases hk : q = k
  · subst hk
    rcases (show w = 0 ∨ w = 1 ∨ w = 2 ∨ w = 3 by omega) with e | e | e | e <;> subst e
    · rw [if_neg (by omega), if_neg (by omega), if_neg (by omega), if_pos (by omega)]
    · rw [if_neg (by omega), if_neg (by omega), if_pos (by omega)]
    · rw [if_neg (by omega), if_pos (by omega)]
    · rw [if_pos (by omega)]
  · rw [if_neg (by omega), if_neg (by omega), if_neg (by omega), if_neg (by omega)]
    exact h q w (by omega) hw
section GI
variable {l : Launch} {D : va_G} {H0 : Heap} {h : xa_H} {sz : Nat} {R : Room} {Z : xa_Z} {k0 n0 : Nat}
theorem w_Grid_row {n g r : Nat} (hn : 2 ≤ n ∧ n ≤ 13) (hr : r < n) (c : Nat) (hc : c ≤ n) (f : Nat → Int32) (hI : xg_I n (n * r + c) f)
    (kk : ∀ (f : Nat → Int32) (ls : List (Nat × Value)), xg_I n (n * r + n) f → xa_lk ls 0 = some (.ref g) → xa_lk ls 1 = some (.int (nI n)) → xa_lk ls 2 = some (.int (nI r)) → xa_X l D H0 M_Grid_init R Z k0 n0 (xg_h D h g (n * n) f) sz 144 ls []) :
    xa_X l D H0 M_Grid_init R Z k0 n0 (xg_h D h g (n * n) f) sz 32 [(0, .ref g), (1, .int (nI n)), (2, .int (nI r)), (3, .int (nI c))] [] := by
  have hN : n * n ≤ 169 := Nat.mul_le_mul hn.2 hn.2
  have r0 : ∀ f, xg_h D h g (n * n) f g = some (.inr (3, [.int (nI (n * n)), .ref (g + 1)])) := fun f => xa_u_ne (xa_u_eq _ _ _) (by omega)
  have r1 : ∀ f, xg_h D h g (n * n) f (g + 1) = some (.inl (D.1 100, 4 * (n * n), .inl f)) := fun f => xa_u_eq _ _ _
  have r0' := r0 f
  refine xa_iload_n d_Grid_init_32 rfl ?_
  refine xa_iload_n d_Grid_init_33 rfl ?_
  refine xa_icmp_geN (tgt := 144) d_Grid_init_34 (by decide) (by omega) (by omega) (fun hb => ?_) (fun hb => ?_)
  · have hcn : c = n := by omega
    subst hcn
    exact kk f _ hI rfl rfl rfl
  · have hp := gb_lt hr hb
    obtain ⟨d1, d2⟩ := gb_dm (r := r) hb
    have e0 : gb_nb n (n * r + c) 0 = if 0 < r then some (n * r + c - n) else none := by unfold gb_nb; rw [if_pos rfl, d1]
    have e1 : gb_nb n (n * r + c) 1 = if 0 < c then some (n * r + c - 1) else none := by unfold gb_nb; rw [if_neg (by decide), if_pos rfl, d2]
    have e2 : gb_nb n (n * r + c) 2 = if c < n - 1 then some (n * r + c + 1) else none := by unfold gb_nb; rw [if_neg (by decide), if_neg (by decide), if_pos rfl, d2]
    have e3 : gb_nb n (n * r + c) 3 = if r < n - 1 then some (n * r + c + n) else none := by unfold gb_nb; rw [if_neg (by decide), if_neg (by decide), if_neg (by decide), d1]
    have hnr : 0 < r → n ≤ n * r := fun h0 => Nat.le_mul_of_pos_right n h0
    have hadd := xg_I_add hI
    have hk1 : n * r + (c + 1) = n * r + c + 1 := rfl
    generalize hpe : n * r + c = p at hp e0 e1 e2 e3 hadd
    have k3 : ∀ f, xg_I n (p + 1) (upd f (4 * p + 3) (gb_oi (gb_nb n p 3))) → xa_X l D H0 M_Grid_init R Z k0 n0 (xg_h D h g (n * n) f) sz 114 [(0, .ref g), (1, .int (nI n)), (2, .int (nI r)), (3, .int (nI c)), (4, .int (nI p)), (5, .int (nI (4 * p)))] [] := by
      intro f hf
      have r0' := r0 f
      have last : xa_X l D H0 M_Grid_init R Z k0 n0 (xg_h D h g (n * n) f) sz 137 [(0, .ref g), (1, .int (nI n)), (2, .int (nI r)), (3, .int (nI c)), (4, .int (nI p)), (5, .int (nI (4 * p)))] [.int (gb_oi (gb_nb n p 3)), .int (nI (4 * p + 3)), .ref (g + 1)] := by
        refine xa_iastE d_Grid_init_137 (r1 f) rfl (by omega) (by omega) ?_
        refine xa_heap (xg_u _ _ _ _ _ _) ?_
        refine xa_iincN d_Grid_init_138 rfl rfl rfl ?_
        refine xa_goto (tgt := 32) d_Grid_init_141 (by decide) ?_
        refine xa_ls ?_ (w_Grid_row hn hr (c + 1) (by omega) _ (by rw [hk1, hpe]; exact hf) kk)
        exact ⟨rfl, rfl, rfl, rfl, trivial⟩
      refine xa_aload_n d_Grid_init_114 rfl ?_
      refine xa_getf f_Grid_15 d_Grid_init_115 (by assumption) (by rfl) ?_
      refine xa_iload d_Grid_init_118 rfl ?_
      refine xa_iconst (v := nI 3) d_Grid_init_120 rfl ?_
      refine xa_iaddN d_Grid_init_121 ?_
      refine xa_iload_n d_Grid_init_122 rfl ?_
      refine xa_iload_n d_Grid_init_123 rfl ?_
      refine xa_iconst (v := nI 1) d_Grid_init_124 rfl ?_
      refine xa_isubN d_Grid_init_125 (by omega) ?_
      refine xa_icmp_geN (tgt := 136) d_Grid_init_126 (by decide) (by omega) (by omega) (fun hq => ?_) (fun hq => ?_)
      ·
        refine xa_iconst (v := -1) d_Grid_init_136 rfl ?_
        refine xa_int (y := gb_oi (gb_nb n p 3)) (by rw [e3, if_neg (by omega)]; rfl) ?_
        exact last
      ·
        refine xa_iload d_Grid_init_129 rfl ?_
        refine xa_iload_n d_Grid_init_131 rfl ?_
        refine xa_iaddN d_Grid_init_132 ?_
        refine xa_goto (tgt := 137) d_Grid_init_133 (by decide) ?_
        refine xa_int (y := gb_oi (gb_nb n p 3)) (by rw [e3, if_pos (by omega)]; rfl) ?_
        exact last
    have k2 : ∀ f, xg_I n (p + 1) (upd (upd f (4 * p + 2) (gb_oi (gb_nb n p 2))) (4 * p + 3) (gb_oi (gb_nb n p 3))) → xa_X l D H0 M_Grid_init R Z k0 n0 (xg_h D h g (n * n) f) sz 90 [(0, .ref g), (1, .int (nI n)), (2, .int (nI r)), (3, .int (nI c)), (4, .int (nI p)), (5, .int (nI (4 * p)))] [] := by
      intro f hf
      have r0' := r0 f
      have last : xa_X l D H0 M_Grid_init R Z k0 n0 (xg_h D h g (n * n) f) sz 113 [(0, .ref g), (1, .int (nI n)), (2, .int (nI r)), (3, .int (nI c)), (4, .int (nI p)), (5, .int (nI (4 * p)))] [.int (gb_oi (gb_nb n p 2)), .int (nI (4 * p + 2)), .ref (g + 1)] := by
        refine xa_iastE d_Grid_init_113 (r1 f) rfl (by omega) (by omega) ?_
        refine xa_heap (xg_u _ _ _ _ _ _) ?_
        exact k3 _ hf
      refine xa_aload_n d_Grid_init_90 rfl ?_
      refine xa_getf f_Grid_15 d_Grid_init_91 (by assumption) (by rfl) ?_
      refine xa_iload d_Grid_init_94 rfl ?_
      refine xa_iconst (v := nI 2) d_Grid_init_96 rfl ?_
      refine xa_iaddN d_Grid_init_97 ?_
      refine xa_iload_n d_Grid_init_98 rfl ?_
      refine xa_iload_n d_Grid_init_99 rfl ?_
      refine xa_iconst (v := nI 1) d_Grid_init_100 rfl ?_
      refine xa_isubN d_Grid_init_101 (by omega) ?_
      refine xa_icmp_geN (tgt := 112) d_Grid_init_102 (by decide) (by omega) (by omega) (fun hq => ?_) (fun hq => ?_)
      ·
        refine xa_iconst (v := -1) d_Grid_init_112 rfl ?_
        refine xa_int (y := gb_oi (gb_nb n p 2)) (by rw [e2, if_neg (by omega)]; rfl) ?_
        exact last
      ·
        refine xa_iload d_Grid_init_105 rfl ?_
        refine xa_iconst (v := nI 1) d_Grid_init_107 rfl ?_
        refine xa_iaddN d_Grid_init_108 ?_
        refine xa_goto (tgt := 113) d_Grid_init_109 (by decide) ?_
        refine xa_int (y := gb_oi (gb_nb n p 2)) (by rw [e2, if_pos (by omega)]; rfl) ?_
        exact last
    have k1 : ∀ f, xg_I n (p + 1) (upd (upd (upd f (4 * p + 1) (gb_oi (gb_nb n p 1))) (4 * p + 2) (gb_oi (gb_nb n p 2))) (4 * p + 3) (gb_oi (gb_nb n p 3))) → xa_X l D H0 M_Grid_init R Z k0 n0 (xg_h D h g (n * n) f) sz 69 [(0, .ref g), (1, .int (nI n)), (2, .int (nI r)), (3, .int (nI c)), (4, .int (nI p)), (5, .int (nI (4 * p)))] [] := by
      intro f hf
      have r0' := r0 f
      have last : xa_X l D H0 M_Grid_init R Z k0 n0 (xg_h D h g (n * n) f) sz 89 [(0, .ref g), (1, .int (nI n)), (2, .int (nI r)), (3, .int (nI c)), (4, .int (nI p)), (5, .int (nI (4 * p)))] [.int (gb_oi (gb_nb n p 1)), .int (nI (4 * p + 1)), .ref (g + 1)] := by
        refine xa_iastE d_Grid_init_89 (r1 f) rfl (by omega) (by omega) ?_
        refine xa_heap (xg_u _ _ _ _ _ _) ?_
        exact k2 _ hf
      refine xa_aload_n d_Grid_init_69 rfl ?_
      refine xa_getf f_Grid_15 d_Grid_init_70 (by assumption) (by rfl) ?_
      refine xa_iload d_Grid_init_73 rfl ?_
      refine xa_iconst (v := nI 1) d_Grid_init_75 rfl ?_
      refine xa_iaddN d_Grid_init_76 ?_
      refine xa_iload_n d_Grid_init_77 rfl ?_
      refine xa_if_leN (tgt := 88) d_Grid_init_78 (by decide) (by omega) (fun hq => ?_) (fun hq => ?_)
      ·
        refine xa_iconst (v := -1) d_Grid_init_88 rfl ?_
        refine xa_int (y := gb_oi (gb_nb n p 1)) (by rw [e1, if_neg (by omega)]; rfl) ?_
        exact last
      ·
        refine xa_iload d_Grid_init_81 rfl ?_
        refine xa_iconst (v := nI 1) d_Grid_init_83 rfl ?_
        refine xa_isubN d_Grid_init_84 (by omega) ?_
        refine xa_goto (tgt := 89) d_Grid_init_85 (by decide) ?_
        refine xa_int (y := gb_oi (gb_nb n p 1)) (by rw [e1, if_pos (by omega)]; rfl) ?_
        exact last
    have last : xa_X l D H0 M_Grid_init R Z k0 n0 (xg_h D h g (n * n) f) sz 68 [(0, .ref g), (1, .int (nI n)), (2, .int (nI r)), (3, .int (nI c)), (4, .int (nI p)), (5, .int (nI (4 * p)))] [.int (gb_oi (gb_nb n p 0)), .int (nI (4 * p)), .ref (g + 1)] := by
      refine xa_iastE d_Grid_init_68 (r1 f) rfl (by omega) (by omega) ?_
      refine xa_heap (xg_u _ _ _ _ _ _) ?_
      exact k1 _ hadd
    refine xa_iload_n d_Grid_init_37 rfl ?_
    refine xa_iload_n d_Grid_init_38 rfl ?_
    refine xa_imulN d_Grid_init_39 ?_
    refine xa_iload_n d_Grid_init_40 rfl ?_
    refine xa_iaddN d_Grid_init_41 ?_
    rw [hpe]
    refine xa_istore d_Grid_init_42 rfl rfl ?_
    refine xa_iconst (v := nI 4) d_Grid_init_44 rfl ?_
    refine xa_iload d_Grid_init_45 rfl ?_
    refine xa_imulN d_Grid_init_47 ?_
    refine xa_istore d_Grid_init_48 rfl rfl ?_
    refine xa_aload_n d_Grid_init_50 rfl ?_
    refine xa_getf f_Grid_15 d_Grid_init_51 (by assumption) (by rfl) ?_
    refine xa_iload d_Grid_init_54 rfl ?_
    refine xa_iload_n d_Grid_init_56 rfl ?_
    refine xa_if_leN (tgt := 67) d_Grid_init_57 (by decide) (by omega) (fun hq => ?_) (fun hq => ?_)
    ·
      refine xa_iconst (v := -1) d_Grid_init_67 rfl ?_
      refine xa_int (y := gb_oi (gb_nb n p 0)) (by rw [e0, if_neg (by omega)]; rfl) ?_
      exact last
    ·
      refine xa_iload d_Grid_init_60 rfl ?_
      refine xa_iload_n d_Grid_init_62 rfl ?_
      refine xa_isubN d_Grid_init_63 (by have := hnr hq; omega) ?_
      refine xa_goto (tgt := 68) d_Grid_init_64 (by decide) ?_
      refine xa_int (y := gb_oi (gb_nb n p 0)) (by rw [e0, if_pos (by omega)]; rfl) ?_
      exact last
termination_by n - c
decreasing_by omega
theorem w_Grid_init {n g : Nat} (hn : 2 ≤ n ∧ n ≤ 13) (r : Nat) (hr : r ≤ n) (f : Nat → Int32) (hI : xg_I n (n * r) f) :
    xa_X l D H0 M_Grid_init R (xa_Zr D H0 1 676 (fun v h' sz' => ∃ f, (∀ q w, q < n * n → w < 4 → f (4 * q + w) = gb_oi (gb_nb n q w)) ∧ v = none ∧ h' = xg_h D h g (n * n) f ∧ sz' = sz)) 1 (4 * (n * n)) (xg_h D h g (n * n) f) sz 25 [(0, .ref g), (1, .int (nI n)), (2, .int (nI r))] [] := by
  have hN : n * n ≤ 169 := Nat.mul_le_mul hn.2 hn.2
  refine xa_iload_n d_Grid_init_25 rfl ?_
  refine xa_iload_n d_Grid_init_26 rfl ?_
  refine xa_icmp_geN (tgt := 150) d_Grid_init_27 (by decide) (by omega) (by omega) (fun hb => ?_) (fun hb => ?_)
  · have hrn : r = n := by omega
    subst hrn
    exact xa_return d_Grid_init_150 rfl (by omega) (by omega) ⟨f, hI, rfl, rfl, rfl⟩
  ·
    refine xa_iconst (v := nI 0) d_Grid_init_30 rfl ?_
    refine xa_istore_n d_Grid_init_31 rfl rfl ?_
    refine xa_ls ?_ (w_Grid_row hn hb 0 (by omega) f hI (fun f' ls hf h0 h1 h2 => ?_))
    · exact ⟨rfl, rfl, rfl, rfl, trivial⟩
    · refine xa_ls (ls' := [(0, .ref g), (1, .int (nI n)), (2, .int (nI r))]) ⟨h0, h1, h2, trivial⟩ ?_
      refine xa_iincN d_Grid_init_144 rfl rfl rfl ?_
      refine xa_goto (tgt := 25) d_Grid_init_147 (by decide) ?_
      exact w_Grid_init hn (r + 1) (by omega) f' (by rw [Nat.mul_add, Nat.mul_one]; exact hf)
termination_by n - r
decreasing_by omega
theorem c_Grid_init {n g : Nat} (hn : 2 ≤ n ∧ n ≤ 13) (hg : h g = some (.inr (3, [.int 0, .null]))) (hs : sz = g + 1) :
    xa_M l D H0 M_Grid_init 1 20 1 676 [.ref g, .int (nI n)] h sz (fun v h' sz' => ∃ f, (∀ q w, q < n * n → w < 4 → f (4 * q + w) = gb_oi (gb_nb n q w)) ∧ v = none ∧ h' = xg_h D h g (n * n) f ∧ sz' = sz + 1) := by
  have hN : n * n ≤ 169 := Nat.mul_le_mul hn.2 hn.2
  refine xa_enter (by decide) rfl rfl ?_
  subst hs
  refine xa_aload_n d_Grid_init_0 rfl ?_
  refine xa_objInit k_Grid_3 w_oi w_oc d_Grid_init_1 (by decide) (by decide) ?_
  refine xa_aload_n d_Grid_init_4 rfl ?_
  refine xa_iload_n d_Grid_init_5 rfl ?_
  refine xa_iload_n d_Grid_init_6 rfl ?_
  refine xa_imulN d_Grid_init_7 ?_
  refine xa_putF f_Grid_9 rfl (fun q hq => by cases hq; rfl) d_Grid_init_8 hg (Nat.le_of_ble_eq_true rfl) rfl rfl ?_
  have e1 : xa_u h g (.inr (3, [.int (nI (n * n)), .null])) g = some (.inr (3, [.int (nI (n * n)), .null])) := xa_u_eq _ _ _
  refine xa_heap (h' := xa_u h g (.inr (3, [.int (nI (n * n)), .null]))) rfl ?_
  refine xa_aload_n d_Grid_init_11 rfl ?_
  refine xa_iconst (v := nI 4) d_Grid_init_12 rfl ?_
  refine xa_aload_n d_Grid_init_13 rfl ?_
  refine xa_getf f_Grid_9 d_Grid_init_14 (by assumption) (by rfl) ?_
  refine xa_imulN d_Grid_init_17 ?_
  refine xa_newI (N := 4 * (n * n)) d_Grid_init_18 rfl (by omega) (Nat.le_of_ble_eq_true rfl) (show 0 + 4 * (n * n) ≤ 676 by omega) ?_
  refine xa_putF f_Grid_15 rfl (fun q hq => by cases hq; rfl) d_Grid_init_20 (xa_u_ne e1 (by omega)) (Nat.le_of_ble_eq_true rfl) rfl rfl ?_
  refine xa_iconst (v := nI 0) d_Grid_init_23 rfl ?_
  refine xa_istore_n d_Grid_init_24 rfl rfl ?_
  refine xa_heap (h' := xg_h D h g (n * n) (fun _ => 0)) ?_ ?_
  · unfold xg_h
    show xa_u (xa_u (xa_u h g _) (g + 1) _) g _ = _
    rw [xa_uc _ (by omega)]
    rfl
  · rw [Nat.zero_add, Nat.zero_add]
    refine xa_ls ?_ (w_Grid_init hn 0 (by omega) _ (fun q w hq => absurd hq (by rw [Nat.mul_zero]; omega)))
    exact ⟨rfl, rfl, rfl, trivial⟩
end GI
end
section
/-! Areas(), Chart(), Trial(), Life(); the states of chart, trial and life. -/
theorem xa_sw (h : xa_H) {a b : Nat} (hab : a ≠ b) (e f : va_E) : xa_u (xa_u h a e) b f = xa_u (xa_u h b f) a e := by
  funext q
  unfold xa_u
  by_cases h1 : q = a
  · subst h1; rw [if_neg hab, if_pos rfl, if_pos rfl]
  · by_cases h2 : q = b
    · subst h2; rw [if_pos rfl, if_neg h1, if_pos rfl]
    · rw [if_neg h2, if_neg h1, if_neg h1, if_neg h2]
/-- the chart's cells, whatever they hold -/
def xC_sh (D : va_G) (h : xa_H) (n ch g aK : Nat) (b : Nat → Nat) : Prop :=
  ∃ (c : Nat) (f A O S BR LB HO CB : Nat → Int32), xc_R D h n ch g aK c f A O S b ∧ h (ch + 5) = some (.inl (D.1 100, n * n, .inl BR)) ∧ h (ch + 6) = some (.inl (D.1 100, n * n, .inl LB)) ∧ h (ch + 7) = some (.inl (D.1 100, n * n, .inl HO)) ∧ h (ch + 8) = some (.inl (D.1 100, n * n, .inl CB))
/-- the chart as drawn -/
def xC_S (D : va_G) (h : xa_H) (n ch g aK : Nat) (b : Nat → Nat) : Prop :=
  ∃ (c : Nat) (f A O S BR LB HO CB : Nat → Int32) (ar o s : Nat → Nat), xc_R D h n ch g aK c f A O S b ∧ h (ch + 5) = some (.inl (D.1 100, n * n, .inl BR)) ∧ h (ch + 6) = some (.inl (D.1 100, n * n, .inl LB)) ∧ h (ch + 7) = some (.inl (D.1 100, n * n, .inl HO)) ∧ h (ch + 8) = some (.inl (D.1 100, n * n, .inl CB)) ∧ xt_W n (fun q => nI (b q)) c ar o s A O S ∧ ∀ a, a < c → xd_A n b o s BR LB HO a
theorem xC_S.sh {D : va_G} {h : xa_H} {n ch g aK : Nat} {b : Nat → Nat} (hS : xC_S D h n ch g aK b) : xC_sh D h n ch g aK b := by
  obtain ⟨c, f, A, O, S, BR, LB, HO, CB, ar, o, s, h1, h2, h3, h4, h5, h6, h7⟩ := hS
  exact ⟨c, f, A, O, S, BR, LB, HO, CB, h1, h2, h3, h4, h5⟩
theorem xC_sh.put {D : va_G} {h : xa_H} {n ch g aK : Nat} {b b' : Nat → Nat} (hS : xC_sh D h n ch g aK b) (hlt : g + 1 < aK ∧ aK < ch) (hb' : ∀ q, q < n * n → b' q ≤ 2) : xC_sh D (xa_u h aK (.inl (D.1 100, n * n, .inl (fun q => nI (b' q))))) n ch g aK b' := by
  obtain ⟨c, f, A, O, S, BR, LB, HO, CB, ⟨r1, r2, r3, r4, r5, r6, r7, r8, hN, hf, hb⟩, h2, h3, h4, h5⟩ := hS
  exact ⟨c, f, A, O, S, BR, LB, HO, CB, ⟨xa_u_ne r1 (by omega), xa_u_ne r2 (by omega), xa_u_ne r3 (by omega), xa_u_ne r4 (by omega), xa_u_ne r5 (by omega), xa_u_ne r6 (by omega), xa_u_ne r7 (by omega), xa_u_eq _ _ _, hN, hf, hb'⟩, xa_u_ne h2 (by omega), xa_u_ne h3 (by omega), xa_u_ne h4 (by omega), xa_u_ne h5 (by omega)⟩
theorem xC_S.frame {D : va_G} {h h' : xa_H} {n ch g aK : Nat} {b : Nat → Nat} (hS : xC_S D h n ch g aK b) (hf : ∀ q, (q = g ∨ q = g + 1 ∨ q = aK ∨ (ch ≤ q ∧ q ≤ ch + 8)) → h' q = h q) : xC_S D h' n ch g aK b := by
  obtain ⟨c, f, A, O, S, BR, LB, HO, CB, ar, o, s, ⟨r1, r2, r3, r4, r5, r6, r7, r8, hx⟩, h2, h3, h4, h5, h6, h7⟩ := hS
  refine ⟨c, f, A, O, S, BR, LB, HO, CB, ar, o, s, ⟨?_, ?_, ?_, ?_, ?_, ?_, ?_, ?_, hx⟩, ?_, ?_, ?_, ?_, h6, h7⟩
  all_goals first | (rw [hf _ (by omega)]; assumption)
/-- the trial's cells -/
def xT_S (D : va_G) (h : xa_H) (tr g aK ch N : Nat) : Prop := ∃ (V : Nat → Nat) (k ls : Nat), h tr = some (.inr (7, [.ref (tr + 1), .int (nI k), .int (nI ls), .ref g, .ref aK, .ref ch])) ∧ h (tr + 1) = some (xp_c D N V)
/-- life's cells -/
def xL_S (D : va_G) (h : xa_H) (lf g aK N : Nat) : Prop := ∃ (c : Nat) (K A O S ST BT RG : Nat → Int32), h lf = some (.inr (5, [.ref g, .ref aK, .ref (lf + 1), .ref (lf + 2), .ref (lf + 6), .ref (lf + 7), .ref (lf + 8)])) ∧ h (lf + 1) = some (.inl (D.1 100, N, .inl K)) ∧ h (lf + 2) = some (.inr (1, [.int (nI c), .ref g, .ref (lf + 3), .ref (lf + 4), .ref (lf + 5)])) ∧ h (lf + 3) = some (.inl (D.1 100, N, .inl A)) ∧ h (lf + 4) = some (.inl (D.1 100, N, .inl O)) ∧ h (lf + 5) = some (.inl (D.1 100, N + 1, .inl S)) ∧ h (lf + 6) = some (.inl (D.1 102, N, .inl ST)) ∧ h (lf + 7) = some (.inl (D.1 100, 4 * N, .inl BT)) ∧ h (lf + 8) = some (.inl (D.1 100, N, .inl RG))
section IN
variable {l : Launch} {D : va_G} {H0 : Heap} {h : xa_H} {sz : Nat} {R : Room}
theorem xa_M_w {μ : xa_Mu} {fr lo mc ms : Nat} {av : List Value} {Q Q' : Option Value → xa_H → Nat → Prop} (hM : xa_M l D H0 μ fr lo mc ms av h sz Q) (hw : ∀ v h' sz', Q v h' sz' → Q' v h' sz') : xa_M l D H0 μ fr lo mc ms av h sz Q' := by
  intro p e ha hc hk s m args below hf hS hP hK
  obtain ⟨n, o, h1, h2, h3, ⟨v, h', sz', e1, e2, e3⟩, h5⟩ := hM p e ha hc hk s m args below hf hS hP hK
  exact ⟨n, o, h1, h2, h3, ⟨v, h', sz', e1, hw _ _ _ e2, e3⟩, h5⟩
theorem c_Areas_init {N a g : Nat} {v2 : Value} (ha : h a = some (.inr (1, [.int 0, .null, .null, .null, .null]))) (hg : h g = some (.inr (3, [.int (nI N), v2]))) (hga : g < a) (hs : sz = a + 1) (hN : N ≤ 169) :
    xa_M l D H0 M_Areas_init 1 20 3 508 [.ref a, .ref g] h sz (fun v h' sz' => v = none ∧ h' = xt_h D h a g (a + 1) (a + 2) (a + 3) N 0 (fun _ => 0) (fun _ => 0) (fun _ => 0) ∧ sz' = sz + 3) := by
  refine xa_enter (by decide) rfl rfl ?_
  subst hs
  refine xa_aload_n d_Areas_init_0 rfl ?_
  refine xa_objInit k_Areas_3 w_oi w_oc d_Areas_init_1 (by decide) (by decide) ?_
  refine xa_aload_n d_Areas_init_4 rfl ?_
  refine xa_aload_n d_Areas_init_5 rfl ?_
  refine xa_putF f_Areas_9 rfl (fun q hq => by cases hq; rfl) d_Areas_init_6 ha (Nat.le_of_ble_eq_true rfl) rfl rfl ?_
  have hg1 : ∀ e, xa_u h a e g = some (.inr (3, [.int (nI N), v2])) := fun e => xa_u_ne hg (by omega)
  refine xa_heap (h' := xa_u h a (.inr (1, [.int 0, .ref g, .null, .null, .null]))) rfl ?_
  refine xa_aload_n d_Areas_init_9 rfl ?_
  refine xa_aload_n d_Areas_init_10 rfl ?_
  refine xa_getf f_Areas_15 d_Areas_init_11 (hg1 _) (by rfl) ?_
  refine xa_newI (N := N) d_Areas_init_14 rfl (by omega) (Nat.le_of_ble_eq_true rfl) (show 0 + N ≤ 508 by omega) ?_
  refine xa_putF f_Areas_21 rfl (fun q hq => by cases hq; rfl) d_Areas_init_16 (xa_u_ne (xa_u_eq _ _ _) (by omega)) (Nat.le_of_ble_eq_true rfl) rfl rfl ?_
  refine xa_heap (h' := xa_u (xa_u h (a + 1) (.inl (D.1 100, N, .inl (fun _ => 0)))) a (.inr (1, [.int 0, .ref g, .ref (a + 1), .null, .null]))) (by show xa_u (xa_u (xa_u h a _) (a + 1) _) a _ = _; rw [xa_uc _ (by omega), xa_sw _ (by omega)]; rfl) ?_
  refine xa_aload_n d_Areas_init_19 rfl ?_
  refine xa_aload_n d_Areas_init_20 rfl ?_
  refine xa_getf f_Areas_15 d_Areas_init_21 (xa_u_ne (xa_u_ne hg (by omega)) (by omega)) (by rfl) ?_
  refine xa_newI (N := N) d_Areas_init_24 rfl (by omega) (Nat.le_of_ble_eq_true rfl) (show 0 + N + N ≤ 508 by omega) ?_
  refine xa_putF f_Areas_25 rfl (fun q hq => by cases hq; rfl) d_Areas_init_26 (xa_u_ne (xa_u_eq _ _ _) (by omega)) (Nat.le_of_ble_eq_true rfl) rfl rfl ?_
  refine xa_heap (h' := xa_u (xa_u (xa_u h (a + 1) (.inl (D.1 100, N, .inl (fun _ => 0)))) (a + 2) (.inl (D.1 100, N, .inl (fun _ => 0)))) a (.inr (1, [.int 0, .ref g, .ref (a + 1), .ref (a + 2), .null]))) (by show xa_u (xa_u (xa_u (xa_u h (a + 1) _) a _) (a + 2) _) a _ = _; rw [xa_uc _ (by omega), xa_sw _ (show a ≠ a + 2 by omega)]; rfl) ?_
  refine xa_aload_n d_Areas_init_29 rfl ?_
  refine xa_aload_n d_Areas_init_30 rfl ?_
  refine xa_getf f_Areas_15 d_Areas_init_31 (xa_u_ne (xa_u_ne (xa_u_ne hg (by omega)) (by omega)) (by omega)) (by rfl) ?_
  refine xa_iconst (v := nI 1) d_Areas_init_34 rfl ?_
  refine xa_iaddN d_Areas_init_35 ?_
  refine xa_newI (N := N + 1) d_Areas_init_36 rfl (by omega) (Nat.le_of_ble_eq_true rfl) (show 0 + N + N + (N + 1) ≤ 508 by omega) ?_
  refine xa_putF f_Areas_28 rfl (fun q hq => by cases hq; rfl) d_Areas_init_38 (xa_u_ne (xa_u_eq _ _ _) (by omega)) (Nat.le_of_ble_eq_true rfl) rfl rfl ?_
  refine xa_heap (h' := xt_h D h a g (a + 1) (a + 2) (a + 3) N 0 (fun _ => 0) (fun _ => 0) (fun _ => 0)) (by show xa_u (xa_u (xa_u (xa_u (xa_u h (a + 1) _) (a + 2) _) a _) (a + 3) _) a _ = _; rw [xa_uc _ (by omega), xa_sw _ (show a ≠ a + 3 by omega)]; rfl) ?_
  exact xa_return d_Areas_init_41 rfl (Nat.le_of_ble_eq_true rfl) (show 0 + N + N + (N + 1) ≤ 508 by omega) ⟨rfl, rfl, rfl⟩
theorem c_Chart_draw' {n ch g aK : Nat} {b : Nat → Nat} (hS : xC_sh D h n ch g aK b) (hlt : g + 1 < ch ∧ aK < ch) :
    xa_M l D H0 M_Chart_draw 3 72 0 0 [.ref ch] h sz (fun v h' sz' => v = none ∧ xC_S D h' n ch g aK b ∧ (∀ q, q ≤ ch ∨ ch + 9 ≤ q → h' q = h q) ∧ sz' = sz) := by
  obtain ⟨c, f, A, O, S, BR, LB, HO, CB, ⟨r1, r2, r3, r4, r5, r6, r7, r8, hN, hf, hb⟩, h2, h3, h4, h5⟩ := hS
  refine xa_M_w (c_Chart_draw r1 r2 r3 r4 r5 h2 h3 h4 h5 r6 r7 r8 hlt hN hf hb) (fun v h' sz' hq => ?_)
  obtain ⟨c, ar, o, s, A, O, S, BR, LB, HO, CB, hW, hA, e1, e2, e3⟩ := hq
  refine ⟨e1, ?_, fun q hq => by rw [e2]; exact xd_hn rfl hq, e3⟩
  rw [e2]
  exact ⟨c, f, A, O, S, BR, LB, HO, CB, ar, o, s, xd_R r1 r6 r7 r8 hlt hN hf hb, xd_h5, xd_h6, xd_h7, xd_h8, hW, hA⟩
theorem c_Chart_init {n ch g aK : Nat} {f : Nat → Int32} {b : Nat → Nat} (hc : h ch = some (.inr (2, [.null, .null, .null, .null, .null, .null, .null]))) (hg : h g = some (.inr (3, [.int (nI (n * n)), .ref (g + 1)]))) (hag : h (g + 1) = some (.inl (D.1 100, 4 * (n * n), .inl f))) (hK : h aK = some (.inl (D.1 100, n * n, .inl (fun q => nI (b q))))) (hlt : g + 1 < ch ∧ aK < ch) (hN : n * n ≤ 169) (hf : ∀ q w, q < n * n → w < 4 → f (4 * q + w) = gb_oi (gb_nb n q w)) (hb : ∀ q, q < n * n → b q ≤ 2) (hs : sz = ch + 1) :
    xa_M l D H0 M_Chart_init 4 93 8 1189 [.ref ch, .ref g, .ref aK] h sz (fun v h' sz' => v = none ∧ xC_S D h' n ch g aK b ∧ (∀ q, q < ch → h' q = h q) ∧ sz' = sz + 8) := by
  refine xa_enter (by decide) rfl rfl ?_
  subst hs
  refine xa_aload_n d_Chart_init_0 rfl ?_
  refine xa_objInit k_Chart_3 w_oi w_oc d_Chart_init_1 (by decide) (by decide) ?_
  refine xa_aload_n d_Chart_init_4 rfl ?_
  refine xa_aload_n d_Chart_init_5 rfl ?_
  refine xa_putF f_Chart_9 rfl (fun q hq => by cases hq; rfl) d_Chart_init_6 hc (Nat.le_of_ble_eq_true rfl) rfl rfl ?_
  refine xa_aload_n d_Chart_init_9 rfl ?_
  refine xa_aload_n d_Chart_init_10 rfl ?_
  refine xa_putF f_Chart_15 rfl (fun q hq => by cases hq; rfl) d_Chart_init_11 (xa_u_eq _ _ _) (Nat.le_of_ble_eq_true rfl) rfl rfl ?_
  rw [xa_uu]
  refine xa_heap (h' := xa_u h ch (.inr (2, [.null, .ref g, .ref aK, .null, .null, .null, .null]))) rfl ?_
  refine xa_aload_n d_Chart_init_14 rfl ?_
  refine xa_new n_Chart_19 d_Chart_init_15 (Nat.le_of_ble_eq_true rfl) (Nat.le_of_ble_eq_true rfl) ?_
  refine xa_dup d_Chart_init_18 rfl ?_
  refine xa_aload_n d_Chart_init_19 rfl ?_
  refine xa_callIr (As := [.ref g]) (st := [.ref (ch + 1), .ref ch]) d_Chart_init_20 k_Chart_21 (c_Areas_init (N := n * n) (xa_u_eq _ _ _) (xa_u_ne (xa_u_ne hg (by omega)) (by omega)) (by omega) rfl hN) rfl rfl (Nat.le_of_ble_eq_true rfl) ⟨by decide, by decide⟩ (Nat.le_of_ble_eq_true rfl) (Nat.le_of_ble_eq_true rfl) ?_
  generalize hg0 : xt_h D (xa_u (xa_u h ch (.inr (2, [.null, .ref g, .ref aK, .null, .null, .null, .null]))) (ch + 1) (.inr (1, [.int 0, .null, .null, .null, .null]))) (ch + 1) g (ch + 1 + 1) (ch + 1 + 2) (ch + 1 + 3) (n * n) 0 (fun _ => 0) (fun _ => 0) (fun _ => 0) = G
  have a0 : G ch = some (.inr (2, [.null, .ref g, .ref aK, .null, .null, .null, .null])) := by rw [← hg0]; exact xt_hn (xa_u_ne (xa_u_eq _ _ _) (by omega)) (by omega) (by omega) (by omega) (by omega)
  have a1 : G (ch + 1) = some (.inr (1, [.int (nI 0), .ref g, .ref (ch + 2), .ref (ch + 3), .ref (ch + 4)])) := by rw [← hg0]; exact xt_ha
  have a2 : G (ch + 2) = some (.inl (D.1 100, n * n, .inl (fun _ => 0))) := by rw [← hg0]; exact xt_hA (by omega) (by omega) (by omega)
  have a3 : G (ch + 3) = some (.inl (D.1 100, n * n, .inl (fun _ => 0))) := by rw [← hg0]; exact xt_hO (by omega) (by omega)
  have a4 : G (ch + 4) = some (.inl (D.1 100, n * n + 1, .inl (fun _ => 0))) := by rw [← hg0]; exact xt_hS (by omega)
  have a5 : ∀ q, q < ch → G q = h q := fun q hq => by rw [← hg0]; exact xt_hn (xa_u_ne (xa_u_ne rfl (by omega)) (by omega)) (by omega) (by omega) (by omega) (by omega)
  have a6 : G g = some (.inr (3, [.int (nI (n * n)), .ref (g + 1)])) := by rw [a5 g (by omega)]; exact hg
  refine xa_putF f_Chart_24 rfl (fun q hq => by cases hq; rfl) d_Chart_init_23 a0 (Nat.le_of_ble_eq_true rfl) rfl rfl ?_
  refine xa_heap (h' := xa_u G ch (.inr (2, [.ref (ch + 1), .ref g, .ref aK, .null, .null, .null, .null]))) rfl ?_
  refine xa_aload_n d_Chart_init_26 rfl ?_
  refine xa_aload_n d_Chart_init_27 rfl ?_
  refine xa_getf f_Chart_28 d_Chart_init_28 (xa_u_ne a6 (by omega)) (by rfl) ?_
  refine xa_newI (N := n * n) d_Chart_init_31 rfl (by omega) (Nat.le_of_ble_eq_true rfl) (show 0 + 5 + 508 + n * n ≤ 1189 by omega) ?_
  refine xa_putF f_Chart_34 rfl (fun q hq => by cases hq; rfl) d_Chart_init_33 (xa_u_ne (xa_u_eq _ _ _) (by omega)) (Nat.le_of_ble_eq_true rfl) rfl rfl ?_
  refine xa_heap (h' := xa_u (xa_u G (ch + 5) (.inl (D.1 100, n * n, .inl (fun _ => 0)))) ch (.inr (2, [.ref (ch + 1), .ref g, .ref aK, .ref (ch + 5), .null, .null, .null]))) (by show xa_u (xa_u (xa_u G ch _) (ch + 5) _) ch _ = _; rw [xa_uc _ (by omega), xa_sw _ (show ch ≠ ch + 5 by omega)]; rfl) ?_
  refine xa_aload_n d_Chart_init_36 rfl ?_
  refine xa_aload_n d_Chart_init_37 rfl ?_
  refine xa_getf f_Chart_28 d_Chart_init_38 (xa_u_ne (xa_u_ne a6 (by omega)) (by omega)) (by rfl) ?_
  refine xa_newI (N := n * n) d_Chart_init_41 rfl (by omega) (Nat.le_of_ble_eq_true rfl) (show 0 + 5 + 508 + n * n + n * n ≤ 1189 by omega) ?_
  refine xa_putF f_Chart_37 rfl (fun q hq => by cases hq; rfl) d_Chart_init_43 (xa_u_ne (xa_u_eq _ _ _) (by omega)) (Nat.le_of_ble_eq_true rfl) rfl rfl ?_
  refine xa_heap (h' := xa_u (xa_u (xa_u G (ch + 5) (.inl (D.1 100, n * n, .inl (fun _ => 0)))) (ch + 6) (.inl (D.1 100, n * n, .inl (fun _ => 0)))) ch (.inr (2, [.ref (ch + 1), .ref g, .ref aK, .ref (ch + 5), .ref (ch + 6), .null, .null]))) (by show xa_u (xa_u (xa_u (xa_u G (ch + 5) _) ch _) (ch + 6) _) ch _ = _; rw [xa_uc _ (by omega), xa_sw _ (show ch ≠ ch + 6 by omega)]; rfl) ?_
  refine xa_aload_n d_Chart_init_46 rfl ?_
  refine xa_aload_n d_Chart_init_47 rfl ?_
  refine xa_getf f_Chart_28 d_Chart_init_48 (xa_u_ne (xa_u_ne (xa_u_ne a6 (by omega)) (by omega)) (by omega)) (by rfl) ?_
  refine xa_newI (N := n * n) d_Chart_init_51 rfl (by omega) (Nat.le_of_ble_eq_true rfl) (show 0 + 5 + 508 + n * n + n * n + n * n ≤ 1189 by omega) ?_
  refine xa_putF f_Chart_40 rfl (fun q hq => by cases hq; rfl) d_Chart_init_53 (xa_u_ne (xa_u_eq _ _ _) (by omega)) (Nat.le_of_ble_eq_true rfl) rfl rfl ?_
  refine xa_heap (h' := xa_u (xa_u (xa_u (xa_u G (ch + 5) (.inl (D.1 100, n * n, .inl (fun _ => 0)))) (ch + 6) (.inl (D.1 100, n * n, .inl (fun _ => 0)))) (ch + 7) (.inl (D.1 100, n * n, .inl (fun _ => 0)))) ch (.inr (2, [.ref (ch + 1), .ref g, .ref aK, .ref (ch + 5), .ref (ch + 6), .ref (ch + 7), .null]))) (by show xa_u (xa_u (xa_u (xa_u (xa_u G (ch + 5) _) (ch + 6) _) ch _) (ch + 7) _) ch _ = _; rw [xa_uc _ (by omega), xa_sw _ (show ch ≠ ch + 7 by omega)]; rfl) ?_
  refine xa_aload_n d_Chart_init_56 rfl ?_
  refine xa_aload_n d_Chart_init_57 rfl ?_
  refine xa_getf f_Chart_28 d_Chart_init_58 (xa_u_ne (xa_u_ne (xa_u_ne (xa_u_ne a6 (by omega)) (by omega)) (by omega)) (by omega)) (by rfl) ?_
  refine xa_newI (N := n * n) d_Chart_init_61 rfl (by omega) (Nat.le_of_ble_eq_true rfl) (show 0 + 5 + 508 + n * n + n * n + n * n + n * n ≤ 1189 by omega) ?_
  refine xa_putF f_Chart_43 rfl (fun q hq => by cases hq; rfl) d_Chart_init_63 (xa_u_ne (xa_u_eq _ _ _) (by omega)) (Nat.le_of_ble_eq_true rfl) rfl rfl ?_
  refine xa_heap (h' := xa_u (xa_u (xa_u (xa_u (xa_u G (ch + 5) (.inl (D.1 100, n * n, .inl (fun _ => 0)))) (ch + 6) (.inl (D.1 100, n * n, .inl (fun _ => 0)))) (ch + 7) (.inl (D.1 100, n * n, .inl (fun _ => 0)))) (ch + 8) (.inl (D.1 100, n * n, .inl (fun _ => 0)))) ch (.inr (2, [.ref (ch + 1), .ref g, .ref aK, .ref (ch + 5), .ref (ch + 6), .ref (ch + 7), .ref (ch + 8)]))) (by show xa_u (xa_u (xa_u (xa_u (xa_u (xa_u G (ch + 5) _) (ch + 6) _) (ch + 7) _) ch _) (ch + 8) _) ch _ = _; rw [xa_uc _ (by omega), xa_sw _ (show ch ≠ ch + 8 by omega)]; rfl) ?_
  have fr : ∀ (E : va_E) (q : Nat), q ≠ ch → (q < ch + 5 ∨ ch + 9 ≤ q) → xa_u (xa_u (xa_u (xa_u (xa_u G (ch + 5) (.inl (D.1 100, n * n, .inl (fun _ => 0)))) (ch + 6) (.inl (D.1 100, n * n, .inl (fun _ => 0)))) (ch + 7) (.inl (D.1 100, n * n, .inl (fun _ => 0)))) (ch + 8) (.inl (D.1 100, n * n, .inl (fun _ => 0)))) ch E q = G q := fun E q h1 h2 => xa_u_ne (xa_u_ne (xa_u_ne (xa_u_ne (xa_u_ne rfl (by omega)) (by omega)) (by omega)) (by omega)) h1
  have hsh : xC_sh D (xa_u (xa_u (xa_u (xa_u (xa_u G (ch + 5) (.inl (D.1 100, n * n, .inl (fun _ => 0)))) (ch + 6) (.inl (D.1 100, n * n, .inl (fun _ => 0)))) (ch + 7) (.inl (D.1 100, n * n, .inl (fun _ => 0)))) (ch + 8) (.inl (D.1 100, n * n, .inl (fun _ => 0)))) ch (.inr (2, [.ref (ch + 1), .ref g, .ref aK, .ref (ch + 5), .ref (ch + 6), .ref (ch + 7), .ref (ch + 8)]))) n ch g aK b := by
    refine ⟨0, f, fun _ => 0, fun _ => 0, fun _ => 0, fun _ => 0, fun _ => 0, fun _ => 0, fun _ => 0, ⟨xa_u_eq _ _ _, ?_, ?_, ?_, ?_, ?_, ?_, ?_, by omega, hf, hb⟩, ?_, ?_, ?_, ?_⟩
    · rw [fr _ _ (by omega) (by omega)]; exact a1
    · rw [fr _ _ (by omega) (by omega)]; exact a2
    · rw [fr _ _ (by omega) (by omega)]; exact a3
    · rw [fr _ _ (by omega) (by omega)]; exact a4
    · rw [fr _ _ (by omega) (by omega)]; exact a6
    · rw [fr _ _ (by omega) (by omega), a5 _ (by omega)]; exact hag
    · rw [fr _ _ (by omega) (by omega), a5 _ (by omega)]; exact hK
    · exact xa_u_ne (xa_u_ne (xa_u_ne (xa_u_ne (xa_u_eq _ _ _) (by omega)) (by omega)) (by omega)) (by omega)
    · exact xa_u_ne (xa_u_ne (xa_u_ne (xa_u_eq _ _ _) (by omega)) (by omega)) (by omega)
    · exact xa_u_ne (xa_u_ne (xa_u_eq _ _ _) (by omega)) (by omega)
    · exact xa_u_ne (xa_u_eq _ _ _) (by omega)
  refine xa_aload_n d_Chart_init_66 rfl ?_
  refine xa_callV (As := []) (st := []) d_Chart_init_67 k_Chart_46 (xa_u_eq _ _ _) (c_Chart_draw' hsh hlt) rfl rfl (Nat.le_of_ble_eq_true rfl) ⟨by decide, by decide⟩ (Nat.le_of_ble_eq_true rfl) (show 0 + 5 + 508 + n * n + n * n + n * n + n * n + 0 ≤ 1189 by omega) (fun v h' sz' hq => ?_)
  obtain ⟨e1, e2, e3, e4⟩ := hq
  rw [e1]
  exact xa_return d_Chart_init_70 rfl (Nat.le_of_ble_eq_true rfl) (show 0 + 5 + 508 + n * n + n * n + n * n + n * n + 0 ≤ 1189 by omega) ⟨rfl, e2, fun q hq => by rw [e3 q (by omega), fr _ q (by omega) (by omega), a5 q hq], by rw [e4]⟩
theorem c_Trial_init {N tr g aK ch : Nat} {v2 : Value} (ht : h tr = some (.inr (7, [.null, .int 0, .int 0, .null, .null, .null]))) (hg : h g = some (.inr (3, [.int (nI N), v2]))) (hlt : g < tr) (hs : sz = tr + 1) (hN : N ≤ 169) :
    xa_M l D H0 M_Trial_init 1 20 1 6 [.ref tr, .ref g, .ref aK, .ref ch] h sz (fun v h' sz' => v = none ∧ xT_S D h' tr g aK ch N ∧ (∀ q, q < tr → h' q = h q) ∧ sz' = sz + 1) := by
  refine xa_enter (by decide) rfl rfl ?_
  subst hs
  refine xa_aload_n d_Trial_init_0 rfl ?_
  refine xa_objInit k_Trial_3 w_oi w_oc d_Trial_init_1 (by decide) (by decide) ?_
  refine xa_aload_n d_Trial_init_4 rfl ?_
  refine xa_aload_n d_Trial_init_5 rfl ?_
  refine xa_putF f_Trial_9 rfl (fun q hq => by cases hq; rfl) d_Trial_init_6 ht (Nat.le_of_ble_eq_true rfl) rfl rfl ?_
  refine xa_aload_n d_Trial_init_9 rfl ?_
  refine xa_aload_n d_Trial_init_10 rfl ?_
  refine xa_putF f_Trial_15 rfl (fun q hq => by cases hq; rfl) d_Trial_init_11 (xa_u_eq _ _ _) (Nat.le_of_ble_eq_true rfl) rfl rfl ?_
  rw [xa_uu]
  refine xa_aload_n d_Trial_init_14 rfl ?_
  refine xa_aload_n d_Trial_init_15 rfl ?_
  refine xa_putF f_Trial_19 rfl (fun q hq => by cases hq; rfl) d_Trial_init_16 (xa_u_eq _ _ _) (Nat.le_of_ble_eq_true rfl) rfl rfl ?_
  rw [xa_uu]
  refine xa_heap (h' := xa_u h tr (.inr (7, [.null, .int 0, .int 0, .ref g, .ref aK, .ref ch]))) rfl ?_
  refine xa_aload_n d_Trial_init_19 rfl ?_
  refine xa_aload_n d_Trial_init_20 rfl ?_
  refine xa_getf f_Trial_23 d_Trial_init_21 (xa_u_ne hg (by omega)) (by rfl) ?_
  refine xa_callSr (As := [.int (nI N)]) (st := [.ref tr]) d_Trial_init_24 k_Trial_29 (c_Packed_freeBoard hN) rfl rfl (Nat.le_of_ble_eq_true rfl) ⟨by decide, by decide⟩ (Nat.le_of_ble_eq_true rfl) (Nat.le_of_ble_eq_true rfl) ?_
  refine xa_putF f_Trial_35 rfl (fun q hq => by cases hq; rfl) d_Trial_init_27 (xa_u_ne (xa_u_eq _ _ _) (by omega)) (Nat.le_of_ble_eq_true rfl) rfl rfl ?_
  exact xa_return d_Trial_init_30 rfl (Nat.le_of_ble_eq_true rfl) (Nat.le_of_ble_eq_true rfl) ⟨rfl, ⟨fun _ => 0, 0, 0, xa_u_eq _ _ _, xa_u_ne (xa_u_eq _ _ _) (by omega)⟩, fun q hq => xa_u_ne (xa_u_ne (xa_u_ne rfl (by omega)) (by omega)) (by omega), rfl⟩
end IN
end
section
/-! Life(), StoneBoard(); the class's state. -/
theorem i32_lt (x y : Int32) : x < y ↔ x.toInt < y.toInt := Int32.lt_iff_toInt_lt
def gx_size (v : Int32) : Nat := if v < 2 then 2 else if 13 < v then 13 else v.toNatClampNeg
theorem gx_size_le (v : Int32) : 2 ≤ gx_size v ∧ gx_size v ≤ 13 := by
  unfold gx_size
  by_cases h1 : v < 2
  · rw [if_pos h1]; omega
  · rw [if_neg h1]
    by_cases h2 : 13 < v
    · rw [if_pos h2]; omega
    · rw [if_neg h2]
      obtain ⟨j, hj, rfl⟩ := nI_of (x := v) (fun h0 => h1 (by
        rw [i32_lt] at h0 ⊢
        have e0 : (0 : Int32).toInt = 0 := by decide
        have e2 : (2 : Int32).toInt = 2 := by decide
        omega))
      have g1 : ¬ nI j < nI 2 := h1
      have g2 : ¬ nI 13 < nI j := h2
      rw [nI_ltI hj (by decide)] at g1
      rw [nI_ltI (by decide) hj] at g2
      rw [nI_clamp hj]
      omega
theorem gx_size_eq (v : Int32) : (if nI 2 < (if v < nI 13 then v else nI 13) then (if v < nI 13 then v else nI 13) else nI 2) = nI (gx_size v) := by
  unfold gx_size
  by_cases h0 : v < 0
  · have e0 : (0 : Int32).toInt = 0 := by decide
    have e2 : (2 : Int32).toInt = 2 := by decide
    have e3 : (nI 13).toInt = 13 := by decide
    have e4 : (nI 2).toInt = 2 := by decide
    have h0' := (i32_lt _ _).mp h0
    rw [if_pos (show v < nI 13 by rw [i32_lt]; omega), if_neg (show ¬ nI 2 < v by rw [i32_lt]; omega), if_pos (show v < 2 by rw [i32_lt]; omega)]
  · obtain ⟨j, hj, rfl⟩ := nI_of h0
    have c2 : (nI j < 2) ↔ j < 2 := nI_ltI hj (by decide)
    have c3 : ((13 : Int32) < nI j) ↔ 13 < j := nI_ltI (by decide) hj
    have c4 : (nI j < nI 13) ↔ j < 13 := nI_ltI hj (by decide)
    have c5 : (nI 2 < nI j) ↔ 2 < j := nI_ltI (by decide) hj
    by_cases g1 : j < 13
    · rw [if_pos (c4.mpr g1)]
      by_cases g2 : 2 < j
      · rw [if_pos (c5.mpr g2), if_neg (fun z => by have := c2.mp z; omega), if_neg (fun z => by have := c3.mp z; omega), nI_clamp hj]
      · rw [if_neg (fun z => g2 (c5.mp z))]
        by_cases g3 : j < 2
        · rw [if_pos (c2.mpr g3)]
        · have : j = 2 := by omega
          subst this
          rfl
    · rw [if_neg (fun z => g1 (c4.mp z)), if_pos (by decide), if_neg (fun z => by have := c2.mp z; omega)]
      by_cases g3 : 13 < j
      · rw [if_pos (c3.mpr g3)]
      · have : j = 13 := by omega
        subst this
        rfl
/-- the class's state -/
def xS_S (D : va_G) (h : xa_H) (o T n fs : Nat) (b : Nat → Nat) (m : Nat) (bd : Nat → Nat → Nat) (pt : Nat → Int32) (tb tw : Nat → Nat) : Prop :=
  h o = some (.inr (0, [.int (nI n), .ref (o + 1), .ref (o + 3), .ref (o + 4), .ref (o + 13), .ref (o + 15), .ref (o + 19), .int (nI fs)])) ∧ xC_S D h n (o + 4) (o + 1) (o + 3) b ∧ xT_S D h (o + 13) (o + 1) (o + 3) (o + 4) (n * n) ∧ xh_S D h (o + 15) T (n * n) m bd pt tb tw ∧ xL_S D h (o + 19) (o + 1) (o + 3) (n * n)
section SI
variable {l : Launch} {D : va_G} {H0 : Heap} {h : xa_H} {sz : Nat} {R : Room}
theorem c_Life_init {N lf g aK : Nat} {v2 : Value} (hl : h lf = some (.inr (5, [.null, .null, .null, .null, .null, .null, .null]))) (hg : h g = some (.inr (3, [.int (nI N), v2]))) (hlt : g < lf) (hs : sz = lf + 1) (hN : N ≤ 169) :
    xa_M l D H0 M_Life_init 2 41 8 1696 [.ref lf, .ref g, .ref aK] h sz (fun v h' sz' => v = none ∧ xL_S D h' lf g aK N ∧ (∀ q, q < lf → h' q = h q) ∧ sz' = sz + 8) := by
  refine xa_enter (by decide) rfl rfl ?_
  subst hs
  refine xa_aload_n d_Life_init_0 rfl ?_
  refine xa_objInit k_Life_3 w_oi w_oc d_Life_init_1 (by decide) (by decide) ?_
  refine xa_aload_n d_Life_init_4 rfl ?_
  refine xa_aload_n d_Life_init_5 rfl ?_
  refine xa_putF f_Life_9 rfl (fun q hq => by cases hq; rfl) d_Life_init_6 hl (Nat.le_of_ble_eq_true rfl) rfl rfl ?_
  refine xa_aload_n d_Life_init_9 rfl ?_
  refine xa_aload_n d_Life_init_10 rfl ?_
  refine xa_putF f_Life_15 rfl (fun q hq => by cases hq; rfl) d_Life_init_11 (xa_u_eq _ _ _) (Nat.le_of_ble_eq_true rfl) rfl rfl ?_
  rw [xa_uu]
  refine xa_heap (h' := xa_u h lf (.inr (5, [.ref g, .ref aK, .null, .null, .null, .null, .null]))) rfl ?_
  refine xa_aload_n d_Life_init_14 rfl ?_
  refine xa_aload_n d_Life_init_15 rfl ?_
  refine xa_getf f_Life_19 d_Life_init_16 (xa_u_ne hg (by omega)) (by rfl) ?_
  refine xa_newI (N := N) d_Life_init_19 rfl (by omega) (Nat.le_of_ble_eq_true rfl) (show 0 + N ≤ 1696 by omega) ?_
  refine xa_putF f_Life_25 rfl (fun q hq => by cases hq; rfl) d_Life_init_21 (xa_u_ne (xa_u_eq _ _ _) (by omega)) (Nat.le_of_ble_eq_true rfl) rfl rfl ?_
  refine xa_heap (h' := xa_u (xa_u h (lf + 1) (.inl (D.1 100, N, .inl (fun _ => 0)))) lf (.inr (5, [.ref g, .ref aK, .ref (lf + 1), .null, .null, .null, .null]))) (by show xa_u (xa_u (xa_u h lf _) (lf + 1) _) lf _ = _; rw [xa_uc _ (by omega), xa_sw _ (show lf ≠ lf + 1 by omega)]; rfl) ?_
  refine xa_aload_n d_Life_init_24 rfl ?_
  refine xa_new n_Life_28 d_Life_init_25 (Nat.le_of_ble_eq_true rfl) (show 0 + N + 5 ≤ 1696 by omega) ?_
  refine xa_dup d_Life_init_28 rfl ?_
  refine xa_aload_n d_Life_init_29 rfl ?_
  refine xa_callIr (As := [.ref g]) (st := [.ref (lf + 1 + 1), .ref lf]) d_Life_init_30 k_Life_30 (c_Areas_init (N := N) (xa_u_eq _ _ _) (xa_u_ne (xa_u_ne (xa_u_ne hg (by omega)) (by omega)) (by omega)) (by omega) rfl hN) rfl rfl (Nat.le_of_ble_eq_true rfl) ⟨by decide, by decide⟩ (Nat.le_of_ble_eq_true rfl) (show 0 + N + 5 + 508 ≤ 1696 by omega) ?_
  generalize hg0 : xt_h D (xa_u (xa_u (xa_u h (lf + 1) (.inl (D.1 100, N, .inl (fun _ => 0)))) lf (.inr (5, [.ref g, .ref aK, .ref (lf + 1), .null, .null, .null, .null]))) (lf + 1 + 1) (.inr (1, [.int 0, .null, .null, .null, .null]))) (lf + 1 + 1) g (lf + 1 + 1 + 1) (lf + 1 + 1 + 2) (lf + 1 + 1 + 3) N 0 (fun _ => 0) (fun _ => 0) (fun _ => 0) = G
  have a0 : G lf = some (.inr (5, [.ref g, .ref aK, .ref (lf + 1), .null, .null, .null, .null])) := by rw [← hg0]; exact xt_hn (xa_u_ne (xa_u_eq _ _ _) (by omega)) (by omega) (by omega) (by omega) (by omega)
  have b1 : G (lf + 1) = some (.inl (D.1 100, N, .inl (fun _ => 0))) := by rw [← hg0]; exact xt_hn (xa_u_ne (xa_u_ne (xa_u_eq _ _ _) (by omega)) (by omega)) (by omega) (by omega) (by omega) (by omega)
  have a1 : G (lf + 2) = some (.inr (1, [.int (nI 0), .ref g, .ref (lf + 3), .ref (lf + 4), .ref (lf + 5)])) := by rw [← hg0]; exact xt_ha
  have a2 : G (lf + 3) = some (.inl (D.1 100, N, .inl (fun _ => 0))) := by rw [← hg0]; exact xt_hA (by omega) (by omega) (by omega)
  have a3 : G (lf + 4) = some (.inl (D.1 100, N, .inl (fun _ => 0))) := by rw [← hg0]; exact xt_hO (by omega) (by omega)
  have a4 : G (lf + 5) = some (.inl (D.1 100, N + 1, .inl (fun _ => 0))) := by rw [← hg0]; exact xt_hS (by omega)
  have a5 : ∀ q, q < lf → G q = h q := fun q hq => by rw [← hg0]; exact xt_hn (xa_u_ne (xa_u_ne (xa_u_ne rfl (by omega)) (by omega)) (by omega)) (by omega) (by omega) (by omega) (by omega)
  have a6 : G g = some (.inr (3, [.int (nI N), v2])) := by rw [a5 g (by omega)]; exact hg
  refine xa_putF f_Life_33 rfl (fun q hq => by cases hq; rfl) d_Life_init_33 a0 (Nat.le_of_ble_eq_true rfl) rfl rfl ?_
  refine xa_heap (h' := xa_u G lf (.inr (5, [.ref g, .ref aK, .ref (lf + 1), .ref (lf + 2), .null, .null, .null]))) rfl ?_
  refine xa_aload_n d_Life_init_36 rfl ?_
  refine xa_aload_n d_Life_init_37 rfl ?_
  refine xa_getf f_Life_19 d_Life_init_38 (xa_u_ne a6 (by omega)) (by rfl) ?_
  refine xa_newZ (N := N) d_Life_init_41 rfl (by omega) (Nat.le_of_ble_eq_true rfl) (show 0 + N + 5 + 508 + N ≤ 1696 by omega) ?_
  refine xa_putF f_Life_37 rfl (fun q hq => by cases hq; rfl) d_Life_init_43 (xa_u_ne (xa_u_eq _ _ _) (by omega)) (Nat.le_of_ble_eq_true rfl) rfl rfl ?_
  refine xa_heap (h' := xa_u (xa_u G (lf + 6) (.inl (D.1 102, N, .inl (fun _ => 0)))) lf (.inr (5, [.ref g, .ref aK, .ref (lf + 1), .ref (lf + 2), .ref (lf + 6), .null, .null]))) (by show xa_u (xa_u (xa_u G lf _) (lf + 6) _) lf _ = _; rw [xa_uc _ (by omega), xa_sw _ (show lf ≠ lf + 6 by omega)]; rfl) ?_
  refine xa_aload_n d_Life_init_46 rfl ?_
  refine xa_iconst (v := nI 4) d_Life_init_47 rfl ?_
  refine xa_aload_n d_Life_init_48 rfl ?_
  refine xa_getf f_Life_19 d_Life_init_49 (xa_u_ne (xa_u_ne a6 (by omega)) (by omega)) (by rfl) ?_
  refine xa_imulN d_Life_init_52 ?_
  refine xa_newI (N := 4 * N) d_Life_init_53 rfl (by omega) (Nat.le_of_ble_eq_true rfl) (show 0 + N + 5 + 508 + N + 4 * N ≤ 1696 by omega) ?_
  refine xa_putF f_Life_41 rfl (fun q hq => by cases hq; rfl) d_Life_init_55 (xa_u_ne (xa_u_eq _ _ _) (by omega)) (Nat.le_of_ble_eq_true rfl) rfl rfl ?_
  refine xa_heap (h' := xa_u (xa_u (xa_u G (lf + 6) (.inl (D.1 102, N, .inl (fun _ => 0)))) (lf + 7) (.inl (D.1 100, 4 * N, .inl (fun _ => 0)))) lf (.inr (5, [.ref g, .ref aK, .ref (lf + 1), .ref (lf + 2), .ref (lf + 6), .ref (lf + 7), .null]))) (by show xa_u (xa_u (xa_u (xa_u G (lf + 6) _) lf _) (lf + 7) _) lf _ = _; rw [xa_uc _ (by omega), xa_sw _ (show lf ≠ lf + 7 by omega)]; rfl) ?_
  refine xa_aload_n d_Life_init_58 rfl ?_
  refine xa_aload_n d_Life_init_59 rfl ?_
  refine xa_getf f_Life_19 d_Life_init_60 (xa_u_ne (xa_u_ne (xa_u_ne a6 (by omega)) (by omega)) (by omega)) (by rfl) ?_
  refine xa_newI (N := N) d_Life_init_63 rfl (by omega) (Nat.le_of_ble_eq_true rfl) (show 0 + N + 5 + 508 + N + 4 * N + N ≤ 1696 by omega) ?_
  refine xa_putF f_Life_44 rfl (fun q hq => by cases hq; rfl) d_Life_init_65 (xa_u_ne (xa_u_eq _ _ _) (by omega)) (Nat.le_of_ble_eq_true rfl) rfl rfl ?_
  refine xa_heap (h' := xa_u (xa_u (xa_u (xa_u G (lf + 6) (.inl (D.1 102, N, .inl (fun _ => 0)))) (lf + 7) (.inl (D.1 100, 4 * N, .inl (fun _ => 0)))) (lf + 8) (.inl (D.1 100, N, .inl (fun _ => 0)))) lf (.inr (5, [.ref g, .ref aK, .ref (lf + 1), .ref (lf + 2), .ref (lf + 6), .ref (lf + 7), .ref (lf + 8)]))) (by show xa_u (xa_u (xa_u (xa_u (xa_u G (lf + 6) _) (lf + 7) _) lf _) (lf + 8) _) lf _ = _; rw [xa_uc _ (by omega), xa_sw _ (show lf ≠ lf + 8 by omega)]; rfl) ?_
  have fr : ∀ (E : va_E) (q : Nat), q ≠ lf → (q < lf + 6 ∨ lf + 9 ≤ q) → xa_u (xa_u (xa_u (xa_u G (lf + 6) (.inl (D.1 102, N, .inl (fun _ => 0)))) (lf + 7) (.inl (D.1 100, 4 * N, .inl (fun _ => 0)))) (lf + 8) (.inl (D.1 100, N, .inl (fun _ => 0)))) lf E q = G q := fun E q h1 h2 => xa_u_ne (xa_u_ne (xa_u_ne (xa_u_ne rfl (by omega)) (by omega)) (by omega)) h1
  refine xa_return d_Life_init_68 rfl (Nat.le_of_ble_eq_true rfl) (show 0 + N + 5 + 508 + N + 4 * N + N ≤ 1696 by omega) ⟨rfl, ?_, fun q hq => by rw [fr _ q (by omega) (by omega), a5 q hq], rfl⟩
  refine ⟨0, fun _ => 0, fun _ => 0, fun _ => 0, fun _ => 0, fun _ => 0, fun _ => 0, fun _ => 0, xa_u_eq _ _ _, ?_, ?_, ?_, ?_, ?_, ?_, ?_, ?_⟩
  · rw [fr _ _ (by omega) (by omega)]; exact b1
  · rw [fr _ _ (by omega) (by omega)]; exact a1
  · rw [fr _ _ (by omega) (by omega)]; exact a2
  · rw [fr _ _ (by omega) (by omega)]; exact a3
  · rw [fr _ _ (by omega) (by omega)]; exact a4
  · exact xa_u_ne (xa_u_ne (xa_u_ne (xa_u_eq _ _ _) (by omega)) (by omega)) (by omega)
  · exact xa_u_ne (xa_u_ne (xa_u_eq _ _ _) (by omega)) (by omega)
  · exact xa_u_ne (xa_u_eq _ _ _) (by omega)
theorem c_SB_init {o T : Nat} {v0 : Int32} (ho : h o = some (.inr (0, [.int 0, .null, .null, .null, .null, .null, .null, .int 0]))) (hs : sz = o + 1) :
    xa_M l D H0 M_SB_init 5 115 27 3901 [.ref o, .int v0] h sz (fun v h' sz' => v = none ∧ xS_S D h' o T (gx_size v0) 1 (fun _ => 0) 0 (fun _ _ => 0) (fun _ => -2) (fun _ => 0) (fun _ => 0) ∧ (∀ q, q < o → h' q = h q) ∧ sz' = sz + 27) := by
  have hn := gx_size_le v0
  have hsz := gx_size_eq v0
  generalize gx_size v0 = n at hn hsz
  have hN : n * n ≤ 169 := Nat.mul_le_mul hn.2 hn.2
  refine xa_enter (by decide) rfl rfl ?_
  subst hs
  refine xa_aload_n d_SB_init_0 rfl ?_
  refine xa_objInit k_SB_1 w_oi w_oc d_SB_init_1 (by decide) (by decide) ?_
  refine xa_iconst (v := nI 2) d_SB_init_4 rfl ?_
  refine xa_bipush (v := nI 13) d_SB_init_5 (by decide) ?_
  refine xa_iload_n d_SB_init_7 rfl ?_
  refine xa_min k_SB_9 d_SB_init_8 (by decide) (Nat.le_of_ble_eq_true rfl) (Nat.le_of_ble_eq_true rfl) (Nat.le_of_ble_eq_true rfl) ?_
  refine xa_max k_SB_15 d_SB_init_11 (by decide) (Nat.le_of_ble_eq_true rfl) (Nat.le_of_ble_eq_true rfl) (Nat.le_of_ble_eq_true rfl) ?_
  refine xa_int hsz ?_
  refine xa_istore_n d_SB_init_14 rfl rfl ?_
  refine xa_new n_SB_18 d_SB_init_15 (Nat.le_of_ble_eq_true rfl) (Nat.le_of_ble_eq_true rfl) ?_
  refine xa_dup d_SB_init_18 rfl ?_
  refine xa_iload_n d_SB_init_19 rfl ?_
  refine xa_callI (As := [.int (nI n)]) (st := [.ref (o + 1)]) d_SB_init_20 k_SB_20 (c_Grid_init hn (xa_u_eq _ _ _) rfl) rfl rfl (Nat.le_of_ble_eq_true rfl) ⟨by decide, by decide⟩ (Nat.le_of_ble_eq_true rfl) (Nat.le_of_ble_eq_true rfl) (fun v h' sz' hq => ?_)
  obtain ⟨f, hf, e1, e2, e3⟩ := hq
  rw [e1, e2, e3]
  generalize hg1 : xg_h D (xa_u h (o + 1) (.inr (3, [.int 0, .null]))) (o + 1) (n * n) f = G1
  have a1 : G1 (o + 1) = some (.inr (3, [.int (nI (n * n)), .ref (o + 2)])) := by rw [← hg1]; exact xa_u_ne (xa_u_eq _ _ _) (by omega)
  have a2 : G1 (o + 2) = some (.inl (D.1 100, 4 * (n * n), .inl f)) := by rw [← hg1]; exact xa_u_eq _ _ _
  have a3 : ∀ q, q < o + 1 → G1 q = h q := fun q hq => by rw [← hg1]; exact xa_u_ne (xa_u_ne (xa_u_ne rfl (by omega)) (by omega)) (by omega)
  have a4 : G1 o = some (.inr (0, [.int 0, .null, .null, .null, .null, .null, .null, .int 0])) := by rw [a3 o (by omega)]; exact ho
  refine xa_astore_n d_SB_init_23 rfl rfl ?_
  refine xa_aload_n d_SB_init_24 rfl ?_
  refine xa_getf f_SB_23 d_SB_init_25 (by assumption) (by rfl) ?_
  refine xa_newI (N := n * n) d_SB_init_28 rfl (by omega) (Nat.le_of_ble_eq_true rfl) (show 0 + 2 + 676 + n * n ≤ 3901 by omega) ?_
  refine xa_astore d_SB_init_30 rfl rfl ?_
  refine xa_aload_n d_SB_init_32 rfl ?_
  refine xa_iload_n d_SB_init_33 rfl ?_
  refine xa_putF f_SB_27 rfl (fun q hq => by cases hq; rfl) d_SB_init_34 (xa_u_ne a4 (by omega)) (Nat.le_of_ble_eq_true rfl) rfl rfl ?_
  refine xa_aload_n d_SB_init_37 rfl ?_
  refine xa_aload_n d_SB_init_38 rfl ?_
  refine xa_putF f_SB_30 rfl (fun q hq => by cases hq; rfl) d_SB_init_39 (xa_u_eq _ _ _) (Nat.le_of_ble_eq_true rfl) rfl rfl ?_
  rw [xa_uu]
  refine xa_aload_n d_SB_init_42 rfl ?_
  refine xa_aload d_SB_init_43 rfl ?_
  refine xa_putF f_SB_34 rfl (fun q hq => by cases hq; rfl) d_SB_init_45 (xa_u_eq _ _ _) (Nat.le_of_ble_eq_true rfl) rfl rfl ?_
  rw [xa_uu]
  refine xa_heap (h' := xa_u (xa_u G1 (o + 3) (.inl (D.1 100, n * n, .inl (fun q => nI ((fun _ => 0) q))))) o (.inr (0, [.int (nI n), .ref (o + 1), .ref (o + 3), .null, .null, .null, .null, .int 0]))) rfl ?_
  refine xa_aload_n d_SB_init_48 rfl ?_
  refine xa_new n_SB_38 d_SB_init_49 (Nat.le_of_ble_eq_true rfl) (show 0 + 2 + 676 + n * n + 7 ≤ 3901 by omega) ?_
  refine xa_dup d_SB_init_52 rfl ?_
  refine xa_aload_n d_SB_init_53 rfl ?_
  refine xa_aload d_SB_init_54 rfl ?_
  generalize hg2 : xa_u (xa_u (xa_u G1 (o + 3) (.inl (D.1 100, n * n, .inl (fun q => nI ((fun _ => 0) q))))) o (.inr (0, [.int (nI n), .ref (o + 1), .ref (o + 3), .null, .null, .null, .null, .int 0]))) (o + 1 + 1 + 1 + 1) (.inr (2, [.null, .null, .null, .null, .null, .null, .null])) = G2
  have b0 : G2 o = some (.inr (0, [.int (nI n), .ref (o + 1), .ref (o + 3), .null, .null, .null, .null, .int 0])) := by rw [← hg2]; exact xa_u_ne (xa_u_eq _ _ _) (by omega)
  have b1 : G2 (o + 1) = some (.inr (3, [.int (nI (n * n)), .ref (o + 2)])) := by rw [← hg2]; exact xa_u_ne (xa_u_ne (xa_u_ne a1 (by omega)) (by omega)) (by omega)
  have b2 : G2 (o + 2) = some (.inl (D.1 100, 4 * (n * n), .inl f)) := by rw [← hg2]; exact xa_u_ne (xa_u_ne (xa_u_ne a2 (by omega)) (by omega)) (by omega)
  have b3 : G2 (o + 3) = some (.inl (D.1 100, n * n, .inl (fun q => nI ((fun _ => 0) q)))) := by rw [← hg2]; exact xa_u_ne (xa_u_ne (xa_u_eq _ _ _) (by omega)) (by omega)
  have b4 : G2 (o + 4) = some (.inr (2, [.null, .null, .null, .null, .null, .null, .null])) := by rw [← hg2]; exact xa_u_eq _ _ _
  have b5 : ∀ q, q < o → G2 q = h q := fun q hq => by rw [← hg2, ← a3 q (by omega)]; exact xa_u_ne (xa_u_ne (xa_u_ne rfl (by omega)) (by omega)) (by omega)
  refine xa_callI (As := [.ref (o + 1), .ref (o + 3)]) (st := [.ref (o + 4), .ref o]) d_SB_init_56 k_SB_40 (c_Chart_init (n := n) (g := o + 1) (aK := o + 3) (f := f) (b := fun _ => 0) b4 b1 b2 b3 (by omega) hN hf (fun _ _ => by omega) rfl) rfl rfl (Nat.le_of_ble_eq_true rfl) ⟨by decide, by decide⟩ (Nat.le_of_ble_eq_true rfl) (show 0 + 2 + 676 + n * n + 7 + 1189 ≤ 3901 by omega) (fun v h' sz' hq => ?_)
  obtain ⟨e1, hC, hfr, e3⟩ := hq
  rw [e1, e3]
  refine xa_putF f_SB_43 rfl (fun q hq => by cases hq; rfl) d_SB_init_59 (by rw [hfr o (by omega)]; exact b0) (Nat.le_of_ble_eq_true rfl) rfl rfl ?_
  have c0 : xa_u h' o (.inr (0, [.int (nI n), .ref (o + 1), .ref (o + 3), .ref (o + 4), .null, .null, .null, .int 0])) o = some (.inr (0, [.int (nI n), .ref (o + 1), .ref (o + 3), .ref (o + 4), .null, .null, .null, .int 0])) := xa_u_eq _ _ _
  refine xa_heap (h' := xa_u h' o (.inr (0, [.int (nI n), .ref (o + 1), .ref (o + 3), .ref (o + 4), .null, .null, .null, .int 0]))) rfl ?_
  refine xa_aload_n d_SB_init_62 rfl ?_
  refine xa_new n_SB_47 d_SB_init_63 (Nat.le_of_ble_eq_true rfl) (show 0 + 2 + 676 + n * n + 7 + 1189 + 6 ≤ 3901 by omega) ?_
  refine xa_dup d_SB_init_66 rfl ?_
  refine xa_aload_n d_SB_init_67 rfl ?_
  refine xa_aload d_SB_init_68 rfl ?_
  refine xa_aload_n d_SB_init_70 rfl ?_
  refine xa_getf f_SB_43 d_SB_init_71 (xa_u_ne c0 (by omega)) (by rfl) ?_
  generalize hg3 : xa_u (xa_u h' o (.inr (0, [.int (nI n), .ref (o + 1), .ref (o + 3), .ref (o + 4), .null, .null, .null, .int 0]))) (o + 1 + 1 + 1 + 1 + 1 + 8) (.inr (7, [.null, .int 0, .int 0, .null, .null, .null])) = G3
  have c1 : G3 o = some (.inr (0, [.int (nI n), .ref (o + 1), .ref (o + 3), .ref (o + 4), .null, .null, .null, .int 0])) := by rw [← hg3]; exact xa_u_ne c0 (by omega)
  have c2 : ∀ q, q ≠ o → q < o + 13 → G3 q = h' q := fun q h1 h2 => by rw [← hg3]; exact xa_u_ne (xa_u_ne rfl h1) (by omega)
  have c3 : G3 (o + 1) = some (.inr (3, [.int (nI (n * n)), .ref (o + 2)])) := by rw [c2 _ (by omega) (by omega), hfr _ (by omega)]; exact b1
  have c4 : xC_S D G3 n (o + 4) (o + 1) (o + 3) (fun _ => 0) := hC.frame (fun q hq => c2 q (by omega) (by omega))
  have c5 : ∀ q, q < o → G3 q = h q := fun q hq => by rw [c2 q (by omega) (by omega), hfr q (by omega), b5 q hq]
  refine xa_callI (As := [.ref (o + 1), .ref (o + 3), .ref (o + 4)]) (st := [.ref (o + 13), .ref o]) d_SB_init_74 k_SB_49 (c_Trial_init (N := n * n) (tr := o + 13) (g := o + 1) (aK := o + 3) (ch := o + 4) (by rw [← hg3]; exact xa_u_eq _ _ _) c3 (by omega) rfl hN) rfl rfl (Nat.le_of_ble_eq_true rfl) ⟨by decide, by decide⟩ (Nat.le_of_ble_eq_true rfl) (show 0 + 2 + 676 + n * n + 7 + 1189 + 6 + 6 ≤ 3901 by omega) (fun v h4 sz4 hq => ?_)
  obtain ⟨e1, hT, hfr4, e3⟩ := hq
  rw [e1, e3]
  refine xa_putF f_SB_52 rfl (fun q hq => by cases hq; rfl) d_SB_init_77 (by rw [hfr4 o (by omega)]; exact c1) (Nat.le_of_ble_eq_true rfl) rfl rfl ?_
  refine xa_heap (h' := xa_u h4 o (.inr (0, [.int (nI n), .ref (o + 1), .ref (o + 3), .ref (o + 4), .ref (o + 13), .null, .null, .int 0]))) rfl ?_
  refine xa_aload_n d_SB_init_80 rfl ?_
  refine xa_new n_SB_56 d_SB_init_81 (Nat.le_of_ble_eq_true rfl) (show 0 + 2 + 676 + n * n + 7 + 1189 + 6 + 6 + 2 ≤ 3901 by omega) ?_
  generalize hg5 : xa_u (xa_u h4 o (.inr (0, [.int (nI n), .ref (o + 1), .ref (o + 3), .ref (o + 4), .ref (o + 13), .null, .null, .int 0]))) (o + 1 + 1 + 1 + 1 + 1 + 8 + 1 + 1) (.inr (4, [.null, .null])) = G5
  have d1 : G5 o = some (.inr (0, [.int (nI n), .ref (o + 1), .ref (o + 3), .ref (o + 4), .ref (o + 13), .null, .null, .int 0])) := by rw [← hg5]; exact xa_u_ne (xa_u_eq _ _ _) (by omega)
  have d2 : ∀ q, q ≠ o → q < o + 15 → G5 q = h4 q := fun q h1 h2 => by rw [← hg5]; exact xa_u_ne (xa_u_ne rfl h1) (by omega)
  have d3 : G5 (o + 1) = some (.inr (3, [.int (nI (n * n)), .ref (o + 2)])) := by rw [d2 _ (by omega) (by omega), hfr4 _ (by omega)]; exact c3
  have d4 : xC_S D G5 n (o + 4) (o + 1) (o + 3) (fun _ => 0) := c4.frame (fun q hq => by rw [d2 q (by omega) (by omega), hfr4 q (by omega)])
  have d6 : xT_S D G5 (o + 13) (o + 1) (o + 3) (o + 4) (n * n) := by
    obtain ⟨V, k, ls, t1, t2⟩ := hT
    exact ⟨V, k, ls, by rw [d2 _ (by omega) (by omega)]; exact t1, by rw [d2 _ (by omega) (by omega)]; exact t2⟩
  have d5 : ∀ q, q < o → G5 q = h q := fun q hq => by rw [d2 q (by omega) (by omega), hfr4 q (by omega), c5 q hq]
  refine xa_dup d_SB_init_84 rfl ?_
  refine xa_aload_n d_SB_init_85 rfl ?_
  refine xa_getf f_SB_23 d_SB_init_86 (by assumption) (by rfl) ?_
  refine xa_callI (As := [.int (nI (n * n))]) (st := [.ref (o + 15), .ref o]) d_SB_init_89 k_SB_58 (c_History_init (T := T) (hi := o + 15) (by rw [← hg5]; exact xa_u_eq _ _ _) rfl hN) rfl rfl (Nat.le_of_ble_eq_true rfl) ⟨by decide, by decide⟩ (Nat.le_of_ble_eq_true rfl) (show 0 + 2 + 676 + n * n + 7 + 1189 + 6 + 6 + 2 + 141 ≤ 3901 by omega) (fun v h6 sz6 hq => ?_)
  obtain ⟨e1, hH, hfr6, e3⟩ := hq
  rw [e1, e3]
  refine xa_pre (fun hp1 hp2 => ?_)
  refine xa_putF f_SB_59 rfl (fun q hq => by cases hq; rfl) d_SB_init_92 (by rw [hfr6 o (by omega)]; exact d1) (Nat.le_of_ble_eq_true rfl) rfl rfl ?_
  refine xa_heap (h' := xa_u h6 o (.inr (0, [.int (nI n), .ref (o + 1), .ref (o + 3), .ref (o + 4), .ref (o + 13), .ref (o + 15), .null, .int 0]))) rfl ?_
  refine xa_aload_n d_SB_init_95 rfl ?_
  refine xa_new n_SB_63 d_SB_init_96 (Nat.le_of_ble_eq_true rfl) (show 0 + 2 + 676 + n * n + 7 + 1189 + 6 + 6 + 2 + 141 + 7 ≤ 3901 by omega) ?_
  refine xa_dup d_SB_init_99 rfl ?_
  refine xa_aload_n d_SB_init_100 rfl ?_
  refine xa_aload d_SB_init_101 rfl ?_
  generalize hg7 : xa_u (xa_u h6 o (.inr (0, [.int (nI n), .ref (o + 1), .ref (o + 3), .ref (o + 4), .ref (o + 13), .ref (o + 15), .null, .int 0]))) (o + 1 + 1 + 1 + 1 + 1 + 8 + 1 + 1 + 1 + 3) (.inr (5, [.null, .null, .null, .null, .null, .null, .null])) = G7
  have g1 : G7 o = some (.inr (0, [.int (nI n), .ref (o + 1), .ref (o + 3), .ref (o + 4), .ref (o + 13), .ref (o + 15), .null, .int 0])) := by rw [← hg7]; exact xa_u_ne (xa_u_eq _ _ _) (by omega)
  have g2 : ∀ q, q ≠ o → q ≠ o + 19 → G7 q = h6 q := fun q h1 h2 => by rw [← hg7]; exact xa_u_ne (xa_u_ne rfl h1) (by omega)
  have g3 : G7 (o + 1) = some (.inr (3, [.int (nI (n * n)), .ref (o + 2)])) := by rw [g2 _ (by omega) (by omega), hfr6 _ (by omega)]; exact d3
  refine xa_callI (As := [.ref (o + 1), .ref (o + 3)]) (st := [.ref (o + 19), .ref o]) d_SB_init_103 k_SB_65 (c_Life_init (N := n * n) (lf := o + 19) (g := o + 1) (aK := o + 3) (by rw [← hg7]; exact xa_u_eq _ _ _) g3 (by omega) rfl hN) rfl rfl (Nat.le_of_ble_eq_true rfl) ⟨by decide, by decide⟩ (Nat.le_of_ble_eq_true rfl) (show 0 + 2 + 676 + n * n + 7 + 1189 + 6 + 6 + 2 + 141 + 7 + 1696 ≤ 3901 by omega) (fun v h8 sz8 hq => ?_)
  obtain ⟨e1, hL, hfr8, e3⟩ := hq
  rw [e1, e3]
  refine xa_putF f_SB_66 rfl (fun q hq => by cases hq; rfl) d_SB_init_106 (by rw [hfr8 o (by omega)]; exact g1) (Nat.le_of_ble_eq_true rfl) rfl rfl ?_
  refine xa_aload_n d_SB_init_109 rfl ?_
  refine xa_iconst (v := nI 1) d_SB_init_110 rfl ?_
  refine xa_putf f_SB_70 d_SB_init_111 (xa_u_eq _ _ _) (Nat.le_of_ble_eq_true rfl) rfl rfl ?_
  rw [xa_uu]
  have m1 : ∀ (E : va_E) (q : Nat), q ≠ o → xa_u h8 o E q = h8 q := fun E q hq => xa_u_ne rfl hq
  have m2 : ∀ (E : va_E) (q : Nat), q ≠ o → q < o + 19 → xa_u h8 o E q = h6 q := fun E q h1 h2 => by rw [m1 E q h1, hfr8 q h2, g2 q h1 (by omega)]
  have m3 : ∀ (E : va_E) (q : Nat), q ≠ o → q < o + 15 → xa_u h8 o E q = G5 q := fun E q h1 h2 => by rw [m2 E q h1 (by omega), hfr6 q h2]
  refine xa_return d_SB_init_114 rfl (Nat.le_of_ble_eq_true rfl) (show 0 + 2 + 676 + n * n + 7 + 1189 + 6 + 6 + 2 + 141 + 7 + 1696 ≤ 3901 by omega) ⟨rfl, ⟨xa_u_eq _ _ _, d4.frame (fun q hq => m3 _ q (by omega) (by omega)), ?_, ?_, ?_⟩, fun q hq => by rw [m3 _ q (by omega) (by omega), d5 q hq], by omega⟩
  · obtain ⟨V, k, ls, t1, t2⟩ := d6
    exact ⟨V, k, ls, by rw [m3 _ _ (by omega) (by omega)]; exact t1, by rw [m3 _ _ (by omega) (by omega)]; exact t2⟩
  · refine xh_S_frame hH (fun a e ha hk => ?_)
    have hlt : a < o + 19 := by have := (hp2 a e ha).2; omega
    have hao : a ≠ o := by
      rcases hk with hk | hk | ⟨hk, hk2⟩ <;> omega
    rw [m2 _ a hao hlt]
    exact ha
  · obtain ⟨c, K, A, O, S, ST, BT, RG, t0, t1, t2, t3, t4, t5, t6, t7, t8⟩ := hL
    exact ⟨c, K, A, O, S, ST, BT, RG, by rw [m1 _ _ (by omega)]; exact t0, by rw [m1 _ _ (by omega)]; exact t1, by rw [m1 _ _ (by omega)]; exact t2, by rw [m1 _ _ (by omega)]; exact t3, by rw [m1 _ _ (by omega)]; exact t4, by rw [m1 _ _ (by omega)]; exact t5, by rw [m1 _ _ (by omega)]; exact t6, by rw [m1 _ _ (by omega)]; exact t7, by rw [m1 _ _ (by omega)]; exact t8⟩
end SI
end
section
/-! What a throw needs (printed by gen/thr.py). -/
abbrev xa_ok (w : Cond) : Prop := w ∈ xa_ws ∨ w = Cond.laysStatic "java/lang/Throwable" "UNASSIGNED_STACK" "[Ljava/lang/StackTraceElement;" ∨ w = Cond.laysStatic "java/lang/Throwable" "SUPPRESSED_SENTINEL" "Ljava/util/List;" ∨ w = Cond.isRef (.static "java/lang/Throwable" "UNASSIGNED_STACK" "[Ljava/lang/StackTraceElement;") ∨ w = Cond.isRef (.static "java/lang/Throwable" "SUPPRESSED_SENTINEL" "Ljava/util/List;")
def xa_al : List Cond → Prop
  | [] => True
  | w :: r => xa_ok w ∧ xa_al r
theorem xa_all {L : List Cond} (h : xa_al L) : ∀ w ∈ L, xa_ok w := by
  induction L with
  | nil => intro w hw; cases hw
  | cons x r ih =>
    intro w hw
    rcases List.mem_cons.mp hw with e | e
    · rw [e]; exact h.1
    · exact ih h.2 w e
theorem t_IOOB : xa_thr "StoneBoard" 144 146 "java/lang/IndexOutOfBoundsException" := ⟨xa_m2 163 rfl rfl, xa_m1 16 rfl rfl, by decide +kernel, xa_all ⟨Or.inl (xa_m1 13 rfl rfl), Or.inl (xa_m2 185 rfl rfl), Or.inl (xa_m2 194 rfl rfl), Or.inl (xa_m2 198 rfl rfl), Or.inl (xa_m2 201 rfl rfl), Or.inl (xa_m2 203 rfl rfl), Or.inl (xa_m2 186 rfl rfl), Or.inl (xa_m2 187 rfl rfl), Or.inl (xa_m1 26 rfl rfl), Or.inl (xa_m1 27 rfl rfl), Or.inl (xa_m2 188 rfl rfl), Or.inl (xa_m2 193 rfl rfl), Or.inl (xa_m2 199 rfl rfl), Or.inl (xa_m2 215 rfl rfl), Or.inl (xa_m2 175 rfl rfl), Or.inl (xa_m2 216 rfl rfl), Or.inl (xa_m2 177 rfl rfl), Or.inl (xa_m2 217 rfl rfl), Or.inl (xa_m2 179 rfl rfl), Or.inl (xa_m2 189 rfl rfl), Or.inr (Or.inl rfl), Or.inl (xa_m2 191 rfl rfl), Or.inr (Or.inr (Or.inl rfl)), Or.inl (xa_m2 181 rfl rfl), Or.inl (xa_m2 205 rfl rfl), Or.inl (xa_m2 206 rfl rfl), Or.inl (xa_m2 207 rfl rfl), Or.inl (xa_m2 208 rfl rfl), Or.inl (xa_m2 166 rfl rfl), Or.inl (xa_m2 208 rfl rfl), Or.inl (xa_m2 209 rfl rfl), Or.inl (xa_m2 210 rfl rfl), Or.inl (xa_m2 211 rfl rfl), Or.inl (xa_m2 168 rfl rfl), Or.inl (xa_m2 211 rfl rfl), Or.inl (xa_m2 212 rfl rfl), Or.inl (xa_m2 213 rfl rfl), Or.inl (xa_m2 186 rfl rfl), Or.inl (xa_m2 170 rfl rfl), Or.inl (xa_m2 204 rfl rfl), Or.inl (xa_m2 164 rfl rfl), Or.inl (xa_m2 165 rfl rfl), Or.inl (xa_m2 172 rfl rfl), Or.inl (xa_m2 173 rfl rfl), Or.inl (xa_m2 174 rfl rfl), Or.inl (xa_m2 176 rfl rfl), Or.inl (xa_m2 178 rfl rfl), Or.inl (xa_m2 180 rfl rfl), Or.inr (Or.inr (Or.inr (Or.inl rfl))), Or.inr (Or.inr (Or.inr (Or.inr rfl))), Or.inl (xa_m2 184 rfl rfl), Or.inl (xa_m2 183 rfl rfl), Or.inl (xa_m2 182 rfl rfl), trivial⟩⟩
theorem t_IAE : xa_thr "StoneBoard" 156 158 "java/lang/IllegalArgumentException" := ⟨xa_m2 238 rfl rfl, xa_m1 17 rfl rfl, by decide +kernel, xa_all ⟨Or.inl (xa_m1 13 rfl rfl), Or.inl (xa_m2 185 rfl rfl), Or.inl (xa_m2 194 rfl rfl), Or.inl (xa_m2 198 rfl rfl), Or.inl (xa_m2 201 rfl rfl), Or.inl (xa_m2 203 rfl rfl), Or.inl (xa_m2 186 rfl rfl), Or.inl (xa_m2 187 rfl rfl), Or.inl (xa_m1 26 rfl rfl), Or.inl (xa_m1 27 rfl rfl), Or.inl (xa_m2 188 rfl rfl), Or.inl (xa_m2 193 rfl rfl), Or.inl (xa_m2 199 rfl rfl), Or.inl (xa_m2 215 rfl rfl), Or.inl (xa_m2 175 rfl rfl), Or.inl (xa_m2 216 rfl rfl), Or.inl (xa_m2 177 rfl rfl), Or.inl (xa_m2 217 rfl rfl), Or.inl (xa_m2 179 rfl rfl), Or.inl (xa_m2 189 rfl rfl), Or.inr (Or.inl rfl), Or.inl (xa_m2 191 rfl rfl), Or.inr (Or.inr (Or.inl rfl)), Or.inl (xa_m2 181 rfl rfl), Or.inl (xa_m3 8 rfl rfl), Or.inl (xa_m3 9 rfl rfl), Or.inl (xa_m3 10 rfl rfl), Or.inl (xa_m2 208 rfl rfl), Or.inl (xa_m2 166 rfl rfl), Or.inl (xa_m2 208 rfl rfl), Or.inl (xa_m2 209 rfl rfl), Or.inl (xa_m2 210 rfl rfl), Or.inl (xa_m2 211 rfl rfl), Or.inl (xa_m2 168 rfl rfl), Or.inl (xa_m2 211 rfl rfl), Or.inl (xa_m2 212 rfl rfl), Or.inl (xa_m2 213 rfl rfl), Or.inl (xa_m2 186 rfl rfl), Or.inl (xa_m2 170 rfl rfl), Or.inl (xa_m3 7 rfl rfl), Or.inl (xa_m2 239 rfl rfl), Or.inl (xa_m3 0 rfl rfl), Or.inl (xa_m3 1 rfl rfl), Or.inl (xa_m2 196 rfl rfl), Or.inl (xa_m3 2 rfl rfl), Or.inl (xa_m3 3 rfl rfl), Or.inl (xa_m3 4 rfl rfl), Or.inl (xa_m3 5 rfl rfl), Or.inr (Or.inr (Or.inr (Or.inl rfl))), Or.inr (Or.inr (Or.inr (Or.inr rfl))), Or.inl (xa_m2 184 rfl rfl), Or.inl (xa_m2 183 rfl rfl), Or.inl (xa_m3 6 rfl rfl), trivial⟩⟩
theorem t_ISE : xa_thr "StoneBoard" 115 117 "java/lang/IllegalStateException" := ⟨xa_m3 17 rfl rfl, xa_m1 18 rfl rfl, by decide +kernel, xa_all ⟨Or.inl (xa_m1 13 rfl rfl), Or.inl (xa_m2 185 rfl rfl), Or.inl (xa_m2 194 rfl rfl), Or.inl (xa_m2 198 rfl rfl), Or.inl (xa_m2 201 rfl rfl), Or.inl (xa_m2 203 rfl rfl), Or.inl (xa_m2 186 rfl rfl), Or.inl (xa_m2 187 rfl rfl), Or.inl (xa_m1 26 rfl rfl), Or.inl (xa_m1 27 rfl rfl), Or.inl (xa_m2 188 rfl rfl), Or.inl (xa_m2 193 rfl rfl), Or.inl (xa_m2 199 rfl rfl), Or.inl (xa_m2 215 rfl rfl), Or.inl (xa_m2 175 rfl rfl), Or.inl (xa_m2 216 rfl rfl), Or.inl (xa_m2 177 rfl rfl), Or.inl (xa_m2 217 rfl rfl), Or.inl (xa_m2 179 rfl rfl), Or.inl (xa_m2 189 rfl rfl), Or.inr (Or.inl rfl), Or.inl (xa_m2 191 rfl rfl), Or.inr (Or.inr (Or.inl rfl)), Or.inl (xa_m2 181 rfl rfl), Or.inl (xa_m3 27 rfl rfl), Or.inl (xa_m3 28 rfl rfl), Or.inl (xa_m3 29 rfl rfl), Or.inl (xa_m2 208 rfl rfl), Or.inl (xa_m2 166 rfl rfl), Or.inl (xa_m2 208 rfl rfl), Or.inl (xa_m2 209 rfl rfl), Or.inl (xa_m2 210 rfl rfl), Or.inl (xa_m2 211 rfl rfl), Or.inl (xa_m2 168 rfl rfl), Or.inl (xa_m2 211 rfl rfl), Or.inl (xa_m2 212 rfl rfl), Or.inl (xa_m2 213 rfl rfl), Or.inl (xa_m2 186 rfl rfl), Or.inl (xa_m2 170 rfl rfl), Or.inl (xa_m3 26 rfl rfl), Or.inl (xa_m3 18 rfl rfl), Or.inl (xa_m3 19 rfl rfl), Or.inl (xa_m3 20 rfl rfl), Or.inl (xa_m2 197 rfl rfl), Or.inl (xa_m3 21 rfl rfl), Or.inl (xa_m3 22 rfl rfl), Or.inl (xa_m3 23 rfl rfl), Or.inl (xa_m3 24 rfl rfl), Or.inr (Or.inr (Or.inr (Or.inl rfl))), Or.inr (Or.inr (Or.inr (Or.inr rfl))), Or.inl (xa_m2 184 rfl rfl), Or.inl (xa_m2 183 rfl rfl), Or.inl (xa_m3 25 rfl rfl), trivial⟩⟩
end
section
/-! StoneBoard: checks, turn, the trial of a move, why, allowed. -/
def gx_turn (fs m : Nat) : Nat := if m % 2 = 0 then fs else 3 - fs
def gx_same (N : Nat) (u t : Nat → Nat) : Prop := ∀ q, q < N → u q = t q
def gx_end (pt : Nat → Int32) (m : Nat) : Prop := pt m = -1 ∧ m ≠ 0 ∧ pt (m - 1) = -1
/-- what is known of the state's numbers -/
def xS_I (n fs : Nat) (b : Nat → Nat) (m : Nat) (bd : Nat → Nat → Nat) : Prop := (2 ≤ n ∧ n ≤ 13) ∧ (fs = 1 ∨ fs = 2) ∧ m < 1000 ∧ (∀ q, q < n * n → bd m q = b q) ∧ ∀ i, i ≤ m → ∀ q, q < n * n → bd i q ≤ 2
/-- the trial as it stands -/
def xT_V (D : va_G) (h : xa_H) (tr g aK ch N : Nat) (t : Nat → Nat) (k ls : Nat) : Prop := ∃ V : Nat → Nat, gp_B N t V ∧ h tr = some (.inr (7, [.ref (tr + 1), .int (nI k), .int (nI ls), .ref g, .ref aK, .ref ch])) ∧ h (tr + 1) = some (xp_c D N V)
theorem gx_turn_or {fs m : Nat} (h : fs = 1 ∨ fs = 2) : gx_turn fs m = 1 ∨ gx_turn fs m = 2 := by
  unfold gx_turn
  split <;> omega
theorem xL_S.frame {D : va_G} {h h' : xa_H} {lf g aK N : Nat} (hS : xL_S D h lf g aK N) (hf : ∀ q, lf ≤ q → q ≤ lf + 8 → h' q = h q) : xL_S D h' lf g aK N := by
  obtain ⟨c, K, A, O, S, ST, BT, RG, t0, t1, t2, t3, t4, t5, t6, t7, t8⟩ := hS
  refine ⟨c, K, A, O, S, ST, BT, RG, ?_, ?_, ?_, ?_, ?_, ?_, ?_, ?_, ?_⟩
  all_goals (rw [hf _ (by omega) (by omega)]; assumption)
/-- a change of the trial's cells alone -/
theorem xS_S.trial {D : va_G} {h h' : xa_H} {o T n fs : Nat} {b : Nat → Nat} {m : Nat} {bd : Nat → Nat → Nat} {pt : Nat → Int32} {tb tw : Nat → Nat} (hS : xS_S D h o T n fs b m bd pt tb tw) (hT : o + 28 ≤ T) (hf : ∀ q, q ≠ o + 13 → q ≠ o + 14 → h' q = h q) (ht : xT_S D h' (o + 13) (o + 1) (o + 3) (o + 4) (n * n)) : xS_S D h' o T n fs b m bd pt tb tw := by
  obtain ⟨s1, s2, s3, s4, s5⟩ := hS
  refine ⟨by rw [hf _ (by omega) (by omega)]; exact s1, s2.frame (fun q hq => hf q (by omega) (by omega)), ht, xh_S_frame s4 (fun a e ha hk => ?_), s5.frame (fun q h1 h2 => hf q (by omega) (by omega))⟩
  rw [hf a (by unfold xh_K at hk; omega) (by unfold xh_K at hk; omega)]
  exact ha
section SB1
variable {l : Launch} {D : va_G} {H0 : Heap} {h : xa_H} {sz : Nat} {R : Room} {o T n fs : Nat} {b : Nat → Nat} {m : Nat} {bd : Nat → Nat → Nat} {pt : Nat → Int32} {tb tw : Nat → Nat}
theorem xS_grid (hS : xS_S D h o T n fs b m bd pt tb tw) : h (o + 1) = some (.inr (3, [.int (nI (n * n)), .ref (o + 2)])) := by
  obtain ⟨s1, ⟨c, f, A, O, S, BR, LB, HO, CB, ar, o', s, ⟨r1, r2, r3, r4, r5, r6, r7, r8, hx⟩, -⟩, -⟩ := hS
  exact r6
theorem xS_stones (hS : xS_S D h o T n fs b m bd pt tb tw) : h (o + 3) = some (.inl (D.1 100, n * n, .inl (fun q => nI (b q)))) := by
  obtain ⟨s1, ⟨c, f, A, O, S, BR, LB, HO, CB, ar, o', s, ⟨r1, r2, r3, r4, r5, r6, r7, r8, hx⟩, -⟩, -⟩ := hS
  exact r8
theorem xS_b (hS : xS_S D h o T n fs b m bd pt tb tw) : ∀ q, q < n * n → b q ≤ 2 := by
  obtain ⟨s1, ⟨c, f, A, O, S, BR, LB, HO, CB, ar, o', s, ⟨r1, r2, r3, r4, r5, r6, r7, r8, hN, hf, hb⟩, -⟩, -⟩ := hS
  exact hb
theorem c_SB_size (hS : xS_S D h o T n fs b m bd pt tb tw) :
    xa_M l D H0 M_SB_size 0 0 0 0 [.ref o] h sz (fun v h' sz' => v = some (.int (nI n)) ∧ h' = h ∧ sz' = sz) := by
  have s1 := hS.1
  refine xa_enter (by decide) rfl rfl ?_
  refine xa_aload_n d_SB_size_0 rfl ?_
  refine xa_getf f_SB_27 d_SB_size_1 (by assumption) (by rfl) ?_
  exact xa_ireturn d_SB_size_4 rfl (by decide) (by decide) ⟨rfl, rfl, rfl⟩
theorem c_SB_moves (hS : xS_S D h o T n fs b m bd pt tb tw) :
    xa_M l D H0 M_SB_moves 0 0 0 0 [.ref o] h sz (fun v h' sz' => v = some (.int (nI m)) ∧ h' = h ∧ sz' = sz) := by
  have s1 := hS.1
  obtain ⟨q, B, ob, F, V, e1, e2, hP, hB, hV, hK⟩ := hS.2.2.2.1
  obtain ⟨p1, p2⟩ := hP m (Nat.le_refl m)
  refine xa_enter (by decide) rfl rfl ?_
  refine xa_aload_n d_SB_moves_0 rfl ?_
  refine xa_getf f_SB_59 d_SB_moves_1 (by assumption) (by rfl) ?_
  refine xa_getf f_SB_96 d_SB_moves_4 (by assumption) (by rfl) ?_
  refine xa_getf f_SB_100 d_SB_moves_7 (by assumption) (by rfl) ?_
  exact xa_ireturn d_SB_moves_10 rfl (by decide) (by decide) ⟨rfl, rfl, rfl⟩
theorem c_SB_turn (hS : xS_S D h o T n fs b m bd pt tb tw) (hI : xS_I n fs b m bd) :
    xa_M l D H0 M_SB_turn 1 20 0 0 [.ref o] h sz (fun v h' sz' => v = some (.int (nI (gx_turn fs m))) ∧ h' = h ∧ sz' = sz) := by
  have s1 := hS.1
  obtain ⟨q, B, ob, F, V, e1, e2, hP, hB, hV, hK⟩ := hS.2.2.2.1
  obtain ⟨p1, p2⟩ := hP m (Nat.le_refl m)
  have hm := hI.2.2.1
  have hfs := hI.2.1
  refine xa_enter (by decide) rfl rfl ?_
  refine xa_aload_n d_SB_turn_0 rfl ?_
  refine xa_getf f_SB_59 d_SB_turn_1 (by assumption) (by rfl) ?_
  refine xa_getf f_SB_96 d_SB_turn_4 (by assumption) (by rfl) ?_
  refine xa_getf f_SB_100 d_SB_turn_7 (by assumption) (by rfl) ?_
  refine xa_iconst (v := nI 2) d_SB_turn_10 rfl ?_
  refine xa_iremN d_SB_turn_11 (by omega) (by omega) (by omega) ?_
  refine xa_if_neN (tgt := 22) d_SB_turn_12 (by decide) (by omega) (fun hz => ?_) (fun hz => ?_)
  ·
    refine xa_aload_n d_SB_turn_22 rfl ?_
    refine xa_getf f_SB_70 d_SB_turn_23 (by assumption) (by rfl) ?_
    refine xa_callSr (As := [.int (nI fs)]) (st := []) d_SB_turn_26 k_SB_105 (c_SB_otherSide (by omega)) rfl rfl (Nat.le_of_ble_eq_true rfl) ⟨by decide, by decide⟩ (by decide) (by decide) ?_
    refine xa_ireturn d_SB_turn_29 rfl (by decide) (by decide) ⟨?_, rfl, rfl⟩
    unfold gx_turn
    rw [if_neg (by omega)]
  ·
    refine xa_aload_n d_SB_turn_15 rfl ?_
    refine xa_getf f_SB_70 d_SB_turn_16 (by assumption) (by rfl) ?_
    refine xa_goto (tgt := 29) d_SB_turn_19 (by decide) ?_
    refine xa_ireturn d_SB_turn_29 rfl (by decide) (by decide) ⟨?_, rfl, rfl⟩
    unfold gx_turn
    rw [if_pos hz]
theorem c_SB_checkPoint {p : Nat} (hS : xS_S D h o T n fs b m bd pt tb tw) (hI : xS_I n fs b m bd) (hp : p < n * n) :
    xa_M l D H0 M_SB_checkPoint 6 89 0 0 [.ref o, .int (nI p)] h sz (fun v h' sz' => v = none ∧ h' = h ∧ sz' = sz) := by
  have s1 := hS.1
  have r6 := xS_grid hS
  have hN : n * n ≤ 169 := Nat.mul_le_mul hI.1.2 hI.1.2
  refine xa_enter (by decide) rfl rfl ?_
  refine xa_iload_n d_SB_checkPoint_0 rfl ?_
  refine xa_if_lt (tgt := 15) d_SB_checkPoint_1 (by decide) (fun hz => ?_) (fun hz => ?_)
  · exact absurd hz (nI_pos (by omega))
  ·
    refine xa_iload_n d_SB_checkPoint_4 rfl ?_
    refine xa_aload_n d_SB_checkPoint_5 rfl ?_
    refine xa_getf f_SB_30 d_SB_checkPoint_6 (by assumption) (by rfl) ?_
    refine xa_getf f_SB_23 d_SB_checkPoint_9 (by assumption) (by rfl) ?_
    refine xa_icmp_ltN (tgt := 23) d_SB_checkPoint_12 (by decide) (by omega) (by omega) (fun hq => ?_) (fun hq => ?_)
    · exact xa_return d_SB_checkPoint_23 rfl (by decide) (by decide) ⟨rfl, rfl, rfl⟩
    · omega
theorem t_SB_checkPoint {x : Int32} (htr : l.stackTraces = false) (hS : xS_S D h o T n fs b m bd pt tb tw) (hx : x < 0 ∨ nI (n * n) ≤ x) :
    xa_T l D H0 M_SB_checkPoint 6 89 1 6 [.ref o, .int x] h sz "java/lang/IndexOutOfBoundsException" (fun h' sz' => h' = h ∧ sz ≤ sz') := by
  have s1 := hS.1
  have r6 := xS_grid hS
  refine xa_enterT (by decide) rfl rfl ?_
  have go : xa_X l D H0 M_SB_checkPoint (xa_rm 6 1 6 89) (xa_Zt D H0 1 6 "java/lang/IndexOutOfBoundsException" (fun h' sz' => h' = h ∧ sz ≤ sz')) 0 0 h sz 15 [(0, .ref o), (1, .int x)] [] :=
    xa_throw htr rfl t_IOOB d_SB_checkPoint_15 d_SB_checkPoint_18 d_SB_checkPoint_19 d_SB_checkPoint_22 (by decide) (by decide) (by decide) (by decide) (by decide) (by decide) (fun sz' hz => ⟨rfl, hz⟩)
  refine xa_iload_n d_SB_checkPoint_0 rfl ?_
  refine xa_if_lt (tgt := 15) d_SB_checkPoint_1 (by decide) (fun hz => ?_) (fun hz => ?_)
  · exact go
  ·
    refine xa_iload_n d_SB_checkPoint_4 rfl ?_
    refine xa_aload_n d_SB_checkPoint_5 rfl ?_
    refine xa_getf f_SB_30 d_SB_checkPoint_6 (by assumption) (by rfl) ?_
    refine xa_getf f_SB_23 d_SB_checkPoint_9 (by assumption) (by rfl) ?_
    refine xa_icmp_lt (tgt := 23) d_SB_checkPoint_12 (by decide) (fun hq => ?_) (fun hq => ?_)
    · exact absurd hq (fun z => by
        rcases hx with hx | hx
        · exact hz hx
        · rw [i32_lt] at z
          rw [Int32.le_iff_toInt_le] at hx
          omega)
    · exact go
theorem c_SB_checkKind {k : Nat} (hk : k ≤ 2) :
    xa_M l D H0 M_SB_checkKind 6 89 0 0 [.int (nI k)] h sz (fun v h' sz' => v = none ∧ h' = h ∧ sz' = sz) := by
  refine xa_enter (by decide) rfl rfl ?_
  refine xa_iload_n d_SB_checkKind_0 rfl ?_
  refine xa_if_lt (tgt := 9) d_SB_checkKind_1 (by decide) (fun hz => ?_) (fun hz => ?_)
  · exact absurd hz (nI_pos (by omega))
  ·
    refine xa_iload_n d_SB_checkKind_4 rfl ?_
    refine xa_iconst (v := nI 2) d_SB_checkKind_5 rfl ?_
    refine xa_icmp_leN (tgt := 17) d_SB_checkKind_6 (by decide) (by omega) (by omega) (fun hq => ?_) (fun hq => ?_)
    · exact xa_return d_SB_checkKind_17 rfl (by decide) (by decide) ⟨rfl, rfl, rfl⟩
    · omega
theorem t_SB_checkKind {x : Int32} (htr : l.stackTraces = false) (hx : x < 0 ∨ nI 2 < x) :
    xa_T l D H0 M_SB_checkKind 6 89 1 6 [.int x] h sz "java/lang/IllegalArgumentException" (fun h' sz' => h' = h ∧ sz ≤ sz') := by
  refine xa_enterT (by decide) rfl rfl ?_
  have go : xa_X l D H0 M_SB_checkKind (xa_rm 6 1 6 89) (xa_Zt D H0 1 6 "java/lang/IllegalArgumentException" (fun h' sz' => h' = h ∧ sz ≤ sz')) 0 0 h sz 9 [(0, .int x)] [] :=
    xa_throw htr rfl t_IAE d_SB_checkKind_9 d_SB_checkKind_12 d_SB_checkKind_13 d_SB_checkKind_16 (by decide) (by decide) (by decide) (by decide) (by decide) (by decide) (fun sz' hz => ⟨rfl, hz⟩)
  refine xa_iload_n d_SB_checkKind_0 rfl ?_
  refine xa_if_lt (tgt := 9) d_SB_checkKind_1 (by decide) (fun hz => ?_) (fun hz => ?_)
  · exact go
  ·
    refine xa_iload_n d_SB_checkKind_4 rfl ?_
    refine xa_iconst (v := nI 2) d_SB_checkKind_5 rfl ?_
    refine xa_icmp_le (tgt := 17) d_SB_checkKind_6 (by decide) (fun hq => ?_) (fun hq => ?_)
    · exact absurd hq (fun z => by
        rcases hx with hx | hx
        · exact hz hx
        · rw [i32_lt] at hx
          rw [Int32.le_iff_toInt_le] at z
          omega)
    · exact go
theorem c_SB_checkSide {k : Nat} (hk : k = 1 ∨ k = 2) :
    xa_M l D H0 M_SB_checkSide 6 89 0 0 [.int (nI k)] h sz (fun v h' sz' => v = none ∧ h' = h ∧ sz' = sz) := by
  refine xa_enter (by decide) rfl rfl ?_
  refine xa_iload_n d_SB_checkSide_0 rfl ?_
  refine xa_iconst (v := nI 1) d_SB_checkSide_1 rfl ?_
  refine xa_icmp_eqN (tgt := 18) d_SB_checkSide_2 (by decide) (by omega) (by omega) (fun hz => ?_) (fun hz => ?_)
  · exact xa_return d_SB_checkSide_18 rfl (by decide) (by decide) ⟨rfl, rfl, rfl⟩
  ·
    refine xa_iload_n d_SB_checkSide_5 rfl ?_
    refine xa_iconst (v := nI 2) d_SB_checkSide_6 rfl ?_
    refine xa_icmp_eqN (tgt := 18) d_SB_checkSide_7 (by decide) (by omega) (by omega) (fun hq => ?_) (fun hq => ?_)
    · exact xa_return d_SB_checkSide_18 rfl (by decide) (by decide) ⟨rfl, rfl, rfl⟩
    · omega
theorem t_SB_checkSide {x : Int32} (htr : l.stackTraces = false) (hx : x ≠ nI 1 ∧ x ≠ nI 2) :
    xa_T l D H0 M_SB_checkSide 6 89 1 6 [.int x] h sz "java/lang/IllegalArgumentException" (fun h' sz' => h' = h ∧ sz ≤ sz') := by
  refine xa_enterT (by decide) rfl rfl ?_
  refine xa_iload_n d_SB_checkSide_0 rfl ?_
  refine xa_iconst (v := nI 1) d_SB_checkSide_1 rfl ?_
  refine xa_icmp_eq (tgt := 18) d_SB_checkSide_2 (by decide) (fun hz => ?_) (fun hz => ?_)
  · exact absurd hz hx.1
  ·
    refine xa_iload_n d_SB_checkSide_5 rfl ?_
    refine xa_iconst (v := nI 2) d_SB_checkSide_6 rfl ?_
    refine xa_icmp_eq (tgt := 18) d_SB_checkSide_7 (by decide) (fun hq => ?_) (fun hq => ?_)
    · exact absurd hq hx.2
    · exact xa_throw htr rfl t_IAE d_SB_checkSide_10 d_SB_checkSide_13 d_SB_checkSide_14 d_SB_checkSide_17 (by decide) (by decide) (by decide) (by decide) (by decide) (by decide) (fun sz' hz => ⟨rfl, hz⟩)
theorem c_SB_checkNoMoveYet (hS : xS_S D h o T n fs b m bd pt tb tw) (hm : m = 0) :
    xa_M l D H0 M_SB_checkNoMoveYet 6 89 0 0 [.ref o] h sz (fun v h' sz' => v = none ∧ h' = h ∧ sz' = sz) := by
  have s1 := hS.1
  obtain ⟨q, B, ob, F, V, e1, e2, hP, hB, hV, hK⟩ := hS.2.2.2.1
  obtain ⟨p1, p2⟩ := hP m (Nat.le_refl m)
  refine xa_enter (by decide) rfl rfl ?_
  refine xa_aload_n d_SB_checkNoMoveYet_0 rfl ?_
  refine xa_getf f_SB_59 d_SB_checkNoMoveYet_1 (by assumption) (by rfl) ?_
  refine xa_getf f_SB_96 d_SB_checkNoMoveYet_4 (by assumption) (by rfl) ?_
  refine xa_getf f_SB_100 d_SB_checkNoMoveYet_7 (by assumption) (by rfl) ?_
  refine xa_if_eqN (tgt := 21) d_SB_checkNoMoveYet_10 (by decide) (by omega) (fun hz => ?_) (fun hz => ?_)
  · exact xa_return d_SB_checkNoMoveYet_21 rfl (by decide) (by decide) ⟨rfl, rfl, rfl⟩
  · omega
theorem t_SB_checkNoMoveYet (htr : l.stackTraces = false) (hS : xS_S D h o T n fs b m bd pt tb tw) (hm : m ≠ 0 ∧ m < 1000) :
    xa_T l D H0 M_SB_checkNoMoveYet 6 89 1 6 [.ref o] h sz "java/lang/IllegalStateException" (fun h' sz' => h' = h ∧ sz ≤ sz') := by
  have s1 := hS.1
  obtain ⟨q, B, ob, F, V, e1, e2, hP, hB, hV, hK⟩ := hS.2.2.2.1
  obtain ⟨p1, p2⟩ := hP m (Nat.le_refl m)
  refine xa_enterT (by decide) rfl rfl ?_
  refine xa_aload_n d_SB_checkNoMoveYet_0 rfl ?_
  refine xa_getf f_SB_59 d_SB_checkNoMoveYet_1 (by assumption) (by rfl) ?_
  refine xa_getf f_SB_96 d_SB_checkNoMoveYet_4 (by assumption) (by rfl) ?_
  refine xa_getf f_SB_100 d_SB_checkNoMoveYet_7 (by assumption) (by rfl) ?_
  refine xa_if_eqN (tgt := 21) d_SB_checkNoMoveYet_10 (by decide) (by omega) (fun hz => ?_) (fun hz => ?_)
  · omega
  · exact xa_throw htr rfl t_ISE d_SB_checkNoMoveYet_13 d_SB_checkNoMoveYet_16 d_SB_checkNoMoveYet_17 d_SB_checkNoMoveYet_20 (by decide) (by decide) (by decide) (by decide) (by decide) (by decide) (fun sz' hz => ⟨rfl, hz⟩)
theorem c_SB_checkRoomForMove (hS : xS_S D h o T n fs b m bd pt tb tw) (hm : m < 1000) :
    xa_M l D H0 M_SB_checkRoomForMove 6 89 0 0 [.ref o] h sz (fun v h' sz' => v = none ∧ h' = h ∧ sz' = sz) := by
  have s1 := hS.1
  obtain ⟨q, B, ob, F, V, e1, e2, hP, hB, hV, hK⟩ := hS.2.2.2.1
  obtain ⟨p1, p2⟩ := hP m (Nat.le_refl m)
  refine xa_enter (by decide) rfl rfl ?_
  refine xa_aload_n d_SB_checkRoomForMove_0 rfl ?_
  refine xa_getf f_SB_59 d_SB_checkRoomForMove_1 (by assumption) (by rfl) ?_
  refine xa_getf f_SB_96 d_SB_checkRoomForMove_4 (by assumption) (by rfl) ?_
  refine xa_getf f_SB_100 d_SB_checkRoomForMove_7 (by assumption) (by rfl) ?_
  refine xa_sipush (v := nI 1000) d_SB_checkRoomForMove_10 (by decide) ?_
  refine xa_icmp_ltN (tgt := 24) d_SB_checkRoomForMove_13 (by decide) (by omega) (by omega) (fun hz => ?_) (fun hz => ?_)
  · exact xa_return d_SB_checkRoomForMove_24 rfl (by decide) (by decide) ⟨rfl, rfl, rfl⟩
  · omega
theorem c_SB_findBoardBehind {p : Nat} (hS : xS_S D h o T n fs b m bd pt tb tw) (hI : xS_I n fs b m bd) (hT : o + 28 ≤ T) (hp : p < n * n) (hp0 : b p = 0) :
    xa_M l D H0 M_SB_findBoardBehind 4 93 0 0 [.ref o, .int (nI p)] h sz (fun v h' sz' => (∃ (t : Nat → Nat) (k ls : Nat), gq_T n b p (gx_turn fs m) t k ls ∧ xT_V D h' (o + 13) (o + 1) (o + 3) (o + 4) (n * n) t k ls ∧
      ((v = some .null ∧ ∀ j, j ≤ m → ¬ gx_same (n * n) (bd j) t) ∨ ∃ (j a : Nat) (v1 v2 v3 v5 v6 v7 : Value), j ≤ m ∧ v = some (.ref a) ∧ h' a = some (.inr (6, [v1, v2, v3, .int (nI j), v5, v6, v7])) ∧ gx_same (n * n) (bd j) t ∧ ∀ j', j < j' → j' ≤ m → ¬ gx_same (n * n) (bd j') t)) ∧ xS_S D h' o T n fs b m bd pt tb tw ∧ (∀ q, q ≠ o + 13 → q ≠ o + 14 → h' q = h q) ∧ sz' = sz) := by
  have hN : n * n ≤ 169 := Nat.mul_le_mul hI.1.2 hI.1.2
  obtain ⟨s1, ⟨c, f, A, O, S, BR, LB, HO, CB, ar, o', s, hr, h5, h6, h7, h8, hW, hA⟩, ⟨V0, k0, ls0, t1, t2⟩, ⟨q, B, ob, F, V, e1, e2, hP, hB, hV, hK⟩, s5⟩ := id hS
  obtain ⟨p1, p2⟩ := hP m (Nat.le_refl m)
  have hq : xq_R D h n (o + 4) (o + 1) (o + 3) c f A O S BR b ar o' s := ⟨hr, h5, hW, fun a ha h0 => ((hA a ha).2 h0).2.1⟩
  have hh : xr_h D h (o + 13) (o + 1) (o + 3) (o + 4) (n * n) V0 k0 ls0 = h := by
    unfold xr_h
    rw [xa_us _ t2, xa_us _ t1]
  have hKm := (hK m (Nat.le_refl m)).2
  have hKn : ∀ a, xh_K (o + 15) T a → a ≠ o + 13 ∧ a ≠ o + 14 := fun a ha => by unfold xh_K at ha; omega
  have hatt := c_Trial_attempt (l := l) (H0 := H0) (sz := sz) (sd := gx_turn fs m) (k := k0) (ls := ls0) (V0 := V0) hq (show o + 1 + 1 < o + 4 ∧ o + 3 < o + 4 ∧ o + 4 + 8 < o + 13 by omega) hp hp0 (gx_turn_or hI.2.1) p2 (gp_B_ext (hV m (Nat.le_refl m)) hI.2.2.2.1) (hKn _ hKm)
  rw [hh] at hatt
  refine xa_enter (by decide) rfl rfl ?_
  refine xa_aload_n d_SB_findBoardBehind_0 rfl ?_
  refine xa_getf f_SB_52 d_SB_findBoardBehind_1 (by assumption) (by rfl) ?_
  refine xa_aload_n d_SB_findBoardBehind_4 rfl ?_
  refine xa_getf f_SB_59 d_SB_findBoardBehind_5 (by assumption) (by rfl) ?_
  refine xa_getf f_SB_96 d_SB_findBoardBehind_8 (by assumption) (by rfl) ?_
  refine xa_getf f_SB_204 d_SB_findBoardBehind_11 (by assumption) (by rfl) ?_
  refine xa_iload_n d_SB_findBoardBehind_14 rfl ?_
  refine xa_aload_n d_SB_findBoardBehind_15 rfl ?_
  refine xa_callVr (As := []) (st := [.int (nI p), .ref (B m), .ref (o + 13)]) d_SB_findBoardBehind_16 k_SB_205 s1 (c_SB_turn hS hI) rfl rfl (Nat.le_of_ble_eq_true rfl) ⟨by decide, by decide⟩ (by decide) (by decide) ?_
  refine xa_callV (As := [.ref (B m), .int (nI p), .int (nI (gx_turn fs m))]) (st := []) d_SB_findBoardBehind_19 k_SB_208 t1 hatt rfl rfl (Nat.le_of_ble_eq_true rfl) ⟨by decide, by decide⟩ (by decide) (by decide) (fun v h' sz' hq' => ?_)
  obtain ⟨t, V', k, ls, hV', hTq, hv, hh', hz'⟩ := hq'
  rw [hv, hz']
  have g1 : ∀ q, q ≠ o + 13 → q ≠ o + 14 → h' q = h q := fun q h1 h2 => by rw [hh']; exact xr_hn rfl h1 h2
  have g2 : h' (o + 13) = some (.inr (7, [.ref (o + 13 + 1), .int (nI k), .int (nI ls), .ref (o + 1), .ref (o + 3), .ref (o + 4)])) := by rw [hh']; exact xr_h0
  have g3 : h' (o + 13 + 1) = some (xp_c D (n * n) V') := by rw [hh']; exact xr_h1
  have g4 : h' o = some (.inr (0, [.int (nI n), .ref (o + 1), .ref (o + 3), .ref (o + 4), .ref (o + 13), .ref (o + 15), .ref (o + 19), .int (nI fs)])) := by rw [g1 o (by omega) (by omega)]; exact s1
  have g5 : h' (o + 15) = some (.inr (4, [.ref (q m), .ref (o + 15 + 1)])) := by rw [g1 _ (by omega) (by omega)]; exact e1
  have g6 : h' (o + 15 + 1) = some (.inl (D.1 103, 128, .inr (.inr (.inr (.inr F))))) := by rw [g1 _ (by omega) (by omega)]; exact e2
  have g7 : xh_P D h' (n * n) m q B ob pt tb tw V := fun i hi => ⟨by rw [g1 _ (hKn _ (hK i hi).1).1 (hKn _ (hK i hi).1).2]; exact (hP i hi).1, by rw [g1 _ (hKn _ (hK i hi).2).1 (hKn _ (hK i hi).2).2]; exact (hP i hi).2⟩
  have hsame : ∀ j, j ≤ m → (xh_E (n * n) (V j) V' ↔ gx_same (n * n) (bd j) t) := fun j hj => gp_B_eq (hV j hj) hV'
  have hS' : xS_S D h' o T n fs b m bd pt tb tw := hS.trial hT g1 ⟨V', k, ls, g2, g3⟩
  refine xa_aload_n d_SB_findBoardBehind_22 rfl ?_
  refine xa_getf f_SB_59 d_SB_findBoardBehind_23 (by assumption) (by rfl) ?_
  refine xa_aload_n d_SB_findBoardBehind_26 rfl ?_
  refine xa_getf f_SB_52 d_SB_findBoardBehind_27 (by assumption) (by rfl) ?_
  refine xa_getf f_SB_118 d_SB_findBoardBehind_30 (by assumption) (by rfl) ?_
  refine xa_callV (As := [.ref (o + 13 + 1)]) (st := []) d_SB_findBoardBehind_33 k_SB_212 g5 (c_History_find g5 g6 g7 hB g3 (by omega) (fun j hj i hi => (hV j hj i hi).1) (fun i hi => (hV' i hi).1)) rfl rfl (Nat.le_of_ble_eq_true rfl) ⟨by decide, by decide⟩ (by decide) (by decide) (fun v2 h2 sz2 hq2 => ?_)
  obtain ⟨hv2, hh2, hz2⟩ := hq2
  rw [hh2, hz2]
  rcases hv2 with ⟨hv2, hno⟩ | ⟨j, hj, hv2, hE, hno⟩
  · rw [hv2]
    exact xa_areturnN d_SB_findBoardBehind_36 rfl (Or.inl ⟨_, rfl⟩) (by decide) (by decide) ⟨⟨t, k, ls, hTq, ⟨V', hV', g2, g3⟩, Or.inl ⟨rfl, fun j hj z => hno j hj ((hsame j hj).mpr z)⟩⟩, hS', g1, rfl⟩
  · rw [hv2]
    exact xa_areturn d_SB_findBoardBehind_36 rfl (Or.inl ⟨_, rfl⟩) (by decide) (by decide) ⟨⟨t, k, ls, hTq, ⟨V', hV', g2, g3⟩, Or.inr ⟨j, q j, _, _, _, _, _, _, hj, rfl, (g7 j hj).1, (hsame j hj).mp hE, fun j' h1 h2 z => hno j' h1 h2 ((hsame j' h2).mpr z)⟩⟩, hS', g1, rfl⟩
/-- why a move isn't allowed, and what its trial leaves -/
def gx_why (D : va_G) (h' : xa_H) (o n fs : Nat) (b : Nat → Nat) (m : Nat) (bd : Nat → Nat → Nat) (pt : Nat → Int32) (p j : Nat) : Prop :=
  (gx_end pt m ∧ j = 1) ∨ (¬ gx_end pt m ∧ b p ≠ 0 ∧ j = 2) ∨ (¬ gx_end pt m ∧ b p = 0 ∧ ∃ (t : Nat → Nat) (k ls : Nat), gq_T n b p (gx_turn fs m) t k ls ∧ (((∃ i, i ≤ m ∧ gx_same (n * n) (bd i) t) ∧ j = 3) ∨ ((∀ i, i ≤ m → ¬ gx_same (n * n) (bd i) t) ∧ j = 0 ∧ xT_V D h' (o + 13) (o + 1) (o + 3) (o + 4) (n * n) t k ls)))
theorem c_SB_judgeMove {p : Nat} (hS : xS_S D h o T n fs b m bd pt tb tw) (hI : xS_I n fs b m bd) (hT : o + 28 ≤ T) (hp : p < n * n) :
    xa_M l D H0 M_SB_judgeMove 5 114 0 0 [.ref o, .int (nI p)] h sz (fun v h' sz' => (∃ j, v = some (.int (nI j)) ∧ gx_why D h' o n fs b m bd pt p j) ∧ xS_S D h' o T n fs b m bd pt tb tw ∧ (∀ q, q ≠ o + 13 → q ≠ o + 14 → h' q = h q) ∧ sz' = sz) := by
  have hN : n * n ≤ 169 := Nat.mul_le_mul hI.1.2 hI.1.2
  have s1 := hS.1
  have r8 := xS_stones hS
  have hb := xS_b hS
  obtain ⟨q, B, ob, F, V, e1, e2, hP, hB, hV, hK⟩ := hS.2.2.2.1
  refine xa_enter (by decide) rfl rfl ?_
  refine xa_aload_n d_SB_judgeMove_0 rfl ?_
  refine xa_getf f_SB_59 d_SB_judgeMove_1 (by assumption) (by rfl) ?_
  refine xa_callVr (As := []) (st := []) d_SB_judgeMove_4 k_SB_135 e1 (c_History_hasEnded e1 hP) rfl rfl (Nat.le_of_ble_eq_true rfl) ⟨by decide, by decide⟩ (by decide) (by decide) ?_
  by_cases hend : gx_end pt m
  · refine xa_int (y := nI 1) (if_pos (c := pt m = -1 ∧ m ≠ 0 ∧ pt (m - 1) = -1) hend) ?_
    refine xa_if_eqN (tgt := 12) d_SB_judgeMove_7 (by decide) (by omega) (fun hz => ?_) (fun hz => ?_)
    · omega
    ·
      refine xa_iconst (v := nI 1) d_SB_judgeMove_10 rfl ?_
      exact xa_ireturn d_SB_judgeMove_11 rfl (by decide) (by decide) ⟨⟨1, rfl, Or.inl ⟨hend, rfl⟩⟩, hS, fun _ _ _ => rfl, rfl⟩
  · refine xa_int (y := nI 0) (if_neg (c := pt m = -1 ∧ m ≠ 0 ∧ pt (m - 1) = -1) hend) ?_
    refine xa_if_eqN (tgt := 12) d_SB_judgeMove_7 (by decide) (by omega) (fun hz => ?_) (fun hz => ?_)
    ·
      refine xa_aload_n d_SB_judgeMove_12 rfl ?_
      refine xa_getf f_SB_34 d_SB_judgeMove_13 (by assumption) (by rfl) ?_
      refine xa_iload_n d_SB_judgeMove_16 rfl ?_
      refine xa_ialdE d_SB_judgeMove_17 r8 rfl hp (by omega) rfl ?_
      have hbp := hb p hp
      refine xa_if_eqN (tgt := 23) d_SB_judgeMove_18 (by decide) (by omega) (fun hz2 => ?_) (fun hz2 => ?_)
      ·
        refine xa_aload_n d_SB_judgeMove_23 rfl ?_
        refine xa_iload_n d_SB_judgeMove_24 rfl ?_
        refine xa_callV (As := [.int (nI p)]) (st := []) d_SB_judgeMove_25 k_SB_200 s1 (c_SB_findBoardBehind hS hI hT hp hz2) rfl rfl (Nat.le_of_ble_eq_true rfl) ⟨by decide, by decide⟩ (by decide) (by decide) (fun v h' sz' hq' => ?_)
        obtain ⟨⟨t, k, ls, hTq, hTV, hv⟩, hS', hfr, hz'⟩ := hq'
        rw [hz']
        rcases hv with ⟨hv, hno⟩ | ⟨j, a, v1, v2, v3, v5, v6, v7, hj, hv, ha, hE, hno⟩
        · rw [hv]
          refine xa_ifnonnullN d_SB_judgeMove_28 ?_
          refine xa_iconst (v := nI 0) d_SB_judgeMove_31 rfl ?_
          refine xa_goto (tgt := 36) d_SB_judgeMove_32 (by decide) ?_
          exact xa_ireturn d_SB_judgeMove_36 rfl (by decide) (by decide) ⟨⟨0, rfl, Or.inr (Or.inr ⟨hend, hz2, t, k, ls, hTq, Or.inr ⟨hno, rfl, hTV⟩⟩)⟩, hS', hfr, rfl⟩
        · rw [hv]
          refine xa_ifnonnull (tgt := 35) d_SB_judgeMove_28 (by decide) ?_
          refine xa_iconst (v := nI 3) d_SB_judgeMove_35 rfl ?_
          exact xa_ireturn d_SB_judgeMove_36 rfl (by decide) (by decide) ⟨⟨3, rfl, Or.inr (Or.inr ⟨hend, hz2, t, k, ls, hTq, Or.inl ⟨⟨j, hj, hE⟩, rfl⟩⟩)⟩, hS', hfr, rfl⟩
      ·
        refine xa_iconst (v := nI 2) d_SB_judgeMove_21 rfl ?_
        exact xa_ireturn d_SB_judgeMove_22 rfl (by decide) (by decide) ⟨⟨2, rfl, Or.inr (Or.inl ⟨hend, by omega, rfl⟩)⟩, hS, fun _ _ _ => rfl, rfl⟩
    · omega
end SB1
end
section
/-! StoneBoard: allowed, at, why, ago, move, taken, string, strings, ground, owner. -/
theorem gq_off_un {N : Nat} {C : Nat → Prop} {t0 t t' : Nat → Nat} (h : gq_off N C t0 t) (h' : gq_off N C t0 t') : gx_same N t t' := fun q hq => by
  by_cases hc : C q
  · rw [(h q hq).1 hc, (h' q hq).1 hc]
  · rw [(h q hq).2 hc, (h' q hq).2 hc]
theorem gq_T_un {n : Nat} {b : Nat → Nat} {p sd : Nat} {t t' : Nat → Nat} {k k' ls ls' : Nat} (h : gq_T n b p sd t k ls) (h' : gq_T n b p sd t' k' ls') : gx_same (n * n) t t' ∧ k = k' ∧ ls = ls' := by
  rcases h with ⟨⟨q, a1⟩, a2, a3, a4⟩ | ⟨a1, a2, a3, a4, a5⟩ | ⟨a1, a2, a3, a4, a5⟩ <;> rcases h' with ⟨⟨q', c1⟩, c2, c3, c4⟩ | ⟨c1, c2, c3, c4, c5⟩ | ⟨c1, c2, c3, c4, c5⟩
  · exact ⟨gq_off_un a2 c2, by rw [a3, c3], by rw [a4, c4]⟩
  · exact absurd a1 (c1 q)
  · exact absurd a1 (c1 q)
  · exact absurd c1 (a1 q')
  · exact ⟨fun q hq => by rw [a3 q hq, c3 q hq], by rw [a4, c4], by rw [a5, c5]⟩
  · exact absurd a2 c2
  · exact absurd c1 (a1 q')
  · exact absurd c2 a2
  · exact ⟨gq_off_un a3 c3, by rw [a4, c4], by rw [a5, c5]⟩
theorem gq_T_le {n : Nat} {b : Nat → Nat} {p sd : Nat} {t : Nat → Nat} {k ls : Nat} (hb : ∀ q, q < n * n → b q ≤ 2) (hsd : sd = 1 ∨ sd = 2) (h : gq_T n b p sd t k ls) : (∀ q, q < n * n → t q ≤ 2) ∧ (ls = 1 ∨ ls = 2) := by
  have hpb : ∀ q, q < n * n → (if q = p then sd else b q) ≤ 2 := fun q hq => by
    split
    · omega
    · exact hb q hq
  rcases h with ⟨-, a2, -, a4⟩ | ⟨-, -, a3, -, a5⟩ | ⟨-, -, a3, -, a5⟩
  · refine ⟨fun q hq => ?_, by omega⟩
    by_cases hc : gq_cap n b p (3 - sd) 4 q
    · rw [(a2 q hq).1 hc]; omega
    · rw [(a2 q hq).2 hc]; exact hpb q hq
  · exact ⟨fun q hq => by rw [a3 q hq]; exact hpb q hq, by omega⟩
  · refine ⟨fun q hq => ?_, by omega⟩
    by_cases hc : gq_cap n b p sd 4 q ∨ q = p
    · rw [(a3 q hq).1 hc]; omega
    · rw [(a3 q hq).2 hc]; exact hb q hq
theorem gx_same_tr {N : Nat} {u t t' : Nat → Nat} (h : gx_same N u t) (h' : gx_same N t t') : gx_same N u t' := fun q hq => (h q hq).trans (h' q hq)
theorem gx_same_sy {N : Nat} {u t : Nat → Nat} (h : gx_same N u t) : gx_same N t u := fun q hq => (h q hq).symm
/-- a move is allowed -/
def gx_ok (n fs : Nat) (b : Nat → Nat) (m : Nat) (bd : Nat → Nat → Nat) (pt : Nat → Int32) (p : Nat) : Prop := ¬ gx_end pt m ∧ b p = 0 ∧ ∃ (t : Nat → Nat) (k ls : Nat), gq_T n b p (gx_turn fs m) t k ls ∧ ∀ i, i ≤ m → ¬ gx_same (n * n) (bd i) t
theorem gx_why_yes {D : va_G} {h' : xa_H} {o n fs : Nat} {b : Nat → Nat} {m : Nat} {bd : Nat → Nat → Nat} {pt : Nat → Int32} {p j : Nat} (h : gx_ok n fs b m bd pt p) (hw : gx_why D h' o n fs b m bd pt p j) : j = 0 ∧ ∃ (t : Nat → Nat) (k ls : Nat), gq_T n b p (gx_turn fs m) t k ls ∧ xT_V D h' (o + 13) (o + 1) (o + 3) (o + 4) (n * n) t k ls := by
  obtain ⟨h1, h2, t, k, ls, h3, h4⟩ := h
  rcases hw with ⟨w, -⟩ | ⟨-, w, -⟩ | ⟨-, -, t', k', ls', w3, ⟨⟨i, hi, w4⟩, -⟩ | ⟨-, w5, w6⟩⟩
  · exact absurd w h1
  · exact absurd h2 w
  · exact absurd (gx_same_tr w4 (gq_T_un w3 h3).1) (h4 i hi)
  · exact ⟨w5, t', k', ls', w3, w6⟩
theorem gx_why_no {D : va_G} {h' : xa_H} {o n fs : Nat} {b : Nat → Nat} {m : Nat} {bd : Nat → Nat → Nat} {pt : Nat → Int32} {p j : Nat} (h : ¬ gx_ok n fs b m bd pt p) (hw : gx_why D h' o n fs b m bd pt p j) : 0 < j ∧ j ≤ 3 := by
  rcases hw with ⟨-, w⟩ | ⟨-, -, w⟩ | ⟨w1, w2, t', k', ls', w3, ⟨-, w4⟩ | ⟨w4, w5, -⟩⟩
  · omega
  · omega
  · omega
  · exact absurd ⟨w1, w2, t', k', ls', w3, w4⟩ h
/-- what string answers -/
def gx_str (n : Nat) (b : Nat → Nat) (p w : Nat) (v : Int32) : Prop :=
  (b p = 0 ∧ v = -1) ∨ (b p ≠ 0 ∧ ((w = 0 ∧ v = nI (gb_cnt (gb_conn n (fun q => nI (b q)) p) (n * n))) ∨ (w = 1 ∧ v = nI (gb_cnt (gt_br n (fun q => nI (b q)) p) (n * n))) ∨ (w = 2 ∧ ∃ x, v = nI x ∧ gc_least (n * n) (gb_conn n (fun q => nI (b q)) p) x) ∨ (w = 3 ∧ ∃ x, v = nI x ∧ gc_least (n * n) (gt_br n (fun q => nI (b q)) p) x)))
section SB2
variable {l : Launch} {D : va_G} {H0 : Heap} {h : xa_H} {sz : Nat} {R : Room} {o T n fs : Nat} {b : Nat → Nat} {m : Nat} {bd : Nat → Nat → Nat} {pt : Nat → Int32} {tb tw : Nat → Nat}
theorem w_allowed (hR : 6 ≤ R.frames ∧ 135 ≤ R.locals) (hI : xS_I n fs b m bd) (hT : o + 28 ≤ T) (h0 : xa_H) (p : Nat) (hp : p ≤ n * n) (h : xa_H) (hS : xS_S D h o T n fs b m bd pt tb tw) (hfr : ∀ q, q ≠ o + 13 → q ≠ o + 14 → h q = h0 q) :
    xa_X l D H0 M_SB_allowed R (xa_Zr D H0 0 0 (fun v h' sz' => v = some (.int (nI (gb_cnt (gx_ok n fs b m bd pt) (n * n)))) ∧ xS_S D h' o T n fs b m bd pt tb tw ∧ (∀ q, q ≠ o + 13 → q ≠ o + 14 → h' q = h0 q) ∧ sz' = sz)) 0 0 h sz 4 [(0, .ref o), (1, .int (nI (gb_cnt (gx_ok n fs b m bd pt) p))), (2, .int (nI p))] [] := by
  have s1 := hS.1
  have r6 := xS_grid hS
  have hN : n * n ≤ 169 := Nat.mul_le_mul hI.1.2 hI.1.2
  refine xa_iload_n d_SB_allowed_4 rfl ?_
  refine xa_aload_n d_SB_allowed_5 rfl ?_
  refine xa_getf f_SB_30 d_SB_allowed_6 (by assumption) (by rfl) ?_
  refine xa_getf f_SB_23 d_SB_allowed_9 (by assumption) (by rfl) ?_
  refine xa_icmp_geN (tgt := 32) d_SB_allowed_12 (by decide) (by omega) (by omega) (fun hb => ?_) (fun hb => ?_)
  · have hpe : p = n * n := by omega
    subst hpe
    refine xa_iload_n d_SB_allowed_32 rfl ?_
    exact xa_ireturn d_SB_allowed_33 rfl (by omega) (by omega) ⟨rfl, hS, hfr, rfl⟩
  ·
    refine xa_aload_n d_SB_allowed_15 rfl ?_
    refine xa_iload_n d_SB_allowed_16 rfl ?_
    refine xa_callV (As := [.int (nI p)]) (st := []) d_SB_allowed_17 k_SB_112 s1 (c_SB_judgeMove hS hI hT hb) rfl rfl (Nat.le_of_ble_eq_true rfl) ⟨hR.1, hR.2⟩ (by omega) (by omega) (fun v h' sz' hq => ?_)
    obtain ⟨⟨j, hv, hw⟩, hS', hfr', hz⟩ := hq
    rw [hv, hz]
    have hfr2 : ∀ q, q ≠ o + 13 → q ≠ o + 14 → h' q = h0 q := fun q h1 h2 => by rw [hfr' q h1 h2, hfr q h1 h2]
    by_cases hok : gx_ok n fs b m bd pt p
    · obtain ⟨rfl, -⟩ := gx_why_yes hok hw
      show xa_X l D H0 M_SB_allowed R _ _ _ h' sz 20 _ [.int (nI 0)]
      refine xa_if_neN (tgt := 26) d_SB_allowed_20 (by decide) (by omega) (fun hz2 => ?_) (fun hz2 => ?_)
      · omega
      ·
        refine xa_iincN d_SB_allowed_23 rfl rfl rfl ?_
        refine xa_iincN d_SB_allowed_26 rfl rfl rfl ?_
        refine xa_goto (tgt := 4) d_SB_allowed_29 (by decide) ?_
        refine xa_ls ?_ (w_allowed hR hI hT h0 (p + 1) (by omega) h' hS' hfr2)
        exact ⟨rfl, by rw [gb_cnt_y hok]; rfl, rfl, trivial⟩
    · obtain ⟨hj1, hj2⟩ := gx_why_no hok hw
      show xa_X l D H0 M_SB_allowed R _ _ _ h' sz 20 _ [.int (nI j)]
      refine xa_if_neN (tgt := 26) d_SB_allowed_20 (by decide) (by omega) (fun hz2 => ?_) (fun hz2 => ?_)
      ·
        refine xa_iincN d_SB_allowed_26 rfl rfl rfl ?_
        refine xa_goto (tgt := 4) d_SB_allowed_29 (by decide) ?_
        refine xa_ls ?_ (w_allowed hR hI hT h0 (p + 1) (by omega) h' hS' hfr2)
        exact ⟨rfl, by rw [gb_cnt_n hok]; rfl, rfl, trivial⟩
      · omega
termination_by n * n - p
decreasing_by all_goals omega
theorem c_SB_allowed (hS : xS_S D h o T n fs b m bd pt tb tw) (hI : xS_I n fs b m bd) (hT : o + 28 ≤ T) :
    xa_M l D H0 M_SB_allowed 6 135 0 0 [.ref o] h sz (fun v h' sz' => v = some (.int (nI (gb_cnt (gx_ok n fs b m bd pt) (n * n)))) ∧ xS_S D h' o T n fs b m bd pt tb tw ∧ (∀ q, q ≠ o + 13 → q ≠ o + 14 → h' q = h q) ∧ sz' = sz) := by
  refine xa_enter (by decide) rfl rfl ?_
  refine xa_iconst (v := nI 0) d_SB_allowed_0 rfl ?_
  refine xa_istore_n d_SB_allowed_1 rfl rfl ?_
  refine xa_iconst (v := nI 0) d_SB_allowed_2 rfl ?_
  refine xa_istore_n d_SB_allowed_3 rfl rfl ?_
  refine xa_ls ?_ (w_allowed ⟨by decide, by decide⟩ hI hT h 0 (by omega) h hS (fun _ _ _ => rfl))
  exact ⟨rfl, rfl, rfl, trivial⟩
theorem c_SB_at {p : Nat} (hS : xS_S D h o T n fs b m bd pt tb tw) (hI : xS_I n fs b m bd) (hp : p < n * n) :
    xa_M l D H0 M_SB_at 7 110 0 0 [.ref o, .int (nI p)] h sz (fun v h' sz' => v = some (.int (nI (b p))) ∧ h' = h ∧ sz' = sz) := by
  have s1 := hS.1
  have r8 := xS_stones hS
  have hN : n * n ≤ 169 := Nat.mul_le_mul hI.1.2 hI.1.2
  refine xa_enter (by decide) rfl rfl ?_
  refine xa_aload_n d_SB_at_0 rfl ?_
  refine xa_iload_n d_SB_at_1 rfl ?_
  refine xa_callVr (As := [.int (nI p)]) (st := []) d_SB_at_2 k_SB_73 s1 (c_SB_checkPoint hS hI hp) rfl rfl (Nat.le_of_ble_eq_true rfl) ⟨by decide, by decide⟩ (by decide) (by decide) ?_
  refine xa_aload_n d_SB_at_5 rfl ?_
  refine xa_getf f_SB_34 d_SB_at_6 (by assumption) (by rfl) ?_
  refine xa_iload_n d_SB_at_9 rfl ?_
  refine xa_ialdE d_SB_at_10 r8 rfl hp (by omega) rfl ?_
  exact xa_ireturn d_SB_at_11 rfl (by decide) (by decide) ⟨rfl, rfl, rfl⟩
theorem t_SB_at {x : Int32} (htr : l.stackTraces = false) (hS : xS_S D h o T n fs b m bd pt tb tw) (hx : x < 0 ∨ nI (n * n) ≤ x) :
    xa_T l D H0 M_SB_at 7 110 1 6 [.ref o, .int x] h sz "java/lang/IndexOutOfBoundsException" (fun h' sz' => h' = h ∧ sz ≤ sz') := by
  have s1 := hS.1
  refine xa_enterT (by decide) rfl rfl ?_
  refine xa_aload_n d_SB_at_0 rfl ?_
  refine xa_iload_n d_SB_at_1 rfl ?_
  exact xa_callVT (As := [.int x]) (st := []) d_SB_at_2 rfl k_SB_73 s1 (t_SB_checkPoint htr hS hx) rfl rfl (Nat.le_of_ble_eq_true rfl) ⟨by decide, by decide⟩ (by decide) (by decide) (by decide) (by decide) (fun h' sz' hq => hq)
theorem c_SB_why {p : Nat} (hS : xS_S D h o T n fs b m bd pt tb tw) (hI : xS_I n fs b m bd) (hT : o + 28 ≤ T) (hp : p < n * n) :
    xa_M l D H0 M_SB_why 7 135 0 0 [.ref o, .int (nI p)] h sz (fun v h' sz' => (∃ j, v = some (.int (nI j)) ∧ gx_why D h' o n fs b m bd pt p j) ∧ xS_S D h' o T n fs b m bd pt tb tw ∧ (∀ q, q ≠ o + 13 → q ≠ o + 14 → h' q = h q) ∧ sz' = sz) := by
  have s1 := hS.1
  refine xa_enter (by decide) rfl rfl ?_
  refine xa_aload_n d_SB_why_0 rfl ?_
  refine xa_iload_n d_SB_why_1 rfl ?_
  refine xa_callVr (As := [.int (nI p)]) (st := []) d_SB_why_2 k_SB_73 s1 (c_SB_checkPoint hS hI hp) rfl rfl (Nat.le_of_ble_eq_true rfl) ⟨by decide, by decide⟩ (by decide) (by decide) ?_
  refine xa_aload_n d_SB_why_5 rfl ?_
  refine xa_iload_n d_SB_why_6 rfl ?_
  refine xa_callV (As := [.int (nI p)]) (st := []) d_SB_why_7 k_SB_112 s1 (c_SB_judgeMove hS hI hT hp) rfl rfl (Nat.le_of_ble_eq_true rfl) ⟨by decide, by decide⟩ (by decide) (by decide) (fun v h' sz' hq => ?_)
  obtain ⟨⟨j, hv, hw⟩, hS', hfr', hz⟩ := hq
  rw [hv, hz]
  exact xa_ireturn d_SB_why_10 rfl (by decide) (by decide) ⟨⟨j, rfl, hw⟩, hS', hfr', rfl⟩
theorem t_SB_why {x : Int32} (htr : l.stackTraces = false) (hS : xS_S D h o T n fs b m bd pt tb tw) (hx : x < 0 ∨ nI (n * n) ≤ x) :
    xa_T l D H0 M_SB_why 7 135 1 6 [.ref o, .int x] h sz "java/lang/IndexOutOfBoundsException" (fun h' sz' => h' = h ∧ sz ≤ sz') := by
  have s1 := hS.1
  refine xa_enterT (by decide) rfl rfl ?_
  refine xa_aload_n d_SB_why_0 rfl ?_
  refine xa_iload_n d_SB_why_1 rfl ?_
  exact xa_callVT (As := [.int x]) (st := []) d_SB_why_2 rfl k_SB_73 s1 (t_SB_checkPoint htr hS hx) rfl rfl (Nat.le_of_ble_eq_true rfl) ⟨by decide, by decide⟩ (by decide) (by decide) (by decide) (by decide) (fun h' sz' hq => hq)
theorem c_SB_ago {p : Nat} (hS : xS_S D h o T n fs b m bd pt tb tw) (hI : xS_I n fs b m bd) (hT : o + 28 ≤ T) (hp : p < n * n) :
    xa_M l D H0 M_SB_ago 7 114 0 0 [.ref o, .int (nI p)] h sz (fun v h' sz' => ((b p ≠ 0 ∧ v = some (.int (-1))) ∨ (b p = 0 ∧ ∃ (t : Nat → Nat) (k ls : Nat), gq_T n b p (gx_turn fs m) t k ls ∧ ((v = some (.int (-1)) ∧ ∀ j, j ≤ m → ¬ gx_same (n * n) (bd j) t) ∨ ∃ j, j ≤ m ∧ v = some (.int (nI (m - j))) ∧ gx_same (n * n) (bd j) t ∧ ∀ j', j < j' → j' ≤ m → ¬ gx_same (n * n) (bd j') t))) ∧ xS_S D h' o T n fs b m bd pt tb tw ∧ (∀ q, q ≠ o + 13 → q ≠ o + 14 → h' q = h q) ∧ sz' = sz) := by
  have s1 := hS.1
  have r8 := xS_stones hS
  have hb := xS_b hS
  have hN : n * n ≤ 169 := Nat.mul_le_mul hI.1.2 hI.1.2
  refine xa_enter (by decide) rfl rfl ?_
  refine xa_aload_n d_SB_ago_0 rfl ?_
  refine xa_iload_n d_SB_ago_1 rfl ?_
  refine xa_callVr (As := [.int (nI p)]) (st := []) d_SB_ago_2 k_SB_73 s1 (c_SB_checkPoint hS hI hp) rfl rfl (Nat.le_of_ble_eq_true rfl) ⟨by decide, by decide⟩ (by decide) (by decide) ?_
  refine xa_aload_n d_SB_ago_5 rfl ?_
  refine xa_getf f_SB_34 d_SB_ago_6 (by assumption) (by rfl) ?_
  refine xa_iload_n d_SB_ago_9 rfl ?_
  refine xa_ialdE d_SB_ago_10 r8 rfl hp (by omega) rfl ?_
  have hbp := hb p hp
  refine xa_if_eqN (tgt := 16) d_SB_ago_11 (by decide) (by omega) (fun hz2 => ?_) (fun hz2 => ?_)
  ·
    refine xa_aload_n d_SB_ago_16 rfl ?_
    refine xa_iload_n d_SB_ago_17 rfl ?_
    refine xa_callV (As := [.int (nI p)]) (st := []) d_SB_ago_18 k_SB_200 s1 (c_SB_findBoardBehind hS hI hT hp hz2) rfl rfl (Nat.le_of_ble_eq_true rfl) ⟨by decide, by decide⟩ (by decide) (by decide) (fun v h' sz' hq' => ?_)
    obtain ⟨⟨t, k, ls, hTq, hTV, hv⟩, hS', hfr, hz'⟩ := hq'
    rw [hz']
    rcases hv with ⟨hv, hno⟩ | ⟨j, a, v1, v2, v3, v5, v6, v7, hj, hv, ha, hE, hno⟩
    · rw [hv]
      refine xa_astore_nN d_SB_ago_21 rfl rfl ?_
      refine xa_aload_nN d_SB_ago_22 rfl ?_
      refine xa_ifnonnullN d_SB_ago_23 ?_
      refine xa_iconst (v := -1) d_SB_ago_26 rfl ?_
      refine xa_goto (tgt := 45) d_SB_ago_27 (by decide) ?_
      exact xa_ireturn d_SB_ago_45 rfl (by decide) (by decide) ⟨Or.inr ⟨hz2, t, k, ls, hTq, Or.inl ⟨rfl, hno⟩⟩, hS', hfr, rfl⟩
    · rw [hv]
      refine xa_astore_n d_SB_ago_21 rfl rfl ?_
      refine xa_aload_n d_SB_ago_22 rfl ?_
      refine xa_ifnonnull (tgt := 30) d_SB_ago_23 (by decide) ?_
      have s1' := hS'.1
      obtain ⟨q, B, ob, F, V, e1, e2, hP, hB, hV, hK⟩ := hS'.2.2.2.1
      obtain ⟨p1, p2⟩ := hP m (Nat.le_refl m)
      refine xa_aload_n d_SB_ago_30 rfl ?_
      refine xa_getf f_SB_59 d_SB_ago_31 (by assumption) (by rfl) ?_
      refine xa_getf f_SB_96 d_SB_ago_34 (by assumption) (by rfl) ?_
      refine xa_getf f_SB_100 d_SB_ago_37 (by assumption) (by rfl) ?_
      refine xa_aload_n d_SB_ago_40 rfl ?_
      refine xa_getf f_SB_100 d_SB_ago_41 (by assumption) (by rfl) ?_
      refine xa_isubN d_SB_ago_44 (by omega) ?_
      exact xa_ireturn d_SB_ago_45 rfl (by decide) (by decide) ⟨Or.inr ⟨hz2, t, k, ls, hTq, Or.inr ⟨j, hj, rfl, hE, hno⟩⟩, hS', hfr, rfl⟩
  ·
    refine xa_iconst (v := -1) d_SB_ago_14 rfl ?_
    exact xa_ireturn d_SB_ago_15 rfl (by decide) (by decide) ⟨Or.inl ⟨by omega, rfl⟩, hS, fun _ _ _ => rfl, rfl⟩
theorem t_SB_ago {x : Int32} (htr : l.stackTraces = false) (hS : xS_S D h o T n fs b m bd pt tb tw) (hx : x < 0 ∨ nI (n * n) ≤ x) :
    xa_T l D H0 M_SB_ago 7 114 1 6 [.ref o, .int x] h sz "java/lang/IndexOutOfBoundsException" (fun h' sz' => h' = h ∧ sz ≤ sz') := by
  have s1 := hS.1
  refine xa_enterT (by decide) rfl rfl ?_
  refine xa_aload_n d_SB_ago_0 rfl ?_
  refine xa_iload_n d_SB_ago_1 rfl ?_
  exact xa_callVT (As := [.int x]) (st := []) d_SB_ago_2 rfl k_SB_73 s1 (t_SB_checkPoint htr hS hx) rfl rfl (Nat.le_of_ble_eq_true rfl) ⟨by decide, by decide⟩ (by decide) (by decide) (by decide) (by decide) (fun h' sz' hq => hq)
theorem c_SB_move {i : Nat} (hS : xS_S D h o T n fs b m bd pt tb tw) (hI : xS_I n fs b m bd) (hi : i < m) :
    xa_M l D H0 M_SB_move 6 89 0 0 [.ref o, .int (nI i)] h sz (fun v h' sz' => v = some (.int (pt (i + 1))) ∧ h' = h ∧ sz' = sz) := by
  have s1 := hS.1
  have hm := hI.2.2.1
  obtain ⟨q, B, ob, F, V, e1, e2, hP, hB, hV, hK⟩ := hS.2.2.2.1
  obtain ⟨p1, p2⟩ := hP m (Nat.le_refl m)
  refine xa_enter (by decide) rfl rfl ?_
  refine xa_iload_n d_SB_move_0 rfl ?_
  refine xa_if_lt (tgt := 18) d_SB_move_1 (by decide) (fun hz => ?_) (fun hz => ?_)
  · exact absurd hz (nI_pos (by omega))
  ·
    refine xa_iload_n d_SB_move_4 rfl ?_
    refine xa_aload_n d_SB_move_5 rfl ?_
    refine xa_getf f_SB_59 d_SB_move_6 (by assumption) (by rfl) ?_
    refine xa_getf f_SB_96 d_SB_move_9 (by assumption) (by rfl) ?_
    refine xa_getf f_SB_100 d_SB_move_12 (by assumption) (by rfl) ?_
    refine xa_icmp_ltN (tgt := 26) d_SB_move_15 (by decide) (by omega) (by omega) (fun hq => ?_) (fun hq => ?_)
    ·
      refine xa_aload_n d_SB_move_26 rfl ?_
      refine xa_getf f_SB_59 d_SB_move_27 (by assumption) (by rfl) ?_
      refine xa_iload_n d_SB_move_30 rfl ?_
      refine xa_callVr (As := [.int (nI i)]) (st := []) d_SB_move_31 k_SB_147 e1 (c_History_pointOfMove e1 hP (by omega) hi) rfl rfl (Nat.le_of_ble_eq_true rfl) ⟨by decide, by decide⟩ (by decide) (by decide) ?_
      exact xa_ireturn d_SB_move_34 rfl (by decide) (by decide) ⟨rfl, rfl, rfl⟩
    · omega
theorem t_SB_move {x : Int32} (htr : l.stackTraces = false) (hS : xS_S D h o T n fs b m bd pt tb tw) (hx : x < 0 ∨ nI m ≤ x) :
    xa_T l D H0 M_SB_move 6 89 1 6 [.ref o, .int x] h sz "java/lang/IndexOutOfBoundsException" (fun h' sz' => h' = h ∧ sz ≤ sz') := by
  have s1 := hS.1
  obtain ⟨q, B, ob, F, V, e1, e2, hP, hB, hV, hK⟩ := hS.2.2.2.1
  obtain ⟨p1, p2⟩ := hP m (Nat.le_refl m)
  refine xa_enterT (by decide) rfl rfl ?_
  have go : xa_X l D H0 M_SB_move (xa_rm 6 1 6 89) (xa_Zt D H0 1 6 "java/lang/IndexOutOfBoundsException" (fun h' sz' => h' = h ∧ sz ≤ sz')) 0 0 h sz 18 [(0, .ref o), (1, .int x)] [] :=
    xa_throw htr rfl t_IOOB d_SB_move_18 d_SB_move_21 d_SB_move_22 d_SB_move_25 (by decide) (by decide) (by decide) (by decide) (by decide) (by decide) (fun sz' hz => ⟨rfl, hz⟩)
  refine xa_iload_n d_SB_move_0 rfl ?_
  refine xa_if_lt (tgt := 18) d_SB_move_1 (by decide) (fun hz => ?_) (fun hz => ?_)
  · exact go
  ·
    refine xa_iload_n d_SB_move_4 rfl ?_
    refine xa_aload_n d_SB_move_5 rfl ?_
    refine xa_getf f_SB_59 d_SB_move_6 (by assumption) (by rfl) ?_
    refine xa_getf f_SB_96 d_SB_move_9 (by assumption) (by rfl) ?_
    refine xa_getf f_SB_100 d_SB_move_12 (by assumption) (by rfl) ?_
    refine xa_icmp_lt (tgt := 26) d_SB_move_15 (by decide) (fun hq => ?_) (fun hq => ?_)
    · exact absurd hq (fun z => by
        rcases hx with hx | hx
        · exact hz hx
        · rw [i32_lt] at z
          rw [Int32.le_iff_toInt_le] at hx
          omega)
    · exact go
theorem c_SB_taken {sd : Nat} (hS : xS_S D h o T n fs b m bd pt tb tw) (hsd : sd = 1 ∨ sd = 2) :
    xa_M l D H0 M_SB_taken 7 109 0 0 [.ref o, .int (nI sd)] h sz (fun v h' sz' => v = some (.int (nI (if sd = 1 then tb m else tw m))) ∧ h' = h ∧ sz' = sz) := by
  have s1 := hS.1
  obtain ⟨q, B, ob, F, V, e1, e2, hP, hB, hV, hK⟩ := hS.2.2.2.1
  obtain ⟨p1, p2⟩ := hP m (Nat.le_refl m)
  refine xa_enter (by decide) rfl rfl ?_
  refine xa_iload_n d_SB_taken_0 rfl ?_
  refine xa_callSr (As := [.int (nI sd)]) (st := []) d_SB_taken_1 k_SB_93 (c_SB_checkSide hsd) rfl rfl (Nat.le_of_ble_eq_true rfl) ⟨by decide, by decide⟩ (by decide) (by decide) ?_
  refine xa_iload_n d_SB_taken_4 rfl ?_
  refine xa_iconst (v := nI 1) d_SB_taken_5 rfl ?_
  refine xa_icmp_neN (tgt := 22) d_SB_taken_6 (by decide) (by omega) (by omega) (fun hz => ?_) (fun hz => ?_)
  ·
    refine xa_aload_n d_SB_taken_22 rfl ?_
    refine xa_getf f_SB_59 d_SB_taken_23 (by assumption) (by rfl) ?_
    refine xa_getf f_SB_96 d_SB_taken_26 (by assumption) (by rfl) ?_
    refine xa_getf f_SB_153 d_SB_taken_29 (by assumption) (by rfl) ?_
    exact xa_ireturn d_SB_taken_32 rfl (by decide) (by decide) ⟨by rw [if_neg hz], rfl, rfl⟩
  ·
    refine xa_aload_n d_SB_taken_9 rfl ?_
    refine xa_getf f_SB_59 d_SB_taken_10 (by assumption) (by rfl) ?_
    refine xa_getf f_SB_96 d_SB_taken_13 (by assumption) (by rfl) ?_
    refine xa_getf f_SB_150 d_SB_taken_16 (by assumption) (by rfl) ?_
    refine xa_goto (tgt := 32) d_SB_taken_19 (by decide) ?_
    exact xa_ireturn d_SB_taken_32 rfl (by decide) (by decide) ⟨by rw [if_pos hz], rfl, rfl⟩
theorem t_SB_taken {x : Int32} (htr : l.stackTraces = false) (hx : x ≠ nI 1 ∧ x ≠ nI 2) :
    xa_T l D H0 M_SB_taken 7 109 1 6 [.ref o, .int x] h sz "java/lang/IllegalArgumentException" (fun h' sz' => h' = h ∧ sz ≤ sz') := by
  refine xa_enterT (by decide) rfl rfl ?_
  refine xa_iload_n d_SB_taken_0 rfl ?_
  exact xa_callST (As := [.int x]) (st := []) d_SB_taken_1 rfl k_SB_93 (t_SB_checkSide htr hx) rfl rfl (Nat.le_of_ble_eq_true rfl) ⟨by decide, by decide⟩ (by decide) (by decide) (by decide) (by decide) (fun h' sz' hq => hq)
theorem c_SB_strings {sd : Nat} (hS : xS_S D h o T n fs b m bd pt tb tw) (hsd : sd = 1 ∨ sd = 2) :
    xa_M l D H0 M_SB_strings 7 109 0 0 [.ref o, .int (nI sd)] h sz (fun v h' sz' => v = some (.int (nI (gb_cnt (fun p => b p = sd ∧ gx_lst n (fun q => nI (b q)) p) (n * n)))) ∧ h' = h ∧ sz' = sz) := by
  obtain ⟨s1, ⟨c, f, A, O, S, BR, LB, HO, CB, ar, o', s, hr, h5, h6, h7, h8, hW, hA⟩, -⟩ := id hS
  have hq : xq_R D h n (o + 4) (o + 1) (o + 3) c f A O S BR b ar o' s := ⟨hr, h5, hW, fun a ha h0 => ((hA a ha).2 h0).2.1⟩
  have hHO : ∀ a, a < c → HO a = nI (gx_own n b (o' (s a))) := fun a ha => by
    unfold gx_own
    by_cases h0 : b (o' (s a)) = 0
    · rw [if_pos h0]; exact (hA a ha).1 h0
    · rw [if_neg h0]; exact ((hA a ha).2 h0).1
  refine xa_enter (by decide) rfl rfl ?_
  refine xa_iload_n d_SB_strings_0 rfl ?_
  refine xa_callSr (As := [.int (nI sd)]) (st := []) d_SB_strings_1 k_SB_93 (c_SB_checkSide hsd) rfl rfl (Nat.le_of_ble_eq_true rfl) ⟨by decide, by decide⟩ (by decide) (by decide) ?_
  refine xa_aload_n d_SB_strings_4 rfl ?_
  refine xa_getf f_SB_43 d_SB_strings_5 (by assumption) (by rfl) ?_
  refine xa_iload_n d_SB_strings_8 rfl ?_
  refine xa_callVr (As := [.int (nI sd)]) (st := []) d_SB_strings_9 k_SB_180 hr.1 (c_Chart_countStrings hq h7 hHO hsd) rfl rfl (Nat.le_of_ble_eq_true rfl) ⟨by decide, by decide⟩ (by decide) (by decide) ?_
  exact xa_ireturn d_SB_strings_12 rfl (by decide) (by decide) ⟨rfl, rfl, rfl⟩
theorem t_SB_strings {x : Int32} (htr : l.stackTraces = false) (hx : x ≠ nI 1 ∧ x ≠ nI 2) :
    xa_T l D H0 M_SB_strings 7 109 1 6 [.ref o, .int x] h sz "java/lang/IllegalArgumentException" (fun h' sz' => h' = h ∧ sz ≤ sz') := by
  refine xa_enterT (by decide) rfl rfl ?_
  refine xa_iload_n d_SB_strings_0 rfl ?_
  exact xa_callST (As := [.int x]) (st := []) d_SB_strings_1 rfl k_SB_93 (t_SB_checkSide htr hx) rfl rfl (Nat.le_of_ble_eq_true rfl) ⟨by decide, by decide⟩ (by decide) (by decide) (by decide) (by decide) (fun h' sz' hq => hq)
theorem c_SB_ground {sd : Nat} (hS : xS_S D h o T n fs b m bd pt tb tw) (hsd : sd ≤ 2) :
    xa_M l D H0 M_SB_ground 7 109 0 0 [.ref o, .int (nI sd)] h sz (fun v h' sz' => v = some (.int (nI (gb_cnt (fun p => gx_own n b p = sd) (n * n)))) ∧ h' = h ∧ sz' = sz) := by
  obtain ⟨s1, ⟨c, f, A, O, S, BR, LB, HO, CB, ar, o', s, hr, h5, h6, h7, h8, hW, hA⟩, -⟩ := id hS
  have hq : xq_R D h n (o + 4) (o + 1) (o + 3) c f A O S BR b ar o' s := ⟨hr, h5, hW, fun a ha h0 => ((hA a ha).2 h0).2.1⟩
  have hHO : ∀ a, a < c → HO a = nI (gx_own n b (o' (s a))) := fun a ha => by
    unfold gx_own
    by_cases h0 : b (o' (s a)) = 0
    · rw [if_pos h0]; exact (hA a ha).1 h0
    · rw [if_neg h0]; exact ((hA a ha).2 h0).1
  refine xa_enter (by decide) rfl rfl ?_
  refine xa_iload_n d_SB_ground_0 rfl ?_
  refine xa_callSr (As := [.int (nI sd)]) (st := []) d_SB_ground_1 k_SB_76 (c_SB_checkKind hsd) rfl rfl (Nat.le_of_ble_eq_true rfl) ⟨by decide, by decide⟩ (by decide) (by decide) ?_
  refine xa_aload_n d_SB_ground_4 rfl ?_
  refine xa_getf f_SB_43 d_SB_ground_5 (by assumption) (by rfl) ?_
  refine xa_iload_n d_SB_ground_8 rfl ?_
  refine xa_callVr (As := [.int (nI sd)]) (st := []) d_SB_ground_9 k_SB_183 hr.1 (c_Chart_countGround hq h7 hHO hsd) rfl rfl (Nat.le_of_ble_eq_true rfl) ⟨by decide, by decide⟩ (by decide) (by decide) ?_
  exact xa_ireturn d_SB_ground_12 rfl (by decide) (by decide) ⟨rfl, rfl, rfl⟩
theorem t_SB_ground {x : Int32} (htr : l.stackTraces = false) (hx : x < 0 ∨ nI 2 < x) :
    xa_T l D H0 M_SB_ground 7 109 1 6 [.ref o, .int x] h sz "java/lang/IllegalArgumentException" (fun h' sz' => h' = h ∧ sz ≤ sz') := by
  refine xa_enterT (by decide) rfl rfl ?_
  refine xa_iload_n d_SB_ground_0 rfl ?_
  exact xa_callST (As := [.int x]) (st := []) d_SB_ground_1 rfl k_SB_76 (t_SB_checkKind htr hx) rfl rfl (Nat.le_of_ble_eq_true rfl) ⟨by decide, by decide⟩ (by decide) (by decide) (by decide) (by decide) (fun h' sz' hq => hq)
theorem c_SB_owner {p : Nat} (hS : xS_S D h o T n fs b m bd pt tb tw) (hI : xS_I n fs b m bd) (hp : p < n * n) :
    xa_M l D H0 M_SB_owner 7 110 0 0 [.ref o, .int (nI p)] h sz (fun v h' sz' => v = some (.int (nI (gx_own n b p))) ∧ h' = h ∧ sz' = sz) := by
  obtain ⟨s1, ⟨c, f, A, O, S, BR, LB, HO, CB, ar, o', s, hr, h5, h6, h7, h8, hW, hA⟩, -⟩ := id hS
  obtain ⟨r1, r2, r3, r4, r5, r6, r7, r8, hN, hf, hb⟩ := id hr
  obtain ⟨w1, w2, w3, w4⟩ := id hW
  have hax := w1.1 p hp
  obtain ⟨a1, a2, a3, a4, a5⟩ := gs_W_area w1 hax
  have hcN : c ≤ n * n := w1.2.2.2.2.2.2.2.2.2.2
  have hcon : gb_conn n (fun q => nI (b q)) (o' (s (ar p))) p := (w1.2.1 _ _ a3 hp).mp a4
  have hHO : HO (ar p) = nI (gx_own n b p) := by
    rw [gx_own_conn a3 hb hcon]
    unfold gx_own
    by_cases h0 : b (o' (s (ar p))) = 0
    · rw [if_pos h0]; exact (hA _ hax).1 h0
    · rw [if_neg h0]; exact ((hA _ hax).2 h0).1
  refine xa_enter (by decide) rfl rfl ?_
  refine xa_aload_n d_SB_owner_0 rfl ?_
  refine xa_iload_n d_SB_owner_1 rfl ?_
  refine xa_callVr (As := [.int (nI p)]) (st := []) d_SB_owner_2 k_SB_73 s1 (c_SB_checkPoint hS hI hp) rfl rfl (Nat.le_of_ble_eq_true rfl) ⟨by decide, by decide⟩ (by decide) (by decide) ?_
  refine xa_aload_n d_SB_owner_5 rfl ?_
  refine xa_getf f_SB_43 d_SB_owner_6 (by assumption) (by rfl) ?_
  refine xa_aload_n d_SB_owner_9 rfl ?_
  refine xa_getf f_SB_43 d_SB_owner_10 (by assumption) (by rfl) ?_
  refine xa_getf f_SB_159 d_SB_owner_13 (by assumption) (by rfl) ?_
  refine xa_iload_n d_SB_owner_16 rfl ?_
  refine xa_callVr (As := [.int (nI p)]) (st := [.ref (o + 4)]) d_SB_owner_17 k_SB_163 r2 (c_Areas_areaAt r2 r3 hN hp (w2 p hp)) rfl rfl (Nat.le_of_ble_eq_true rfl) ⟨by decide, by decide⟩ (by decide) (by decide) ?_
  refine xa_callVr (As := [.int (nI (ar p))]) (st := []) d_SB_owner_20 k_SB_186 r1 (c_Chart_get7 r1 h7 hN (by omega) hHO) rfl rfl (Nat.le_of_ble_eq_true rfl) ⟨by decide, by decide⟩ (by decide) (by decide) ?_
  exact xa_ireturn d_SB_owner_23 rfl (by decide) (by decide) ⟨rfl, rfl, rfl⟩
theorem t_SB_owner {x : Int32} (htr : l.stackTraces = false) (hS : xS_S D h o T n fs b m bd pt tb tw) (hx : x < 0 ∨ nI (n * n) ≤ x) :
    xa_T l D H0 M_SB_owner 7 110 1 6 [.ref o, .int x] h sz "java/lang/IndexOutOfBoundsException" (fun h' sz' => h' = h ∧ sz ≤ sz') := by
  have s1 := hS.1
  refine xa_enterT (by decide) rfl rfl ?_
  refine xa_aload_n d_SB_owner_0 rfl ?_
  refine xa_iload_n d_SB_owner_1 rfl ?_
  exact xa_callVT (As := [.int x]) (st := []) d_SB_owner_2 rfl k_SB_73 s1 (t_SB_checkPoint htr hS hx) rfl rfl (Nat.le_of_ble_eq_true rfl) ⟨by decide, by decide⟩ (by decide) (by decide) (by decide) (by decide) (fun h' sz' hq => hq)
theorem c_SB_string {p w : Nat} (hS : xS_S D h o T n fs b m bd pt tb tw) (hI : xS_I n fs b m bd) (hp : p < n * n) (hw : w ≤ 3) :
    xa_M l D H0 M_SB_string 7 110 0 0 [.ref o, .int (nI p), .int (nI w)] h sz (fun v h' sz' => (∃ x, v = some (.int x) ∧ gx_str n b p w x) ∧ h' = h ∧ sz' = sz) := by
  obtain ⟨s1, ⟨c, f, A, O, S, BR, LB, HO, CB, ar, o', s, hr, h5, h6, h7, h8, hW, hA⟩, -⟩ := id hS
  obtain ⟨r1, r2, r3, r4, r5, r6, r7, r8, hN, hf, hb⟩ := id hr
  obtain ⟨w1, w2, w3, w4⟩ := id hW
  have hax := w1.1 p hp
  obtain ⟨a1, a2, a3, a4, a5⟩ := gs_W_area w1 hax
  have hcN : c ≤ n * n := w1.2.2.2.2.2.2.2.2.2.2
  have hcon : gb_conn n (fun q => nI (b q)) (o' (s (ar p))) p := (w1.2.1 _ _ a3 hp).mp a4
  have hbe := gb_b_eq a3 hb hcon
  have hbp := hb p hp
  have hlt := w1.2.2.2.2.2.2.2.1 _ hax
  refine xa_enter (by decide) rfl rfl ?_
  refine xa_aload_n d_SB_string_0 rfl ?_
  refine xa_iload_n d_SB_string_1 rfl ?_
  refine xa_callVr (As := [.int (nI p)]) (st := []) d_SB_string_2 k_SB_73 s1 (c_SB_checkPoint hS hI hp) rfl rfl (Nat.le_of_ble_eq_true rfl) ⟨by decide, by decide⟩ (by decide) (by decide) ?_
  refine xa_iload_n d_SB_string_5 rfl ?_
  refine xa_if_lt (tgt := 14) d_SB_string_6 (by decide) (fun hz => ?_) (fun hz => ?_)
  · exact absurd hz (nI_pos (by omega))
  ·
    refine xa_iload_n d_SB_string_9 rfl ?_
    refine xa_iconst (v := nI 3) d_SB_string_10 rfl ?_
    refine xa_icmp_leN (tgt := 22) d_SB_string_11 (by decide) (by omega) (by omega) (fun hq => ?_) (fun hq => ?_)
    ·
      refine xa_aload_n d_SB_string_22 rfl ?_
      refine xa_getf f_SB_34 d_SB_string_23 (by assumption) (by rfl) ?_
      refine xa_iload_n d_SB_string_26 rfl ?_
      refine xa_ialdE d_SB_string_27 r8 rfl hp (by omega) rfl ?_
      refine xa_if_neN (tgt := 33) d_SB_string_28 (by decide) (by omega) (fun hz2 => ?_) (fun hz2 => ?_)
      · have h0 : b (o' (s (ar p))) ≠ 0 := by omega
        obtain ⟨x1, x2, mm, x3, x4⟩ := (hA _ hax).2 h0
        refine xa_aload_n d_SB_string_33 rfl ?_
        refine xa_getf f_SB_43 d_SB_string_34 (by assumption) (by rfl) ?_
        refine xa_getf f_SB_159 d_SB_string_37 (by assumption) (by rfl) ?_
        refine xa_iload_n d_SB_string_40 rfl ?_
        refine xa_callVr (As := [.int (nI p)]) (st := []) d_SB_string_41 k_SB_163 r2 (c_Areas_areaAt r2 r3 hN hp (w2 p hp)) rfl rfl (Nat.le_of_ble_eq_true rfl) ⟨by decide, by decide⟩ (by decide) (by decide) ?_
        refine xa_istore_n d_SB_string_44 rfl rfl ?_
        refine xa_iload_n d_SB_string_45 rfl ?_
        rcases (show w = 0 ∨ w = 1 ∨ w = 2 ∨ w = 3 by omega) with e | e | e | e <;> subst e
        · refine xa_tableIn (off := 26) (tgt := 72) d_SB_string_46 (by decide) (by decide) (by decide) (by decide) ?_
          refine xa_aload_n d_SB_string_72 rfl ?_
          refine xa_getf f_SB_43 d_SB_string_73 (by assumption) (by rfl) ?_
          refine xa_getf f_SB_159 d_SB_string_76 (by assumption) (by rfl) ?_
          refine xa_iload_n d_SB_string_79 rfl ?_
          refine xa_callVr (As := [.int (nI (ar p))]) (st := []) d_SB_string_80 k_SB_168 r2 (c_Areas_sizeOf (s := s) r2 r5 hN (by omega) (w4 _ (by omega)) (w4 (ar p + 1) (by omega)) (by omega)) rfl rfl (Nat.le_of_ble_eq_true rfl) ⟨by decide, by decide⟩ (by decide) (by decide) ?_
          refine xa_ireturn d_SB_string_83 rfl (by decide) (by decide) ⟨⟨_, rfl, Or.inr ⟨by omega, Or.inl ⟨rfl, ?_⟩⟩⟩, rfl, rfl⟩
          rw [← gs_W_size w1 hax]
          exact congrArg nI (gb_cnt_eq _ (fun q _ => ⟨fun z => gb_conn_tr (gb_conn_sy a3 hcon) z, fun z => gb_conn_tr hcon z⟩))
        · refine xa_tableIn (off := 38) (tgt := 84) d_SB_string_46 (by decide) (by decide) (by decide) (by decide) ?_
          refine xa_aload_n d_SB_string_84 rfl ?_
          refine xa_getf f_SB_43 d_SB_string_85 (by assumption) (by rfl) ?_
          refine xa_iload_n d_SB_string_88 rfl ?_
          refine xa_callVr (As := [.int (nI (ar p))]) (st := []) d_SB_string_89 k_SB_171 r1 (c_Chart_get5 r1 h5 hN (by omega) x2) rfl rfl (Nat.le_of_ble_eq_true rfl) ⟨by decide, by decide⟩ (by decide) (by decide) ?_
          refine xa_ireturn d_SB_string_92 rfl (by decide) (by decide) ⟨⟨_, rfl, Or.inr ⟨by omega, Or.inr (Or.inl ⟨rfl, ?_⟩)⟩⟩, rfl, rfl⟩
          exact congrArg nI (gb_cnt_eq _ (fun q _ => gt_br_conn a3 hcon q))
        · refine xa_tableIn (off := 47) (tgt := 93) d_SB_string_46 (by decide) (by decide) (by decide) (by decide) ?_
          refine xa_aload_n d_SB_string_93 rfl ?_
          refine xa_getf f_SB_43 d_SB_string_94 (by assumption) (by rfl) ?_
          refine xa_getf f_SB_159 d_SB_string_97 (by assumption) (by rfl) ?_
          refine xa_iload_n d_SB_string_100 rfl ?_
          refine xa_callVr (As := [.int (nI (ar p))]) (st := []) d_SB_string_101 k_SB_174 r2 (c_Areas_leastOf (o := o') (s := s) r2 r4 r5 hN (by omega) (w4 _ (by omega)) a1 (w3 _ a1)) rfl rfl (Nat.le_of_ble_eq_true rfl) ⟨by decide, by decide⟩ (by decide) (by decide) ?_
          refine xa_ireturn d_SB_string_104 rfl (by decide) (by decide) ⟨⟨_, rfl, Or.inr ⟨by omega, Or.inr (Or.inr (Or.inl ⟨rfl, _, rfl, by omega, fun q hq => ?_, fun _ => gb_conn_sy a3 hcon⟩))⟩⟩, rfl, rfl⟩
          have hqN := gb_conn_lt hp hq
          exact w1.2.2.2.2.2.2.2.2.2.1 _ hax q hqN ((w1.2.1 _ _ hqN hp).mpr (gb_conn_sy hp hq))
        · refine xa_tableOut (tgt := 105) d_SB_string_46 (Or.inr (by decide)) (by decide) ?_
          refine xa_aload_n d_SB_string_105 rfl ?_
          refine xa_getf f_SB_43 d_SB_string_106 (by assumption) (by rfl) ?_
          refine xa_iload_n d_SB_string_109 rfl ?_
          refine xa_callVr (As := [.int (nI (ar p))]) (st := []) d_SB_string_110 k_SB_177 r1 (c_Chart_get6 r1 h6 hN (by omega) x3) rfl rfl (Nat.le_of_ble_eq_true rfl) ⟨by decide, by decide⟩ (by decide) (by decide) ?_
          exact xa_ireturn d_SB_string_113 rfl (by decide) (by decide) ⟨⟨_, rfl, Or.inr ⟨by omega, Or.inr (Or.inr (Or.inr ⟨rfl, mm, rfl, gc_least_eq x4 (fun q => (gt_br_conn a3 hcon q).symm)⟩))⟩⟩, rfl, rfl⟩
      ·
        refine xa_iconst (v := -1) d_SB_string_31 rfl ?_
        exact xa_ireturn d_SB_string_32 rfl (by decide) (by decide) ⟨⟨_, rfl, Or.inl ⟨hz2, rfl⟩⟩, rfl, rfl⟩
    · omega
theorem t_SB_string1 {x y : Int32} (htr : l.stackTraces = false) (hS : xS_S D h o T n fs b m bd pt tb tw) (hx : x < 0 ∨ nI (n * n) ≤ x) :
    xa_T l D H0 M_SB_string 7 110 1 6 [.ref o, .int x, .int y] h sz "java/lang/IndexOutOfBoundsException" (fun h' sz' => h' = h ∧ sz ≤ sz') := by
  have s1 := hS.1
  refine xa_enterT (by decide) rfl rfl ?_
  refine xa_aload_n d_SB_string_0 rfl ?_
  refine xa_iload_n d_SB_string_1 rfl ?_
  exact xa_callVT (As := [.int x]) (st := []) d_SB_string_2 rfl k_SB_73 s1 (t_SB_checkPoint htr hS hx) rfl rfl (Nat.le_of_ble_eq_true rfl) ⟨by decide, by decide⟩ (by decide) (by decide) (by decide) (by decide) (fun h' sz' hq => hq)
theorem t_SB_string2 {p : Nat} {y : Int32} (htr : l.stackTraces = false) (hS : xS_S D h o T n fs b m bd pt tb tw) (hI : xS_I n fs b m bd) (hp : p < n * n) (hy : y < 0 ∨ nI 3 < y) :
    xa_T l D H0 M_SB_string 7 110 1 6 [.ref o, .int (nI p), .int y] h sz "java/lang/IllegalArgumentException" (fun h' sz' => h' = h ∧ sz ≤ sz') := by
  have s1 := hS.1
  refine xa_enterT (by decide) rfl rfl ?_
  have go : xa_X l D H0 M_SB_string (xa_rm 7 1 6 110) (xa_Zt D H0 1 6 "java/lang/IllegalArgumentException" (fun h' sz' => h' = h ∧ sz ≤ sz')) 0 0 h sz 14 [(0, .ref o), (1, .int (nI p)), (2, .int y)] [] :=
    xa_throw htr rfl t_IAE d_SB_string_14 d_SB_string_17 d_SB_string_18 d_SB_string_21 (by decide) (by decide) (by decide) (by decide) (by decide) (by decide) (fun sz' hz => ⟨rfl, hz⟩)
  refine xa_aload_n d_SB_string_0 rfl ?_
  refine xa_iload_n d_SB_string_1 rfl ?_
  refine xa_callVr (As := [.int (nI p)]) (st := []) d_SB_string_2 k_SB_73 s1 (c_SB_checkPoint hS hI hp) rfl rfl (Nat.le_of_ble_eq_true rfl) ⟨by decide, by decide⟩ (by decide) (by decide) ?_
  refine xa_iload_n d_SB_string_5 rfl ?_
  refine xa_if_lt (tgt := 14) d_SB_string_6 (by decide) (fun hz => ?_) (fun hz => ?_)
  · exact go
  ·
    refine xa_iload_n d_SB_string_9 rfl ?_
    refine xa_iconst (v := nI 3) d_SB_string_10 rfl ?_
    refine xa_icmp_le (tgt := 22) d_SB_string_11 (by decide) (fun hq => ?_) (fun hq => ?_)
    · exact absurd hq (fun z => by
        rcases hy with hx | hx
        · exact hz hx
        · rw [i32_lt] at hx
          rw [Int32.le_iff_toInt_le] at z
          omega)
    · exact go
end SB2
end
section
/-! StoneBoard: put, first, play, pass, back. -/
/-- the class's state, the chart not yet drawn -/
def xS_P (D : va_G) (h : xa_H) (o T n fs : Nat) (b : Nat → Nat) (m : Nat) (bd : Nat → Nat → Nat) (pt : Nat → Int32) (tb tw : Nat → Nat) : Prop :=
  h o = some (.inr (0, [.int (nI n), .ref (o + 1), .ref (o + 3), .ref (o + 4), .ref (o + 13), .ref (o + 15), .ref (o + 19), .int (nI fs)])) ∧ xC_sh D h n (o + 4) (o + 1) (o + 3) b ∧ xT_S D h (o + 13) (o + 1) (o + 3) (o + 4) (n * n) ∧ xh_S D h (o + 15) T (n * n) m bd pt tb tw ∧ xL_S D h (o + 19) (o + 1) (o + 3) (n * n)
theorem xS_S.P {D : va_G} {h : xa_H} {o T n fs : Nat} {b : Nat → Nat} {m : Nat} {bd : Nat → Nat → Nat} {pt : Nat → Int32} {tb tw : Nat → Nat} (hS : xS_S D h o T n fs b m bd pt tb tw) : xS_P D h o T n fs b m bd pt tb tw := ⟨hS.1, hS.2.1.sh, hS.2.2⟩
theorem xT_S.frame {D : va_G} {h h' : xa_H} {tr g aK ch N : Nat} (hS : xT_S D h tr g aK ch N) (h0 : h' tr = h tr) (h1 : h' (tr + 1) = h (tr + 1)) : xT_S D h' tr g aK ch N := by
  obtain ⟨V, k, ls, t1, t2⟩ := hS
  exact ⟨V, k, ls, by rw [h0]; exact t1, by rw [h1]; exact t2⟩
theorem xT_V.S {D : va_G} {h : xa_H} {tr g aK ch N : Nat} {t : Nat → Nat} {k ls : Nat} (hS : xT_V D h tr g aK ch N t k ls) : xT_S D h tr g aK ch N := by
  obtain ⟨V, t0, t1, t2⟩ := hS
  exact ⟨V, k, ls, t1, t2⟩
theorem xS_P.put {D : va_G} {h : xa_H} {o T n fs : Nat} {b b' : Nat → Nat} {m : Nat} {bd : Nat → Nat → Nat} {pt : Nat → Int32} {tb tw : Nat → Nat} (hS : xS_P D h o T n fs b m bd pt tb tw) (hT : o + 28 ≤ T) (hb' : ∀ q, q < n * n → b' q ≤ 2) : xS_P D (xa_u h (o + 3) (.inl (D.1 100, n * n, .inl (fun q => nI (b' q))))) o T n fs b' m bd pt tb tw := by
  obtain ⟨s1, s2, s3, s4, s5⟩ := hS
  refine ⟨xa_u_ne s1 (by omega), s2.put (by omega) hb', s3.frame (xa_u_ne rfl (by omega)) (xa_u_ne rfl (by omega)), xh_S_frame s4 (fun a e ha hk => xa_u_ne ha (by unfold xh_K at hk; omega)), s5.frame (fun q h1 h2 => xa_u_ne rfl (by omega))⟩
theorem xS_P.draw {D : va_G} {h h' : xa_H} {o T n fs : Nat} {b : Nat → Nat} {m : Nat} {bd : Nat → Nat → Nat} {pt : Nat → Int32} {tb tw : Nat → Nat} (hS : xS_P D h o T n fs b m bd pt tb tw) (hT : o + 28 ≤ T) (hC : xC_S D h' n (o + 4) (o + 1) (o + 3) b) (hf : ∀ q, q ≤ o + 4 ∨ o + 4 + 9 ≤ q → h' q = h q) : xS_S D h' o T n fs b m bd pt tb tw := by
  obtain ⟨s1, s2, s3, s4, s5⟩ := hS
  refine ⟨by rw [hf _ (by omega)]; exact s1, hC, s3.frame (hf _ (by omega)) (hf _ (by omega)), xh_S_frame s4 (fun a e ha hk => ?_), s5.frame (fun q h1 h2 => hf _ (by omega))⟩
  rw [hf a (by unfold xh_K at hk; omega)]
  exact ha
theorem xS_S.hist {D : va_G} {h h' : xa_H} {o T n fs sz : Nat} {b : Nat → Nat} {m m' : Nat} {bd bd' : Nat → Nat → Nat} {pt pt' : Nat → Int32} {tb tw tb' tw' : Nat → Nat} (hS : xS_S D h o T n fs b m bd pt tb tw) (hT : o + 28 ≤ sz) (hf : ∀ a, a < sz → a ≠ o + 15 → a ≠ o + 15 + 1 → h' a = h a) (hH : xh_S D h' (o + 15) T (n * n) m' bd' pt' tb' tw') : xS_S D h' o T n fs b m' bd' pt' tb' tw' := by
  obtain ⟨s1, s2, s3, s4, s5⟩ := hS
  exact ⟨by rw [hf _ (by omega) (by omega) (by omega)]; exact s1, s2.frame (fun q hq => hf q (by omega) (by omega) (by omega)), s3.frame (hf _ (by omega) (by omega) (by omega)) (hf _ (by omega) (by omega) (by omega)), hH, s5.frame (fun q h1 h2 => hf q (by omega) (by omega) (by omega))⟩
section SB3
variable {l : Launch} {D : va_G} {H0 : Heap} {h : xa_H} {sz : Nat} {R : Room} {o T n fs : Nat} {b : Nat → Nat} {m : Nat} {bd : Nat → Nat → Nat} {pt : Nat → Int32} {tb tw : Nat → Nat}
theorem c_SB_showLatestBoard (hS : xS_P D h o T n fs b m bd pt tb tw) (hn : n ≤ 13) (hT : o + 28 ≤ T) (hb' : ∀ q, q < n * n → bd m q ≤ 2) :
    xa_M l D H0 M_SB_showLatestBoard 4 93 0 0 [.ref o] h sz (fun v h' sz' => v = none ∧ xS_S D h' o T n fs (bd m) m bd pt tb tw ∧ (∀ q, q < o ∨ o + 13 ≤ q → h' q = h q) ∧ sz' = sz) := by
  have hN : n * n ≤ 169 := Nat.mul_le_mul hn hn
  obtain ⟨s1, ⟨c, f, A, O, S, BR, LB, HO, CB, hr, h5, h6, h7, h8⟩, s3, ⟨q, B, ob, F, V, e1, e2, hP, hB, hV, hK⟩, s5⟩ := id hS
  obtain ⟨p1, p2⟩ := hP m (Nat.le_refl m)
  obtain ⟨r1, r2, r3, r4, r5, r6, r7, r8, hN', hf, hb⟩ := id hr
  have hKm := (hK m (Nat.le_refl m)).2
  refine xa_enter (by decide) rfl rfl ?_
  refine xa_aload_n d_SB_showLatestBoard_0 rfl ?_
  refine xa_getf f_SB_59 d_SB_showLatestBoard_1 (by assumption) (by rfl) ?_
  refine xa_getf f_SB_96 d_SB_showLatestBoard_4 (by assumption) (by rfl) ?_
  refine xa_getf f_SB_204 d_SB_showLatestBoard_7 (by assumption) (by rfl) ?_
  refine xa_aload_n d_SB_showLatestBoard_10 rfl ?_
  refine xa_getf f_SB_34 d_SB_showLatestBoard_11 (by assumption) (by rfl) ?_
  refine xa_callSr (As := [.ref (B m), .ref (o + 3)]) (st := []) d_SB_showLatestBoard_14 k_SB_216 (c_Packed_unpack p2 r8 (by unfold xh_K at hKm; omega) (hV m (Nat.le_refl m)) hN') rfl rfl (Nat.le_of_ble_eq_true rfl) ⟨by decide, by decide⟩ (by decide) (by decide) ?_
  have hS2 := hS.put hT hb'
  have s1' := hS2.1
  have hc : xa_u h (o + 3) (.inl (D.1 100, n * n, .inl (fun q => nI (bd m q)))) (o + 4) = _ := xa_u_ne r1 (by omega)
  refine xa_aload_n d_SB_showLatestBoard_17 rfl ?_
  refine xa_getf f_SB_43 d_SB_showLatestBoard_18 (by assumption) (by rfl) ?_
  refine xa_callV (As := []) (st := []) d_SB_showLatestBoard_21 k_SB_82 hc (c_Chart_draw' hS2.2.1 (by omega)) rfl rfl (Nat.le_of_ble_eq_true rfl) ⟨by decide, by decide⟩ (by decide) (by decide) (fun v h' sz' hq => ?_)
  obtain ⟨e1', e2', e3', e4'⟩ := hq
  rw [e1', e4']
  exact xa_return d_SB_showLatestBoard_24 rfl (by decide) (by decide) ⟨rfl, hS2.draw hT e2' e3', fun q hq => by rw [e3' q (by omega)]; exact xa_u_ne rfl (by omega), rfl⟩
theorem c_SB_first {sd : Nat} (hS : xS_S D h o T n fs b m bd pt tb tw) (hT : o + 28 ≤ T) (hm : m = 0) (hsd : sd = 1 ∨ sd = 2) :
    xa_M l D H0 M_SB_first 7 109 0 0 [.ref o, .int (nI sd)] h sz (fun v h' sz' => v = none ∧ xS_S D h' o T n sd b m bd pt tb tw ∧ (∀ q, q ≠ o → h' q = h q) ∧ sz' = sz) := by
  have s1 := hS.1
  refine xa_enter (by decide) rfl rfl ?_
  refine xa_iload_n d_SB_first_0 rfl ?_
  refine xa_callSr (As := [.int (nI sd)]) (st := []) d_SB_first_1 k_SB_93 (c_SB_checkSide hsd) rfl rfl (Nat.le_of_ble_eq_true rfl) ⟨by decide, by decide⟩ (by decide) (by decide) ?_
  refine xa_aload_n d_SB_first_4 rfl ?_
  refine xa_callVr (As := []) (st := []) d_SB_first_5 k_SB_79 s1 (c_SB_checkNoMoveYet hS hm) rfl rfl (Nat.le_of_ble_eq_true rfl) ⟨by decide, by decide⟩ (by decide) (by decide) ?_
  refine xa_aload_n d_SB_first_8 rfl ?_
  refine xa_iload_n d_SB_first_9 rfl ?_
  refine xa_putf f_SB_70 d_SB_first_10 s1 (Nat.le_of_ble_eq_true rfl) rfl rfl ?_
  have hf : ∀ (E : va_E) (q : Nat), q ≠ o → xa_u h o E q = h q := fun E q hq => xa_u_ne rfl hq
  obtain ⟨s1, s2, s3, s4, s5⟩ := hS
  refine xa_return d_SB_first_13 rfl (by decide) (by decide) ⟨rfl, ⟨xa_u_eq _ _ _, s2.frame (fun q hq => hf _ q (by omega)), s3.frame (hf _ _ (by omega)) (hf _ _ (by omega)), xh_S_frame s4 (fun a e ha hk => ?_), s5.frame (fun q h1 h2 => hf _ q (by omega))⟩, fun q hq => hf _ q hq, rfl⟩
  rw [hf _ a (by unfold xh_K at hk; omega)]
  exact ha
theorem t_SB_first1 {x : Int32} (htr : l.stackTraces = false) (hx : x ≠ nI 1 ∧ x ≠ nI 2) :
    xa_T l D H0 M_SB_first 7 109 1 6 [.ref o, .int x] h sz "java/lang/IllegalArgumentException" (fun h' sz' => h' = h ∧ sz ≤ sz') := by
  refine xa_enterT (by decide) rfl rfl ?_
  refine xa_iload_n d_SB_first_0 rfl ?_
  exact xa_callST (As := [.int x]) (st := []) d_SB_first_1 rfl k_SB_93 (t_SB_checkSide htr hx) rfl rfl (Nat.le_of_ble_eq_true rfl) ⟨by decide, by decide⟩ (by decide) (by decide) (by decide) (by decide) (fun h' sz' hq => hq)
theorem t_SB_first2 {sd : Nat} (htr : l.stackTraces = false) (hS : xS_S D h o T n fs b m bd pt tb tw) (hm : m ≠ 0 ∧ m < 1000) (hsd : sd = 1 ∨ sd = 2) :
    xa_T l D H0 M_SB_first 7 109 1 6 [.ref o, .int (nI sd)] h sz "java/lang/IllegalStateException" (fun h' sz' => h' = h ∧ sz ≤ sz') := by
  have s1 := hS.1
  refine xa_enterT (by decide) rfl rfl ?_
  refine xa_iload_n d_SB_first_0 rfl ?_
  refine xa_callSr (As := [.int (nI sd)]) (st := []) d_SB_first_1 k_SB_93 (c_SB_checkSide hsd) rfl rfl (Nat.le_of_ble_eq_true rfl) ⟨by decide, by decide⟩ (by decide) (by decide) ?_
  refine xa_aload_n d_SB_first_4 rfl ?_
  exact xa_callVT (As := []) (st := []) d_SB_first_5 rfl k_SB_79 s1 (t_SB_checkNoMoveYet htr hS hm) rfl rfl (Nat.le_of_ble_eq_true rfl) ⟨by decide, by decide⟩ (by decide) (by decide) (by decide) (by decide) (fun h' sz' hq => hq)
theorem c_SB_put {p k : Nat} (hS : xS_S D h o T n fs b 0 bd pt tb tw) (hI : xS_I n fs b 0 bd) (hT : o + 28 ≤ T ∧ T ≤ sz) (hp : p < n * n) (hk : k ≤ 2) :
    xa_M l D H0 M_SB_put 7 110 2 13 [.ref o, .int (nI p), .int (nI k)] h sz (fun v h' sz' => ((v = some (.int 1) ∧ gx_br n (fun q => if q = p then k else b q) ∧ xS_S D h' o T n fs (fun q => if q = p then k else b q) 0 (xh_up bd 0 (fun x => if x = p then k else bd 0 x)) (xh_up pt 0 (-2)) (xh_up tb 0 0) (xh_up tw 0 0)) ∨ (v = some (.int 0) ∧ ¬ gx_br n (fun q => if q = p then k else b q) ∧ xS_S D h' o T n fs b 0 bd pt tb tw)) ∧ (∀ q, q < sz → (q < o ∨ o + 28 ≤ q) → h' q = h q) ∧ sz ≤ sz') := by
  have hN : n * n ≤ 169 := Nat.mul_le_mul hI.1.2 hI.1.2
  have s1 := hS.1
  have r8 := xS_stones hS
  have hb := xS_b hS
  have hb' : ∀ q, q < n * n → (fun q => if q = p then k else b q) q ≤ 2 := fun q hq => by
    show (if q = p then k else b q) ≤ 2
    split
    · omega
    · exact hb q hq
  refine xa_enter (by decide) rfl rfl ?_
  refine xa_aload_n d_SB_put_0 rfl ?_
  refine xa_iload_n d_SB_put_1 rfl ?_
  refine xa_callVr (As := [.int (nI p)]) (st := []) d_SB_put_2 k_SB_73 s1 (c_SB_checkPoint hS hI hp) rfl rfl (Nat.le_of_ble_eq_true rfl) ⟨by decide, by decide⟩ (by decide) (by decide) ?_
  refine xa_iload_n d_SB_put_5 rfl ?_
  refine xa_callSr (As := [.int (nI k)]) (st := []) d_SB_put_6 k_SB_76 (c_SB_checkKind hk) rfl rfl (Nat.le_of_ble_eq_true rfl) ⟨by decide, by decide⟩ (by decide) (by decide) ?_
  refine xa_aload_n d_SB_put_9 rfl ?_
  refine xa_callVr (As := []) (st := []) d_SB_put_10 k_SB_79 s1 (c_SB_checkNoMoveYet hS rfl) rfl rfl (Nat.le_of_ble_eq_true rfl) ⟨by decide, by decide⟩ (by decide) (by decide) ?_
  refine xa_aload_n d_SB_put_13 rfl ?_
  refine xa_getf f_SB_34 d_SB_put_14 (by assumption) (by rfl) ?_
  refine xa_iload_n d_SB_put_17 rfl ?_
  refine xa_ialdE d_SB_put_18 r8 rfl hp (by omega) rfl ?_
  refine xa_istore_n d_SB_put_19 rfl rfl ?_
  refine xa_aload_n d_SB_put_20 rfl ?_
  refine xa_getf f_SB_34 d_SB_put_21 (by assumption) (by rfl) ?_
  refine xa_iload_n d_SB_put_24 rfl ?_
  refine xa_iload_n d_SB_put_25 rfl ?_
  refine xa_iastE d_SB_put_26 r8 rfl hp (by omega) ?_
  have hu : upd (fun q => nI (b q)) p (nI k) = fun q => nI ((fun q => if q = p then k else b q) q) := by
    funext q
    show (if q = p then _ else _) = nI (if q = p then k else b q)
    split <;> rfl
  rw [hu]
  have hS2 := hS.P.put hT.1 hb'
  have s12 := hS2.1
  have hc2 : xa_u h (o + 3) (.inl (D.1 100, n * n, .inl (fun q => nI ((fun q => if q = p then k else b q) q)))) (o + 4) = some (.inr (2, [.ref (o + 4 + 1), .ref (o + 1), .ref (o + 3), .ref (o + 4 + 5), .ref (o + 4 + 6), .ref (o + 4 + 7), .ref (o + 4 + 8)])) := by
    obtain ⟨c, f, A, O, S, BR, LB, HO, CB, hr, -⟩ := hS2.2.1
    exact hr.1
  refine xa_aload_n d_SB_put_27 rfl ?_
  refine xa_getf f_SB_43 d_SB_put_28 (by assumption) (by rfl) ?_
  refine xa_callV (As := []) (st := []) d_SB_put_31 k_SB_82 hc2 (c_Chart_draw' hS2.2.1 (by omega)) rfl rfl (Nat.le_of_ble_eq_true rfl) ⟨by decide, by decide⟩ (by decide) (by decide) (fun v h' sz' hq => ?_)
  obtain ⟨e1', e2', e3', e4'⟩ := hq
  rw [e1', e4']
  have hS3 := hS2.draw hT.1 e2' e3'
  have s13 := hS3.1
  have fr3 : ∀ q, q < sz → (q < o ∨ o + 28 ≤ q) → h' q = h q := fun q h1 h2 => by rw [e3' q (by omega)]; exact xa_u_ne rfl (by omega)
  obtain ⟨c, f, A, O, S, BR, LB, HO, CB, ar, o', s, hr, h5, h6, h7, h8, hW, hA⟩ := e2'
  have hq : xq_R D h' n (o + 4) (o + 1) (o + 3) c f A O S BR (fun q => if q = p then k else b q) ar o' s := ⟨hr, h5, hW, fun a ha h0 => ((hA a ha).2 h0).2.1⟩
  have r13 := hr.1
  refine xa_aload_n d_SB_put_34 rfl ?_
  refine xa_getf f_SB_43 d_SB_put_35 (by assumption) (by rfl) ?_
  refine xa_callV (As := []) (st := []) d_SB_put_38 k_SB_85 hr.1 (c_Chart_hasString hq) rfl rfl (Nat.le_of_ble_eq_true rfl) ⟨by decide, by decide⟩ (by decide) (by decide) (fun v4 h4 sz4 hq4 => ?_)
  obtain ⟨hv4, f2, f3⟩ := hq4
  rw [f2, f3]
  rcases hv4 with ⟨hv4, hbr⟩ | ⟨hv4, hbr⟩
  · rw [hv4]
    refine xa_int (y := nI 1) rfl ?_
    refine xa_if_eqN (tgt := 60) d_SB_put_41 (by decide) (by omega) (fun hz => ?_) (fun hz => ?_)
    · omega
    · have r83 := xS_stones hS3
      refine xa_aload_n d_SB_put_44 rfl ?_
      refine xa_getf f_SB_34 d_SB_put_45 (by assumption) (by rfl) ?_
      refine xa_iload_n d_SB_put_48 rfl ?_
      refine xa_iload_n d_SB_put_49 rfl ?_
      refine xa_iastE d_SB_put_50 r83 rfl hp (by omega) ?_
      have hu2 : upd (fun q => nI ((fun q => if q = p then k else b q) q)) p (nI (b p)) = fun q => nI (b q) := by
        funext q
        show (if q = p then _ else nI (if q = p then k else b q)) = nI (b q)
        by_cases hqp : q = p
        · rw [if_pos hqp, hqp]
        · rw [if_neg hqp, if_neg hqp]
      rw [hu2]
      have hS5 := hS3.P.put hT.1 hb
      have s15 := hS5.1
      have hc5 : xa_u h' (o + 3) (.inl (D.1 100, n * n, .inl (fun q => nI (b q)))) (o + 4) = some (.inr (2, [.ref (o + 4 + 1), .ref (o + 1), .ref (o + 3), .ref (o + 4 + 5), .ref (o + 4 + 6), .ref (o + 4 + 7), .ref (o + 4 + 8)])) := by
        obtain ⟨c, f, A, O, S, BR, LB, HO, CB, hr, -⟩ := hS5.2.1
        exact hr.1
      refine xa_aload_n d_SB_put_51 rfl ?_
      refine xa_getf f_SB_43 d_SB_put_52 (by assumption) (by rfl) ?_
      refine xa_callV (As := []) (st := []) d_SB_put_55 k_SB_82 hc5 (c_Chart_draw' hS5.2.1 (by omega)) rfl rfl (Nat.le_of_ble_eq_true rfl) ⟨by decide, by decide⟩ (by decide) (by decide) (fun v6 h6 sz6 hq6 => ?_)
      obtain ⟨x1, x2, x3, x4⟩ := hq6
      rw [x1, x4]
      refine xa_iconst (v := nI 0) d_SB_put_58 rfl ?_
      exact xa_zreturn (v := nI 0) d_SB_put_59 rfl (by decide) (by decide) (by decide) ⟨Or.inr ⟨rfl, hbr, hS5.draw hT.1 x2 x3⟩, fun q h1 h2 => by rw [x3 q (by omega), ← fr3 q h1 h2]; exact xa_u_ne rfl (by omega), Nat.le_refl _⟩
  · rw [hv4]
    refine xa_int (y := nI 0) rfl ?_
    refine xa_if_eqN (tgt := 60) d_SB_put_41 (by decide) (by omega) (fun hz => ?_) (fun hz => ?_)
    · have hi1 : ∃ q F, h' (o + 15) = some (.inr (4, [.ref q, F])) := by
        obtain ⟨q, B, ob, F, V, e1, -⟩ := hS3.2.2.2.1
        exact ⟨_, _, e1⟩
      obtain ⟨qq, FF, hi1⟩ := hi1
      refine xa_aload_n d_SB_put_60 rfl ?_
      refine xa_getf f_SB_59 d_SB_put_61 (by assumption) (by rfl) ?_
      refine xa_iload_n d_SB_put_64 rfl ?_
      refine xa_iload_n d_SB_put_65 rfl ?_
      refine xa_callV (As := [.int (nI p), .int (nI k)]) (st := []) d_SB_put_66 k_SB_89 hi1 (c_History_beginWith hS3.2.2.2.1 hN hT.2 hp hk) rfl rfl (Nat.le_of_ble_eq_true rfl) ⟨by decide, by decide⟩ (by decide) (by decide) (fun v6 h6 sz6 hq6 => ?_)
      obtain ⟨x1, x2, x3, x4⟩ := hq6
      rw [x1, x4]
      refine xa_iconst (v := nI 1) d_SB_put_69 rfl ?_
      exact xa_zreturn (v := nI 1) d_SB_put_70 rfl (by decide) (by decide) (by decide) ⟨Or.inl ⟨rfl, hbr, hS3.hist (by omega) x3 x2⟩, fun q h1 h2 => by rw [x3 q h1 (by omega) (by omega), fr3 q h1 h2], by omega⟩
    · omega
theorem t_SB_put1 {x y : Int32} (htr : l.stackTraces = false) (hS : xS_S D h o T n fs b m bd pt tb tw) (hx : x < 0 ∨ nI (n * n) ≤ x) :
    xa_T l D H0 M_SB_put 7 110 1 6 [.ref o, .int x, .int y] h sz "java/lang/IndexOutOfBoundsException" (fun h' sz' => h' = h ∧ sz ≤ sz') := by
  have s1 := hS.1
  refine xa_enterT (by decide) rfl rfl ?_
  refine xa_aload_n d_SB_put_0 rfl ?_
  refine xa_iload_n d_SB_put_1 rfl ?_
  exact xa_callVT (As := [.int x]) (st := []) d_SB_put_2 rfl k_SB_73 s1 (t_SB_checkPoint htr hS hx) rfl rfl (Nat.le_of_ble_eq_true rfl) ⟨by decide, by decide⟩ (by decide) (by decide) (by decide) (by decide) (fun h' sz' hq => hq)
theorem t_SB_put2 {p : Nat} {y : Int32} (htr : l.stackTraces = false) (hS : xS_S D h o T n fs b m bd pt tb tw) (hI : xS_I n fs b m bd) (hp : p < n * n) (hy : y < 0 ∨ nI 2 < y) :
    xa_T l D H0 M_SB_put 7 110 1 6 [.ref o, .int (nI p), .int y] h sz "java/lang/IllegalArgumentException" (fun h' sz' => h' = h ∧ sz ≤ sz') := by
  have s1 := hS.1
  refine xa_enterT (by decide) rfl rfl ?_
  refine xa_aload_n d_SB_put_0 rfl ?_
  refine xa_iload_n d_SB_put_1 rfl ?_
  refine xa_callVr (As := [.int (nI p)]) (st := []) d_SB_put_2 k_SB_73 s1 (c_SB_checkPoint hS hI hp) rfl rfl (Nat.le_of_ble_eq_true rfl) ⟨by decide, by decide⟩ (by decide) (by decide) ?_
  refine xa_iload_n d_SB_put_5 rfl ?_
  exact xa_callST (As := [.int y]) (st := []) d_SB_put_6 rfl k_SB_76 (t_SB_checkKind htr hy) rfl rfl (Nat.le_of_ble_eq_true rfl) ⟨by decide, by decide⟩ (by decide) (by decide) (by decide) (by decide) (fun h' sz' hq => hq)
theorem t_SB_put3 {p k : Nat} (htr : l.stackTraces = false) (hS : xS_S D h o T n fs b m bd pt tb tw) (hI : xS_I n fs b m bd) (hp : p < n * n) (hk : k ≤ 2) (hm : m ≠ 0) :
    xa_T l D H0 M_SB_put 7 110 1 6 [.ref o, .int (nI p), .int (nI k)] h sz "java/lang/IllegalStateException" (fun h' sz' => h' = h ∧ sz ≤ sz') := by
  have s1 := hS.1
  refine xa_enterT (by decide) rfl rfl ?_
  refine xa_aload_n d_SB_put_0 rfl ?_
  refine xa_iload_n d_SB_put_1 rfl ?_
  refine xa_callVr (As := [.int (nI p)]) (st := []) d_SB_put_2 k_SB_73 s1 (c_SB_checkPoint hS hI hp) rfl rfl (Nat.le_of_ble_eq_true rfl) ⟨by decide, by decide⟩ (by decide) (by decide) ?_
  refine xa_iload_n d_SB_put_5 rfl ?_
  refine xa_callSr (As := [.int (nI k)]) (st := []) d_SB_put_6 k_SB_76 (c_SB_checkKind hk) rfl rfl (Nat.le_of_ble_eq_true rfl) ⟨by decide, by decide⟩ (by decide) (by decide) ?_
  refine xa_aload_n d_SB_put_9 rfl ?_
  exact xa_callVT (As := []) (st := []) d_SB_put_10 rfl k_SB_79 s1 (t_SB_checkNoMoveYet htr hS ⟨hm, hI.2.2.1⟩) rfl rfl (Nat.le_of_ble_eq_true rfl) ⟨by decide, by decide⟩ (by decide) (by decide) (by decide) (by decide) (fun h' sz' hq => hq)
theorem c_SB_play {p : Nat} (hS : xS_S D h o T n fs b m bd pt tb tw) (hI : xS_I n fs b m bd) (hT : o + 28 ≤ T ∧ T ≤ sz) (hp : p < n * n) (hok : gx_ok n fs b m bd pt p) :
    xa_M l D H0 M_SB_play 7 135 2 13 [.ref o, .int (nI p)] h sz (fun v h' sz' => (∃ (t : Nat → Nat) (k ls : Nat), gq_T n b p (gx_turn fs m) t k ls ∧ v = some (.int (nI k)) ∧ xS_S D h' o T n fs t (m + 1) (xh_up bd (m + 1) t) (xh_up pt (m + 1) (nI p)) (xh_up tb (m + 1) (tb m + if ls = 1 then k else 0)) (xh_up tw (m + 1) (tw m + if ls = 2 then k else 0))) ∧ (∀ q, q < sz → (q < o ∨ o + 28 ≤ q) → h' q = h q) ∧ sz ≤ sz') := by
  have hN : n * n ≤ 169 := Nat.mul_le_mul hI.1.2 hI.1.2
  have s1 := hS.1
  have hb := xS_b hS
  refine xa_enter (by decide) rfl rfl ?_
  refine xa_aload_n d_SB_play_0 rfl ?_
  refine xa_iload_n d_SB_play_1 rfl ?_
  refine xa_callVr (As := [.int (nI p)]) (st := []) d_SB_play_2 k_SB_73 s1 (c_SB_checkPoint hS hI hp) rfl rfl (Nat.le_of_ble_eq_true rfl) ⟨by decide, by decide⟩ (by decide) (by decide) ?_
  refine xa_aload_n d_SB_play_5 rfl ?_
  refine xa_callVr (As := []) (st := []) d_SB_play_6 k_SB_109 s1 (c_SB_checkRoomForMove hS hI.2.2.1) rfl rfl (Nat.le_of_ble_eq_true rfl) ⟨by decide, by decide⟩ (by decide) (by decide) ?_
  refine xa_aload_n d_SB_play_9 rfl ?_
  refine xa_iload_n d_SB_play_10 rfl ?_
  refine xa_callV (As := [.int (nI p)]) (st := []) d_SB_play_11 k_SB_112 s1 (c_SB_judgeMove hS hI hT.1 hp) rfl rfl (Nat.le_of_ble_eq_true rfl) ⟨by decide, by decide⟩ (by decide) (by decide) (fun v h' sz' hq => ?_)
  obtain ⟨⟨j, hv, hw⟩, hS', hfr', hz⟩ := hq
  rw [hv, hz]
  obtain ⟨hj0, t, k, ls, hTq, V', hV', g2, g3⟩ := gx_why_yes hok hw
  subst hj0
  show xa_X l D H0 M_SB_play _ _ _ _ h' sz 14 _ [.int (nI 0)]
  obtain ⟨htle, hls⟩ := gq_T_le hb (gx_turn_or hI.2.1) hTq
  have s1' := hS'.1
  refine xa_if_eqN (tgt := 25) d_SB_play_14 (by decide) (by omega) (fun hz2 => ?_) (fun hz2 => ?_)
  · have hi1 : ∃ q F, h' (o + 15) = some (.inr (4, [.ref q, F])) := by
      obtain ⟨q, B, ob, F, V, e1, -⟩ := hS'.2.2.2.1
      exact ⟨_, _, e1⟩
    obtain ⟨qq, FF, hi1⟩ := hi1
    refine xa_aload_n d_SB_play_25 rfl ?_
    refine xa_getf f_SB_59 d_SB_play_26 (by assumption) (by rfl) ?_
    refine xa_iload_n d_SB_play_29 rfl ?_
    refine xa_aload_n d_SB_play_30 rfl ?_
    refine xa_getf f_SB_52 d_SB_play_31 (by assumption) (by rfl) ?_
    refine xa_getf f_SB_118 d_SB_play_34 (by assumption) (by rfl) ?_
    refine xa_aload_n d_SB_play_37 rfl ?_
    refine xa_getf f_SB_52 d_SB_play_38 (by assumption) (by rfl) ?_
    refine xa_getf f_SB_122 d_SB_play_41 (by assumption) (by rfl) ?_
    refine xa_aload_n d_SB_play_44 rfl ?_
    refine xa_getf f_SB_52 d_SB_play_45 (by assumption) (by rfl) ?_
    refine xa_getf f_SB_125 d_SB_play_48 (by assumption) (by rfl) ?_
    refine xa_callV (As := [.int (nI p), .ref (o + 13 + 1), .int (nI ls), .int (nI k)]) (st := []) d_SB_play_51 k_SB_128 hi1 (c_History_addMove (t := t) hS'.2.2.2.1 g3 hV' hN hT.2 hls) rfl rfl (Nat.le_of_ble_eq_true rfl) ⟨by decide, by decide⟩ (by decide) (by decide) (fun v6 h6 sz6 hq6 => ?_)
    obtain ⟨x1, x2, x3, x4⟩ := hq6
    rw [x1, x4]
    have hS6 := hS'.hist (by omega) x3 x2
    have s16 := hS6.1
    have g26 : h6 (o + 13) = _ := (x3 (o + 13) (by omega) (by omega) (by omega)).trans g2
    refine xa_aload_n d_SB_play_54 rfl ?_
    refine xa_callV (As := []) (st := []) d_SB_play_55 k_SB_132 s16 (c_SB_showLatestBoard hS6.P hI.1.2 hT.1 (fun q hq => by rw [xh_up_eq]; exact htle q hq)) rfl rfl (Nat.le_of_ble_eq_true rfl) ⟨by decide, by decide⟩ (by decide) (by decide) (fun v7 h7 sz7 hq7 => ?_)
    obtain ⟨y1, y2, y3, y4⟩ := hq7
    rw [y1, y4]
    rw [xh_up_eq] at y2
    have s17 := y2.1
    have g27 := (y3 (o + 13) (by omega)).trans g26
    refine xa_aload_n d_SB_play_58 rfl ?_
    refine xa_getf f_SB_52 d_SB_play_59 (by assumption) (by rfl) ?_
    refine xa_getf f_SB_125 d_SB_play_62 (by assumption) (by rfl) ?_
    exact xa_ireturn d_SB_play_65 rfl (by decide) (by decide) ⟨⟨t, k, ls, hTq, rfl, y2⟩, fun q h1 h2 => by rw [y3 q (by omega), x3 q h1 (by omega) (by omega), hfr' q (by omega) (by omega)], by omega⟩
  · omega
theorem t_SB_play1 {x : Int32} (htr : l.stackTraces = false) (hS : xS_S D h o T n fs b m bd pt tb tw) (hx : x < 0 ∨ nI (n * n) ≤ x) :
    xa_T l D H0 M_SB_play 7 135 1 6 [.ref o, .int x] h sz "java/lang/IndexOutOfBoundsException" (fun h' sz' => h' = h ∧ sz ≤ sz') := by
  have s1 := hS.1
  refine xa_enterT (by decide) rfl rfl ?_
  refine xa_aload_n d_SB_play_0 rfl ?_
  refine xa_iload_n d_SB_play_1 rfl ?_
  exact xa_callVT (As := [.int x]) (st := []) d_SB_play_2 rfl k_SB_73 s1 (t_SB_checkPoint htr hS hx) rfl rfl (Nat.le_of_ble_eq_true rfl) ⟨by decide, by decide⟩ (by decide) (by decide) (by decide) (by decide) (fun h' sz' hq => hq)
theorem t_SB_play2 {p : Nat} (htr : l.stackTraces = false) (hS : xS_S D h o T n fs b m bd pt tb tw) (hI : xS_I n fs b m bd) (hT : o + 28 ≤ T) (hp : p < n * n) (hok : ¬ gx_ok n fs b m bd pt p) :
    xa_T l D H0 M_SB_play 7 135 1 6 [.ref o, .int (nI p)] h sz "java/lang/IllegalStateException" (fun h' sz' => xS_S D h' o T n fs b m bd pt tb tw ∧ (∀ q, q ≠ o + 13 → q ≠ o + 14 → h' q = h q) ∧ sz ≤ sz') := by
  have s1 := hS.1
  refine xa_enterT (by decide) rfl rfl ?_
  refine xa_aload_n d_SB_play_0 rfl ?_
  refine xa_iload_n d_SB_play_1 rfl ?_
  refine xa_callVr (As := [.int (nI p)]) (st := []) d_SB_play_2 k_SB_73 s1 (c_SB_checkPoint hS hI hp) rfl rfl (Nat.le_of_ble_eq_true rfl) ⟨by decide, by decide⟩ (by decide) (by decide) ?_
  refine xa_aload_n d_SB_play_5 rfl ?_
  refine xa_callVr (As := []) (st := []) d_SB_play_6 k_SB_109 s1 (c_SB_checkRoomForMove hS hI.2.2.1) rfl rfl (Nat.le_of_ble_eq_true rfl) ⟨by decide, by decide⟩ (by decide) (by decide) ?_
  refine xa_aload_n d_SB_play_9 rfl ?_
  refine xa_iload_n d_SB_play_10 rfl ?_
  refine xa_callV (As := [.int (nI p)]) (st := []) d_SB_play_11 k_SB_112 s1 (c_SB_judgeMove hS hI hT hp) rfl rfl (Nat.le_of_ble_eq_true rfl) ⟨by decide, by decide⟩ (by decide) (by decide) (fun v h' sz' hq => ?_)
  obtain ⟨⟨j, hv, hw⟩, hS', hfr', hz⟩ := hq
  rw [hv, hz]
  obtain ⟨hj1, hj2⟩ := gx_why_no hok hw
  show xa_X l D H0 M_SB_play _ _ _ _ h' sz 14 _ [.int (nI j)]
  refine xa_if_eqN (tgt := 25) d_SB_play_14 (by decide) (by omega) (fun hz2 => ?_) (fun hz2 => ?_)
  · omega
  · exact xa_throw htr rfl t_ISE d_SB_play_17 d_SB_play_20 d_SB_play_21 d_SB_play_24 (by decide) (by decide) (by decide) (by decide) (by decide) (by decide) (fun sz' hz => ⟨hS', hfr', hz⟩)
theorem c_SB_pass (hS : xS_S D h o T n fs b m bd pt tb tw) (hI : xS_I n fs b m bd) (hT : o + 28 ≤ T ∧ T ≤ sz) (hend : ¬ gx_end pt m) :
    xa_M l D H0 M_SB_pass 7 109 1 7 [.ref o] h sz (fun v h' sz' => ((v = some (.int 1) ∧ gx_end (xh_up pt (m + 1) (-1)) (m + 1)) ∨ (v = some (.int 0) ∧ ¬ gx_end (xh_up pt (m + 1) (-1)) (m + 1))) ∧ xS_S D h' o T n fs b (m + 1) (xh_up bd (m + 1) (bd m)) (xh_up pt (m + 1) (-1)) (xh_up tb (m + 1) (tb m)) (xh_up tw (m + 1) (tw m)) ∧ (∀ q, q < sz → (q < o ∨ o + 28 ≤ q) → h' q = h q) ∧ sz ≤ sz') := by
  have hN : n * n ≤ 169 := Nat.mul_le_mul hI.1.2 hI.1.2
  have s1 := hS.1
  obtain ⟨q, B, ob, F, V, e1, e2, hP, hB, hV, hK⟩ := hS.2.2.2.1
  refine xa_enter (by decide) rfl rfl ?_
  refine xa_aload_n d_SB_pass_0 rfl ?_
  refine xa_callVr (As := []) (st := []) d_SB_pass_1 k_SB_109 s1 (c_SB_checkRoomForMove hS hI.2.2.1) rfl rfl (Nat.le_of_ble_eq_true rfl) ⟨by decide, by decide⟩ (by decide) (by decide) ?_
  refine xa_aload_n d_SB_pass_4 rfl ?_
  refine xa_getf f_SB_59 d_SB_pass_5 (by assumption) (by rfl) ?_
  refine xa_callVr (As := []) (st := []) d_SB_pass_8 k_SB_135 e1 (c_History_hasEnded e1 hP) rfl rfl (Nat.le_of_ble_eq_true rfl) ⟨by decide, by decide⟩ (by decide) (by decide) ?_
  refine xa_int (y := nI 0) (if_neg (c := pt m = -1 ∧ m ≠ 0 ∧ pt (m - 1) = -1) hend) ?_
  refine xa_if_eqN (tgt := 22) d_SB_pass_11 (by decide) (by omega) (fun hz => ?_) (fun hz => ?_)
  ·
    refine xa_aload_n d_SB_pass_22 rfl ?_
    refine xa_getf f_SB_59 d_SB_pass_23 (by assumption) (by rfl) ?_
    refine xa_callV (As := []) (st := []) d_SB_pass_26 k_SB_138 e1 (c_History_addPass hS.2.2.2.1 hN hT.2) rfl rfl (Nat.le_of_ble_eq_true rfl) ⟨by decide, by decide⟩ (by decide) (by decide) (fun v6 h6 sz6 hq6 => ?_)
    obtain ⟨x1, x2, x3, x4⟩ := hq6
    rw [x1, x4]
    have hS6 := hS.hist (by omega) x3 x2
    have s16 := hS6.1
    have fr : ∀ q, q < sz → (q < o ∨ o + 28 ≤ q) → h6 q = h q := fun q h1 h2 => x3 q h1 (by omega) (by omega)
    obtain ⟨q', B', ob', F', V', e1', e2', hP', hB', hV', hK'⟩ := x2
    refine xa_aload_n d_SB_pass_29 rfl ?_
    refine xa_getf f_SB_59 d_SB_pass_30 (by assumption) (by rfl) ?_
    refine xa_callVr (As := []) (st := []) d_SB_pass_33 k_SB_135 e1' (c_History_hasEnded e1' hP') rfl rfl (Nat.le_of_ble_eq_true rfl) ⟨by decide, by decide⟩ (by decide) (by decide) ?_
    by_cases he : gx_end (xh_up pt (m + 1) (-1)) (m + 1)
    · refine xa_int (y := nI 1) (if_pos (c := xh_up pt (m + 1) (-1) (m + 1) = -1 ∧ m + 1 ≠ 0 ∧ xh_up pt (m + 1) (-1) (m + 1 - 1) = -1) he) ?_
      exact xa_zreturn (v := nI 1) d_SB_pass_36 rfl (by decide) (by decide) (by decide) ⟨Or.inl ⟨rfl, he⟩, hS6, fr, by omega⟩
    · refine xa_int (y := nI 0) (if_neg (c := xh_up pt (m + 1) (-1) (m + 1) = -1 ∧ m + 1 ≠ 0 ∧ xh_up pt (m + 1) (-1) (m + 1 - 1) = -1) he) ?_
      exact xa_zreturn (v := nI 0) d_SB_pass_36 rfl (by decide) (by decide) (by decide) ⟨Or.inr ⟨rfl, he⟩, hS6, fr, by omega⟩
  · omega
theorem t_SB_pass (htr : l.stackTraces = false) (hS : xS_S D h o T n fs b m bd pt tb tw) (hI : xS_I n fs b m bd) (hend : gx_end pt m) :
    xa_T l D H0 M_SB_pass 7 109 1 6 [.ref o] h sz "java/lang/IllegalStateException" (fun h' sz' => h' = h ∧ sz ≤ sz') := by
  have s1 := hS.1
  obtain ⟨q, B, ob, F, V, e1, e2, hP, hB, hV, hK⟩ := hS.2.2.2.1
  refine xa_enterT (by decide) rfl rfl ?_
  refine xa_aload_n d_SB_pass_0 rfl ?_
  refine xa_callVr (As := []) (st := []) d_SB_pass_1 k_SB_109 s1 (c_SB_checkRoomForMove hS hI.2.2.1) rfl rfl (Nat.le_of_ble_eq_true rfl) ⟨by decide, by decide⟩ (by decide) (by decide) ?_
  refine xa_aload_n d_SB_pass_4 rfl ?_
  refine xa_getf f_SB_59 d_SB_pass_5 (by assumption) (by rfl) ?_
  refine xa_callVr (As := []) (st := []) d_SB_pass_8 k_SB_135 e1 (c_History_hasEnded e1 hP) rfl rfl (Nat.le_of_ble_eq_true rfl) ⟨by decide, by decide⟩ (by decide) (by decide) ?_
  refine xa_int (y := nI 1) (if_pos (c := pt m = -1 ∧ m ≠ 0 ∧ pt (m - 1) = -1) hend) ?_
  refine xa_if_eqN (tgt := 22) d_SB_pass_11 (by decide) (by omega) (fun hz => ?_) (fun hz => ?_)
  · omega
  · exact xa_throw htr rfl t_ISE d_SB_pass_14 d_SB_pass_17 d_SB_pass_18 d_SB_pass_21 (by decide) (by decide) (by decide) (by decide) (by decide) (by decide) (fun sz' hz => ⟨rfl, hz⟩)
theorem c_SB_back (hS : xS_S D h o T n fs b (m + 1) bd pt tb tw) (hI : xS_I n fs b (m + 1) bd) (hT : o + 28 ≤ T ∧ T ≤ sz) :
    xa_M l D H0 M_SB_back 6 113 0 0 [.ref o] h sz (fun v h' sz' => v = some (.int (nI m)) ∧ xS_S D h' o T n fs (bd m) m bd pt tb tw ∧ (∀ q, q < sz → (q < o ∨ o + 28 ≤ q) → h' q = h q) ∧ sz ≤ sz') := by
  have hN : n * n ≤ 169 := Nat.mul_le_mul hI.1.2 hI.1.2
  have hm := hI.2.2.1
  have s1 := hS.1
  obtain ⟨q, B, ob, F, V, e1, e2, hP, hB, hV, hK⟩ := hS.2.2.2.1
  obtain ⟨p1, p2⟩ := hP (m + 1) (Nat.le_refl _)
  refine xa_enter (by decide) rfl rfl ?_
  refine xa_aload_n d_SB_back_0 rfl ?_
  refine xa_getf f_SB_59 d_SB_back_1 (by assumption) (by rfl) ?_
  refine xa_getf f_SB_96 d_SB_back_4 (by assumption) (by rfl) ?_
  refine xa_getf f_SB_100 d_SB_back_7 (by assumption) (by rfl) ?_
  refine xa_if_neN (tgt := 21) d_SB_back_10 (by decide) (by omega) (fun hz => ?_) (fun hz => ?_)
  ·
    refine xa_aload_n d_SB_back_21 rfl ?_
    refine xa_getf f_SB_59 d_SB_back_22 (by assumption) (by rfl) ?_
    refine xa_callV (As := []) (st := []) d_SB_back_25 k_SB_141 e1 (c_History_dropLatest hS.2.2.2.1 hN) rfl rfl (Nat.le_of_ble_eq_true rfl) ⟨by decide, by decide⟩ (by decide) (by decide) (fun v6 h6 sz6 hq6 => ?_)
    obtain ⟨x1, x2, x3, x4⟩ := hq6
    rw [x1, x4]
    have hS6 := hS.hist (sz := sz) (by omega) (fun a _ => x3 a) x2
    have s16 := hS6.1
    refine xa_aload_n d_SB_back_28 rfl ?_
    refine xa_callV (As := []) (st := []) d_SB_back_29 k_SB_132 s16 (c_SB_showLatestBoard hS6.P hI.1.2 hT.1 (hI.2.2.2.2 m (by omega))) rfl rfl (Nat.le_of_ble_eq_true rfl) ⟨by decide, by decide⟩ (by decide) (by decide) (fun v7 h7 sz7 hq7 => ?_)
    obtain ⟨y1, y2, y3, y4⟩ := hq7
    rw [y1, y4]
    have s17 := y2.1
    obtain ⟨q', B', ob', F', V', e1', e2', hP', hB', hV', hK'⟩ := id y2.2.2.2.1
    obtain ⟨p1', p2'⟩ := hP' m (Nat.le_refl _)
    refine xa_aload_n d_SB_back_32 rfl ?_
    refine xa_getf f_SB_59 d_SB_back_33 (by assumption) (by rfl) ?_
    refine xa_getf f_SB_96 d_SB_back_36 (by assumption) (by rfl) ?_
    refine xa_getf f_SB_100 d_SB_back_39 (by assumption) (by rfl) ?_
    exact xa_ireturn d_SB_back_42 rfl (by decide) (by decide) ⟨rfl, y2, fun q h1 h2 => by rw [y3 q (by omega), x3 q (by omega) (by omega)], by omega⟩
  · omega
theorem t_SB_back (htr : l.stackTraces = false) (hS : xS_S D h o T n fs b 0 bd pt tb tw) :
    xa_T l D H0 M_SB_back 6 113 1 6 [.ref o] h sz "java/lang/IllegalStateException" (fun h' sz' => h' = h ∧ sz ≤ sz') := by
  have s1 := hS.1
  obtain ⟨q, B, ob, F, V, e1, e2, hP, hB, hV, hK⟩ := hS.2.2.2.1
  obtain ⟨p1, p2⟩ := hP 0 (Nat.le_refl _)
  refine xa_enterT (by decide) rfl rfl ?_
  refine xa_aload_n d_SB_back_0 rfl ?_
  refine xa_getf f_SB_59 d_SB_back_1 (by assumption) (by rfl) ?_
  refine xa_getf f_SB_96 d_SB_back_4 (by assumption) (by rfl) ?_
  refine xa_getf f_SB_100 d_SB_back_7 (by assumption) (by rfl) ?_
  refine xa_if_neN (tgt := 21) d_SB_back_10 (by decide) (by omega) (fun hz => ?_) (fun hz => ?_)
  · omega
  · exact xa_throw htr rfl t_ISE d_SB_back_13 d_SB_back_16 d_SB_back_17 d_SB_back_20 (by decide) (by decide) (by decide) (by decide) (by decide) (by decide) (fun sz' hz => ⟨rfl, hz⟩)
end SB3
end
section
/-! Life: kindOf, isNoted, isBeside, belongs, standsAt, isBesideFallenString. -/
/-- what life reads -/
def xl_R (D : va_G) (h : xa_H) (n lf g aK c : Nat) (f A O S : Nat → Int32) (kb : Nat → Nat) : Prop :=
  h lf = some (.inr (5, [.ref g, .ref aK, .ref (lf + 1), .ref (lf + 2), .ref (lf + 6), .ref (lf + 7), .ref (lf + 8)])) ∧ h (lf + 1) = some (.inl (D.1 100, n * n, .inl (fun q => nI (kb q)))) ∧ h (lf + 2) = some (.inr (1, [.int (nI c), .ref g, .ref (lf + 3), .ref (lf + 4), .ref (lf + 5)])) ∧ h (lf + 3) = some (.inl (D.1 100, n * n, .inl A)) ∧ h (lf + 4) = some (.inl (D.1 100, n * n, .inl O)) ∧ h (lf + 5) = some (.inl (D.1 100, n * n + 1, .inl S)) ∧
  h g = some (.inr (3, [.int (nI (n * n)), .ref (g + 1)])) ∧ h (g + 1) = some (.inl (D.1 100, 4 * (n * n), .inl f)) ∧ n * n < 1000 ∧ (∀ q w, q < n * n → w < 4 → f (4 * q + w) = gb_oi (gb_nb n q w)) ∧ ∀ q, q < n * n → kb q ≤ 1
theorem xl_R.frame {D : va_G} {h h' : xa_H} {n lf g aK c : Nat} {f A O S : Nat → Int32} {kb : Nat → Nat} (hr : xl_R D h n lf g aK c f A O S kb) (hf : ∀ q, (q = g ∨ q = g + 1 ∨ (lf ≤ q ∧ q ≤ lf + 5)) → h' q = h q) : xl_R D h' n lf g aK c f A O S kb := by
  obtain ⟨r1, r2, r3, r4, r5, r6, r7, r8, hx⟩ := hr
  refine ⟨?_, ?_, ?_, ?_, ?_, ?_, ?_, ?_, hx⟩
  all_goals (rw [hf _ (by omega)]; assumption)
def gl_bs (n : Nat) (ar : Nat → Nat) (p g : Nat) : Prop := ∃ w x, w < 4 ∧ gb_nb n p w = some x ∧ ar x = g
def gl_ba (n : Nat) (ar : Nat → Nat) (r g : Nat) : Prop := ∀ p, p < n * n → ar p = r → gl_bs n ar p g
section LF
variable {l : Launch} {D : va_G} {H0 : Heap} {h : xa_H} {sz : Nat} {R : Room} {n lf g aK c : Nat} {f A O S : Nat → Int32} {kb ar o s : Nat → Nat}
theorem c_Life_kindOf {q : Nat} (hr : xl_R D h n lf g aK c f A O S kb) (hW : xt_W n (fun q => nI (kb q)) c ar o s A O S) (hq : q < c) :
    xa_M l D H0 M_Life_kindOf 1 21 0 0 [.ref lf, .int (nI q)] h sz (fun v h' sz' => v = some (.int (nI (kb (o (s q))))) ∧ h' = h ∧ sz' = sz) := by
  obtain ⟨r1, r2, r3, r4, r5, r6, r7, r8, hN, hf, hb⟩ := hr
  obtain ⟨w1, w2, w3, w4⟩ := hW
  obtain ⟨a1, a2, a3, a4, a5⟩ := gs_W_area w1 hq
  have hcN : c ≤ n * n := w1.2.2.2.2.2.2.2.2.2.2
  refine xa_enter (by decide) rfl rfl ?_
  refine xa_aload_n d_Life_kindOf_0 rfl ?_
  refine xa_getf f_Life_25 d_Life_kindOf_1 (by assumption) (by rfl) ?_
  refine xa_aload_n d_Life_kindOf_4 rfl ?_
  refine xa_getf f_Life_33 d_Life_kindOf_5 (by assumption) (by rfl) ?_
  refine xa_iload_n d_Life_kindOf_8 rfl ?_
  refine xa_callVr (As := [.int (nI q)]) (st := [.ref (lf + 1)]) d_Life_kindOf_9 k_Life_73 r3 (c_Areas_leastOf (o := o) (s := s) r3 r5 r6 hN (by omega) (w4 _ (by omega)) a1 (w3 _ a1)) rfl rfl (Nat.le_of_ble_eq_true rfl) ⟨by decide, by decide⟩ (by decide) (by decide) ?_
  refine xa_ialdE d_Life_kindOf_12 r2 rfl a3 (by omega) rfl ?_
  exact xa_ireturn d_Life_kindOf_13 rfl (by decide) (by decide) ⟨rfl, rfl, rfl⟩
theorem w_isNoted {x y z u v : Value} {BT : Nat → Int32} {gg : Int32} {fr k : Nat} (hl : h lf = some (.inr (5, [x, y, z, u, v, .ref (lf + 7), .ref (lf + 8)]))) (hB : h (lf + 7) = some (.inl (D.1 100, 4 * (n * n), .inl BT))) (hN : n * n < 1000) (hk : fr + k ≤ 4 * (n * n)) (w : Nat) (hw : w ≤ k) (hno : ∀ w', w' < w → BT (fr + w') ≠ gg) :
    xa_X l D H0 M_Life_isNoted R (xa_Zr D H0 0 0 (fun v h' sz' => ((v = some (.int 1) ∧ ∃ w, w < k ∧ BT (fr + w) = gg) ∨ (v = some (.int 0) ∧ ∀ w, w < k → BT (fr + w) ≠ gg)) ∧ h' = h ∧ sz' = sz)) 0 0 h sz 3 [(0, .ref lf), (1, .int gg), (2, .int (nI fr)), (3, .int (nI k)), (4, .int (nI w))] [] := by
  refine xa_iload d_Life_isNoted_3 rfl ?_
  refine xa_iload_n d_Life_isNoted_5 rfl ?_
  refine xa_icmp_geN (tgt := 30) d_Life_isNoted_6 (by decide) (by omega) (by omega) (fun hb => ?_) (fun hb => ?_)
  ·
    refine xa_iconst (v := nI 0) d_Life_isNoted_30 rfl ?_
    exact xa_zreturn (v := nI 0) d_Life_isNoted_31 rfl (by decide) (by omega) (by omega) ⟨Or.inr ⟨rfl, fun w' hw' => hno w' (by omega)⟩, rfl, rfl⟩
  ·
    refine xa_aload_n d_Life_isNoted_9 rfl ?_
    refine xa_getf f_Life_41 d_Life_isNoted_10 (by assumption) (by rfl) ?_
    refine xa_iload_n d_Life_isNoted_13 rfl ?_
    refine xa_iload d_Life_isNoted_14 rfl ?_
    refine xa_iaddN d_Life_isNoted_16 ?_
    refine xa_ialdE d_Life_isNoted_17 hB rfl (by omega) (by omega) rfl ?_
    refine xa_iload_n d_Life_isNoted_18 rfl ?_
    refine xa_icmp_ne (tgt := 24) d_Life_isNoted_19 (by decide) (fun hz => ?_) (fun hz => ?_)
    ·
      refine xa_iincN d_Life_isNoted_24 rfl rfl rfl ?_
      refine xa_goto (tgt := 3) d_Life_isNoted_27 (by decide) ?_
      refine xa_ls ?_ (w_isNoted (gg := gg) hl hB hN hk (w + 1) (by omega) (fun w' hw' => ?_))
      · exact ⟨rfl, rfl, rfl, rfl, rfl, trivial⟩
      · by_cases he : w' = w
        · rw [he]; exact hz
        · exact hno w' (by omega)
    ·
      refine xa_iconst (v := nI 1) d_Life_isNoted_22 rfl ?_
      exact xa_zreturn (v := nI 1) d_Life_isNoted_23 rfl (by decide) (by omega) (by omega) ⟨Or.inl ⟨rfl, w, hb, hz⟩, rfl, rfl⟩
termination_by k - w
decreasing_by omega
theorem c_Life_isNoted {x y z u v : Value} {BT : Nat → Int32} {gg : Int32} {fr k : Nat} (hl : h lf = some (.inr (5, [x, y, z, u, v, .ref (lf + 7), .ref (lf + 8)]))) (hB : h (lf + 7) = some (.inl (D.1 100, 4 * (n * n), .inl BT))) (hN : n * n < 1000) (hk : fr + k ≤ 4 * (n * n)) :
    xa_M l D H0 M_Life_isNoted 0 0 0 0 [.ref lf, .int gg, .int (nI fr), .int (nI k)] h sz (fun v h' sz' => ((v = some (.int 1) ∧ ∃ w, w < k ∧ BT (fr + w) = gg) ∨ (v = some (.int 0) ∧ ∀ w, w < k → BT (fr + w) ≠ gg)) ∧ h' = h ∧ sz' = sz) := by
  refine xa_enter (by decide) rfl rfl ?_
  refine xa_iconst (v := nI 0) d_Life_isNoted_0 rfl ?_
  refine xa_istore d_Life_isNoted_1 rfl rfl ?_
  refine xa_ls ?_ (w_isNoted (gg := gg) hl hB hN hk 0 (by omega) (fun w' hw' => absurd hw' (Nat.not_lt_zero _)))
  exact ⟨rfl, rfl, rfl, rfl, rfl, trivial⟩
theorem w_isBeside {p gg : Nat} (hR : 1 ≤ R.frames ∧ 22 ≤ R.locals) (hr : xl_R D h n lf g aK c f A O S kb) (hW : xt_W n (fun q => nI (kb q)) c ar o s A O S) (hp : p < n * n) (hg : gg < c) (w : Nat) (hw : w ≤ 4) (hno : ∀ v x, v < w → gb_nb n p v = some x → ar x ≠ gg) :
    xa_X l D H0 M_Life_isBeside R (xa_Zr D H0 0 0 (fun v h' sz' => ((v = some (.int 1) ∧ gl_bs n ar p gg) ∨ (v = some (.int 0) ∧ ¬ gl_bs n ar p gg)) ∧ h' = h ∧ sz' = sz)) 0 0 h sz 2 [(0, .ref lf), (1, .int (nI p)), (2, .int (nI gg)), (3, .int (nI w))] [] := by
  obtain ⟨r1, r2, r3, r4, r5, r6, r7, r8, hN, hf, hb⟩ := id hr
  obtain ⟨w1, w2, w3, w4⟩ := id hW
  have hcN : c ≤ n * n := w1.2.2.2.2.2.2.2.2.2.2
  refine xa_iload_n d_Life_isBeside_2 rfl ?_
  refine xa_iconst (v := nI 4) d_Life_isBeside_3 rfl ?_
  refine xa_icmp_geN (tgt := 45) d_Life_isBeside_4 (by decide) (by omega) (by omega) (fun hb4 => ?_) (fun hb4 => ?_)
  ·
    refine xa_iconst (v := nI 0) d_Life_isBeside_45 rfl ?_
    exact xa_zreturn (v := nI 0) d_Life_isBeside_46 rfl (by decide) (by omega) (by omega) ⟨Or.inr ⟨rfl, fun ⟨v, x, h1, h2, h3⟩ => hno v x (by omega) h2 h3⟩, rfl, rfl⟩
  ·
    refine xa_aload_n d_Life_isBeside_7 rfl ?_
    refine xa_getf f_Life_9 d_Life_isBeside_8 (by assumption) (by rfl) ?_
    refine xa_iload_n d_Life_isBeside_11 rfl ?_
    refine xa_iload_n d_Life_isBeside_12 rfl ?_
    refine xa_callVr (As := [.int (nI p), .int (nI w)]) (st := []) d_Life_isBeside_13 k_Life_76 r7 (c_Grid_neighbour r7 r8 hN hp hb4) rfl rfl (Nat.le_of_ble_eq_true rfl) ⟨hR.1, hR.2⟩ (by omega) (by omega) ?_
    have again : (∀ x, gb_nb n p w = some x → ar x ≠ gg) → ∀ z : Int32, xa_X l D H0 M_Life_isBeside R (xa_Zr D H0 0 0 (fun v h' sz' => ((v = some (.int 1) ∧ gl_bs n ar p gg) ∨ (v = some (.int 0) ∧ ¬ gl_bs n ar p gg)) ∧ h' = h ∧ sz' = sz)) 0 0 h sz 39 [(0, .ref lf), (1, .int (nI p)), (2, .int (nI gg)), (3, .int (nI w)), (4, .int z)] [] := by
      intro hs z
      refine xa_iincN d_Life_isBeside_39 rfl rfl rfl ?_
      refine xa_goto (tgt := 2) d_Life_isBeside_42 (by decide) ?_
      refine xa_ls ?_ (w_isBeside hR hr hW hp hg (w + 1) (by omega) (fun v x h0 h1 => ?_))
      · exact ⟨rfl, rfl, rfl, rfl, trivial⟩
      · by_cases hv : v = w
        · subst hv; exact hs x h1
        · exact hno v x (by omega) h1
    have hv := hf p w hp hb4
    cases hnb : gb_nb n p w with
    | none =>
      rw [hnb] at hv
      refine xa_int (show f (4 * p + w) = -1 from hv) ?_
      refine xa_istore d_Life_isBeside_16 rfl rfl ?_
      refine xa_iload d_Life_isBeside_18 rfl ?_
      refine xa_iconst (v := -1) d_Life_isBeside_20 rfl ?_
      refine xa_icmp_eq (tgt := 39) d_Life_isBeside_21 (by decide) (fun hz => ?_) (fun hz => ?_)
      · refine xa_ls ?_ (again (fun x hx => by rw [hnb] at hx; cases hx) (-1))
        exact ⟨rfl, rfl, rfl, rfl, rfl, trivial⟩
      · exact absurd rfl hz
    | some y =>
      rw [hnb] at hv
      have hy := gb_nb_lt hp hb4 hnb
      have hay := w1.1 y hy
      refine xa_int (show f (4 * p + w) = nI y from hv) ?_
      refine xa_istore d_Life_isBeside_16 rfl rfl ?_
      refine xa_iload d_Life_isBeside_18 rfl ?_
      refine xa_iconst (v := -1) d_Life_isBeside_20 rfl ?_
      refine xa_icmp_eq (tgt := 39) d_Life_isBeside_21 (by decide) (fun hz => ?_) (fun hz => ?_)
      · exact absurd hz (gb_m1 (by omega))
      ·
        refine xa_aload_n d_Life_isBeside_24 rfl ?_
        refine xa_getf f_Life_33 d_Life_isBeside_25 (by assumption) (by rfl) ?_
        refine xa_iload d_Life_isBeside_28 rfl ?_
        refine xa_callVr (As := [.int (nI y)]) (st := []) d_Life_isBeside_30 k_Life_63 r3 (c_Areas_areaAt r3 r4 hN hy (w2 y hy)) rfl rfl (Nat.le_of_ble_eq_true rfl) ⟨hR.1, by have := hR.2; show 8 + (2 + 11) + 0 ≤ _; omega⟩ (by omega) (by omega) ?_
        refine xa_iload_n d_Life_isBeside_33 rfl ?_
        refine xa_icmp_neN (tgt := 39) d_Life_isBeside_34 (by decide) (by omega) (by omega) (fun hz2 => ?_) (fun hz2 => ?_)
        · refine xa_ls ?_ (again (fun x hx => by rw [hnb] at hx; cases hx; exact hz2) (nI y))
          exact ⟨rfl, rfl, rfl, rfl, rfl, trivial⟩
        ·
          refine xa_iconst (v := nI 1) d_Life_isBeside_37 rfl ?_
          exact xa_zreturn (v := nI 1) d_Life_isBeside_38 rfl (by decide) (by omega) (by omega) ⟨Or.inl ⟨rfl, w, y, by omega, hnb, hz2⟩, rfl, rfl⟩
termination_by 4 - w
decreasing_by omega
theorem c_Life_isBeside {p gg : Nat} (hr : xl_R D h n lf g aK c f A O S kb) (hW : xt_W n (fun q => nI (kb q)) c ar o s A O S) (hp : p < n * n) (hg : gg < c) :
    xa_M l D H0 M_Life_isBeside 1 22 0 0 [.ref lf, .int (nI p), .int (nI gg)] h sz (fun v h' sz' => ((v = some (.int 1) ∧ gl_bs n ar p gg) ∨ (v = some (.int 0) ∧ ¬ gl_bs n ar p gg)) ∧ h' = h ∧ sz' = sz) := by
  refine xa_enter (by decide) rfl rfl ?_
  refine xa_iconst (v := nI 0) d_Life_isBeside_0 rfl ?_
  refine xa_istore_n d_Life_isBeside_1 rfl rfl ?_
  refine xa_ls ?_ (w_isBeside ⟨by decide, by decide⟩ hr hW hp hg 0 (by omega) (fun v x hv => absurd hv (Nat.not_lt_zero _)))
  exact ⟨rfl, rfl, rfl, rfl, trivial⟩
theorem w_belongs {r gg : Nat} (hR : 2 ≤ R.frames ∧ 46 ≤ R.locals) (hr : xl_R D h n lf g aK c f A O S kb) (hW : xt_W n (fun q => nI (kb q)) c ar o s A O S) (hrc : r < c) (hg : gg < c) (i : Nat) (hi : i ≤ s (r + 1) - s r) (hall : ∀ j, j < i → gl_bs n ar (o (s r + j)) gg) :
    xa_X l D H0 M_Life_belongs R (xa_Zr D H0 0 0 (fun v h' sz' => ((v = some (.int 1) ∧ gl_ba n ar r gg) ∨ (v = some (.int 0) ∧ ¬ gl_ba n ar r gg)) ∧ h' = h ∧ sz' = sz)) 0 0 h sz 2 [(0, .ref lf), (1, .int (nI r)), (2, .int (nI gg)), (3, .int (nI i))] [] := by
  obtain ⟨r1, r2, r3, r4, r5, r6, r7, r8, hN, hf, hb⟩ := id hr
  obtain ⟨w1, w2, w3, w4⟩ := id hW
  have hcN : c ≤ n * n := w1.2.2.2.2.2.2.2.2.2.2
  obtain ⟨a1, a2, a3, a4, a5⟩ := gs_W_area w1 hrc
  have hlt := w1.2.2.2.2.2.2.2.1 _ hrc
  refine xa_iload_n d_Life_belongs_2 rfl ?_
  refine xa_aload_n d_Life_belongs_3 rfl ?_
  refine xa_getf f_Life_33 d_Life_belongs_4 (by assumption) (by rfl) ?_
  refine xa_iload_n d_Life_belongs_7 rfl ?_
  refine xa_callVr (As := [.int (nI r)]) (st := [.int (nI i)]) d_Life_belongs_8 k_Life_70 r3 (c_Areas_sizeOf (s := s) r3 r6 hN (by omega) (w4 _ (by omega)) (w4 (r + 1) (by omega)) (by omega)) rfl rfl (Nat.le_of_ble_eq_true rfl) ⟨by have := hR.1; show 0 + 1 ≤ _; omega, by have := hR.2; show 8 + (2 + 11) + 0 ≤ _; omega⟩ (by omega) (by omega) ?_
  refine xa_icmp_geN (tgt := 39) d_Life_belongs_11 (by decide) (by omega) (by omega) (fun hbi => ?_) (fun hbi => ?_)
  ·
    refine xa_iconst (v := nI 1) d_Life_belongs_39 rfl ?_
    refine xa_zreturn (v := nI 1) d_Life_belongs_40 rfl (by decide) (by omega) (by omega) ⟨Or.inl ⟨rfl, fun p hp hpa => ?_⟩, rfl, rfl⟩
    obtain ⟨j, hj, e⟩ := (a5 p).mp ((w1.2.1 _ _ a3 hp).mp (by rw [a4, hpa]))
    rw [← e]
    exact hall j (by omega)
  · have hpi : o (s r + i) < n * n := w1.2.2.1 _ (by omega)
    have hai : ar (o (s r + i)) = r := w1.2.2.2.2.2.2.2.2.1 r _ hrc (by omega) (by omega)
    refine xa_aload_n d_Life_belongs_14 rfl ?_
    refine xa_aload_n d_Life_belongs_15 rfl ?_
    refine xa_getf f_Life_33 d_Life_belongs_16 (by assumption) (by rfl) ?_
    refine xa_iload_n d_Life_belongs_19 rfl ?_
    refine xa_iload_n d_Life_belongs_20 rfl ?_
    refine xa_callVr (As := [.int (nI r), .int (nI i)]) (st := [.ref lf]) d_Life_belongs_21 k_Life_88 r3 (c_Areas_pointOf (o := o) (s := s) r3 r5 r6 hN (by omega) (w4 _ (by omega)) (by omega) (w3 _ (by omega))) rfl rfl (Nat.le_of_ble_eq_true rfl) ⟨by have := hR.1; show 0 + 1 ≤ _; omega, by have := hR.2; show 8 + (3 + 11) + 0 ≤ _; omega⟩ (by omega) (by omega) ?_
    refine xa_iload_n d_Life_belongs_24 rfl ?_
    refine xa_callV (As := [.int (nI (o (s r + i))), .int (nI gg)]) (st := []) d_Life_belongs_25 k_Life_91 r1 (c_Life_isBeside hr hW hpi hg) rfl rfl (Nat.le_of_ble_eq_true rfl) ⟨by have := hR.1; show 1 + 1 ≤ _; omega, by have := hR.2; show 8 + (5 + 11) + 22 ≤ _; omega⟩ (by omega) (by omega) (fun v h' sz' hq => ?_)
    obtain ⟨hv, e2, e3⟩ := hq
    rw [e2, e3]
    rcases hv with ⟨hv, hbs⟩ | ⟨hv, hbs⟩
    · rw [hv]
      refine xa_int (y := nI 1) rfl ?_
      refine xa_if_neN (tgt := 33) d_Life_belongs_28 (by decide) (by omega) (fun hz => ?_) (fun hz => ?_)
      ·
        refine xa_iincN d_Life_belongs_33 rfl rfl rfl ?_
        refine xa_goto (tgt := 2) d_Life_belongs_36 (by decide) ?_
        refine xa_ls ?_ (w_belongs hR hr hW hrc hg (i + 1) (by omega) (fun j hj => ?_))
        · exact ⟨rfl, rfl, rfl, rfl, trivial⟩
        · by_cases he : j = i
          · rw [he]; exact hbs
          · exact hall j (by omega)
      · omega
    · rw [hv]
      refine xa_int (y := nI 0) rfl ?_
      refine xa_if_neN (tgt := 33) d_Life_belongs_28 (by decide) (by omega) (fun hz => ?_) (fun hz => ?_)
      · omega
      ·
        refine xa_iconst (v := nI 0) d_Life_belongs_31 rfl ?_
        exact xa_zreturn (v := nI 0) d_Life_belongs_32 rfl (by decide) (by omega) (by omega) ⟨Or.inr ⟨rfl, fun z => hbs (z _ hpi hai)⟩, rfl, rfl⟩
termination_by s (r + 1) - s r - i
decreasing_by omega
theorem c_Life_belongs {r gg : Nat} (hr : xl_R D h n lf g aK c f A O S kb) (hW : xt_W n (fun q => nI (kb q)) c ar o s A O S) (hrc : r < c) (hg : gg < c) :
    xa_M l D H0 M_Life_belongs 2 46 0 0 [.ref lf, .int (nI r), .int (nI gg)] h sz (fun v h' sz' => ((v = some (.int 1) ∧ gl_ba n ar r gg) ∨ (v = some (.int 0) ∧ ¬ gl_ba n ar r gg)) ∧ h' = h ∧ sz' = sz) := by
  refine xa_enter (by decide) rfl rfl ?_
  refine xa_iconst (v := nI 0) d_Life_belongs_0 rfl ?_
  refine xa_istore_n d_Life_belongs_1 rfl rfl ?_
  refine xa_ls ?_ (w_belongs ⟨by decide, by decide⟩ hr hW hrc hg 0 (by omega) (fun j hj => absurd hj (Nat.not_lt_zero _)))
  exact ⟨rfl, rfl, rfl, rfl, trivial⟩
theorem c_Life_standsAt {p : Nat} {ST : Nat → Int32} {x : Int32} (hr : xl_R D h n lf g aK c f A O S kb) (hW : xt_W n (fun q => nI (kb q)) c ar o s A O S) (hST : h (lf + 6) = some (.inl (D.1 102, n * n, .inl ST))) (hp : p < n * n) (hx : ST (ar p) = x) (hx2 : x = 0 ∨ x = 1) :
    xa_M l D H0 M_Life_standsAt 1 21 0 0 [.ref lf, .int (nI p)] h sz (fun v h' sz' => v = some (.int x) ∧ h' = h ∧ sz' = sz) := by
  obtain ⟨r1, r2, r3, r4, r5, r6, r7, r8, hN, hf, hb⟩ := id hr
  obtain ⟨w1, w2, w3, w4⟩ := id hW
  have hcN : c ≤ n * n := w1.2.2.2.2.2.2.2.2.2.2
  have hax := w1.1 p hp
  refine xa_enter (by decide) rfl rfl ?_
  refine xa_aload_n d_Life_standsAt_0 rfl ?_
  refine xa_getf f_Life_37 d_Life_standsAt_1 (by assumption) (by rfl) ?_
  refine xa_aload_n d_Life_standsAt_4 rfl ?_
  refine xa_getf f_Life_33 d_Life_standsAt_5 (by assumption) (by rfl) ?_
  refine xa_iload_n d_Life_standsAt_8 rfl ?_
  refine xa_callVr (As := [.int (nI p)]) (st := [.ref (lf + 6)]) d_Life_standsAt_9 k_Life_63 r3 (c_Areas_areaAt r3 r4 hN hp (w2 p hp)) rfl rfl (Nat.le_of_ble_eq_true rfl) ⟨by decide, by decide⟩ (by decide) (by decide) ?_
  refine xa_zaldE d_Life_standsAt_12 hST rfl (show ar p < n * n by omega) (by omega) hx ?_
  exact xa_zreturn d_Life_standsAt_13 rfl (by rcases hx2 with e | e <;> subst e <;> decide) (by decide) (by decide) ⟨rfl, rfl, rfl⟩
def gl_bf (n : Nat) (kb ar : Nat → Nat) (ST : Nat → Int32) (p : Nat) : Prop := ∃ w x, w < 4 ∧ gb_nb n p w = some x ∧ kb x = 1 ∧ ST (ar x) = 0
theorem w_isBesideFallen {p : Nat} {ST : Nat → Int32} (hR : 2 ≤ R.frames ∧ 42 ≤ R.locals) (hr : xl_R D h n lf g aK c f A O S kb) (hW : xt_W n (fun q => nI (kb q)) c ar o s A O S) (hST : h (lf + 6) = some (.inl (D.1 102, n * n, .inl ST))) (hS2 : ∀ a, a < c → ST a = 0 ∨ ST a = 1) (hp : p < n * n) (w : Nat) (hw : w ≤ 4) (hno : ∀ v x, v < w → gb_nb n p v = some x → ¬ (kb x = 1 ∧ ST (ar x) = 0)) :
    xa_X l D H0 M_Life_isBesideFallenString R (xa_Zr D H0 0 0 (fun v h' sz' => ((v = some (.int 1) ∧ gl_bf n kb ar ST p) ∨ (v = some (.int 0) ∧ ¬ gl_bf n kb ar ST p)) ∧ h' = h ∧ sz' = sz)) 0 0 h sz 2 [(0, .ref lf), (1, .int (nI p)), (2, .int (nI w))] [] := by
  obtain ⟨r1, r2, r3, r4, r5, r6, r7, r8, hN, hf, hb⟩ := id hr
  obtain ⟨w1, w2, w3, w4⟩ := id hW
  refine xa_iload_n d_Life_isBesideFallenString_2 rfl ?_
  refine xa_iconst (v := nI 4) d_Life_isBesideFallenString_3 rfl ?_
  refine xa_icmp_geN (tgt := 48) d_Life_isBesideFallenString_4 (by decide) (by omega) (by omega) (fun hb4 => ?_) (fun hb4 => ?_)
  ·
    refine xa_iconst (v := nI 0) d_Life_isBesideFallenString_48 rfl ?_
    exact xa_zreturn (v := nI 0) d_Life_isBesideFallenString_49 rfl (by decide) (by omega) (by omega) ⟨Or.inr ⟨rfl, fun ⟨v, x, h1, h2, h3⟩ => hno v x (by omega) h2 h3⟩, rfl, rfl⟩
  ·
    refine xa_aload_n d_Life_isBesideFallenString_7 rfl ?_
    refine xa_getf f_Life_9 d_Life_isBesideFallenString_8 (by assumption) (by rfl) ?_
    refine xa_iload_n d_Life_isBesideFallenString_11 rfl ?_
    refine xa_iload_n d_Life_isBesideFallenString_12 rfl ?_
    refine xa_callVr (As := [.int (nI p), .int (nI w)]) (st := []) d_Life_isBesideFallenString_13 k_Life_76 r7 (c_Grid_neighbour r7 r8 hN hp hb4) rfl rfl (Nat.le_of_ble_eq_true rfl) ⟨by have := hR.1; show 0 + 1 ≤ _; omega, by have := hR.2; show 8 + (3 + 11) + 0 ≤ _; omega⟩ (by omega) (by omega) ?_
    have again : (∀ x, gb_nb n p w = some x → ¬ (kb x = 1 ∧ ST (ar x) = 0)) → ∀ z : Int32, xa_X l D H0 M_Life_isBesideFallenString R (xa_Zr D H0 0 0 (fun v h' sz' => ((v = some (.int 1) ∧ gl_bf n kb ar ST p) ∨ (v = some (.int 0) ∧ ¬ gl_bf n kb ar ST p)) ∧ h' = h ∧ sz' = sz)) 0 0 h sz 42 [(0, .ref lf), (1, .int (nI p)), (2, .int (nI w)), (3, .int z)] [] := by
      intro hs z
      refine xa_iincN d_Life_isBesideFallenString_42 rfl rfl rfl ?_
      refine xa_goto (tgt := 2) d_Life_isBesideFallenString_45 (by decide) ?_
      refine xa_ls ?_ (w_isBesideFallen hR hr hW hST hS2 hp (w + 1) (by omega) (fun v x h0 h1 => ?_))
      · exact ⟨rfl, rfl, rfl, trivial⟩
      · by_cases hv : v = w
        · subst hv; exact hs x h1
        · exact hno v x (by omega) h1
    have hv := hf p w hp hb4
    cases hnb : gb_nb n p w with
    | none =>
      rw [hnb] at hv
      refine xa_int (show f (4 * p + w) = -1 from hv) ?_
      refine xa_istore_n d_Life_isBesideFallenString_16 rfl rfl ?_
      refine xa_iload_n d_Life_isBesideFallenString_17 rfl ?_
      refine xa_iconst (v := -1) d_Life_isBesideFallenString_18 rfl ?_
      refine xa_icmp_eq (tgt := 42) d_Life_isBesideFallenString_19 (by decide) (fun hz => ?_) (fun hz => ?_)
      · refine xa_ls ?_ (again (fun x hx => by rw [hnb] at hx; cases hx) (-1))
        exact ⟨rfl, rfl, rfl, rfl, trivial⟩
      · exact absurd rfl hz
    | some y =>
      rw [hnb] at hv
      have hy := gb_nb_lt hp hb4 hnb
      have hby := hb y hy
      refine xa_int (show f (4 * p + w) = nI y from hv) ?_
      refine xa_istore_n d_Life_isBesideFallenString_16 rfl rfl ?_
      refine xa_iload_n d_Life_isBesideFallenString_17 rfl ?_
      refine xa_iconst (v := -1) d_Life_isBesideFallenString_18 rfl ?_
      refine xa_icmp_eq (tgt := 42) d_Life_isBesideFallenString_19 (by decide) (fun hz => ?_) (fun hz => ?_)
      · exact absurd hz (gb_m1 (by omega))
      ·
        refine xa_aload_n d_Life_isBesideFallenString_22 rfl ?_
        refine xa_getf f_Life_25 d_Life_isBesideFallenString_23 (by assumption) (by rfl) ?_
        refine xa_iload_n d_Life_isBesideFallenString_26 rfl ?_
        refine xa_ialdE d_Life_isBesideFallenString_27 r2 rfl hy (by omega) rfl ?_
        refine xa_iconst (v := nI 1) d_Life_isBesideFallenString_28 rfl ?_
        refine xa_icmp_neN (tgt := 42) d_Life_isBesideFallenString_29 (by decide) (by omega) (by omega) (fun hz2 => ?_) (fun hz2 => ?_)
        · refine xa_ls ?_ (again (fun x hx => by rw [hnb] at hx; cases hx; exact fun z => hz2 z.1) (nI y))
          exact ⟨rfl, rfl, rfl, rfl, trivial⟩
        ·
          refine xa_aload_n d_Life_isBesideFallenString_32 rfl ?_
          refine xa_iload_n d_Life_isBesideFallenString_33 rfl ?_
          refine xa_callVr (As := [.int (nI y)]) (st := []) d_Life_isBesideFallenString_34 k_Life_107 r1 (c_Life_standsAt hr hW hST hy rfl (hS2 _ (w1.1 y hy))) rfl rfl (Nat.le_of_ble_eq_true rfl) ⟨hR.1, by have := hR.2; show 8 + (2 + 11) + 21 ≤ _; omega⟩ (by omega) (by omega) ?_
          refine xa_if_ne (tgt := 42) d_Life_isBesideFallenString_37 (by decide) (fun hz3 => ?_) (fun hz3 => ?_)
          · refine xa_ls ?_ (again (fun x hx => by rw [hnb] at hx; cases hx; exact fun z => hz3 z.2) (nI y))
            exact ⟨rfl, rfl, rfl, rfl, trivial⟩
          ·
            refine xa_iconst (v := nI 1) d_Life_isBesideFallenString_40 rfl ?_
            exact xa_zreturn (v := nI 1) d_Life_isBesideFallenString_41 rfl (by decide) (by omega) (by omega) ⟨Or.inl ⟨rfl, w, y, by omega, hnb, hz2, hz3⟩, rfl, rfl⟩
termination_by 4 - w
decreasing_by omega
theorem c_Life_isBesideFallen {p : Nat} {ST : Nat → Int32} (hr : xl_R D h n lf g aK c f A O S kb) (hW : xt_W n (fun q => nI (kb q)) c ar o s A O S) (hST : h (lf + 6) = some (.inl (D.1 102, n * n, .inl ST))) (hS2 : ∀ a, a < c → ST a = 0 ∨ ST a = 1) (hp : p < n * n) :
    xa_M l D H0 M_Life_isBesideFallenString 2 42 0 0 [.ref lf, .int (nI p)] h sz (fun v h' sz' => ((v = some (.int 1) ∧ gl_bf n kb ar ST p) ∨ (v = some (.int 0) ∧ ¬ gl_bf n kb ar ST p)) ∧ h' = h ∧ sz' = sz) := by
  refine xa_enter (by decide) rfl rfl ?_
  refine xa_iconst (v := nI 0) d_Life_isBesideFallenString_0 rfl ?_
  refine xa_istore_n d_Life_isBesideFallenString_1 rfl rfl ?_
  refine xa_ls ?_ (w_isBesideFallen ⟨by decide, by decide⟩ hr hW hST hS2 hp 0 (by omega) (fun v x hv => absurd hv (Nat.not_lt_zero _)))
  exact ⟨rfl, rfl, rfl, trivial⟩
end LF
end
section
/-! Life: noteStringsOf, countRegionsOfStrings, letStringsFall, letRegionsFall. -/
def xj_h (D : va_G) (h : xa_H) (lf N : Nat) (ST BT RG : Nat → Int32) : xa_H := xa_u (xa_u (xa_u h (lf + 6) (.inl (D.1 102, N, .inl ST))) (lf + 7) (.inl (D.1 100, 4 * N, .inl BT))) (lf + 8) (.inl (D.1 100, N, .inl RG))
section JH
variable {D : va_G} {h : xa_H} {lf N : Nat} {ST BT RG : Nat → Int32}
theorem xj_hn {q : Nat} (h1 : q < lf + 6 ∨ lf + 9 ≤ q) : xj_h D h lf N ST BT RG q = h q := xa_u_ne (xa_u_ne (xa_u_ne rfl (by omega)) (by omega)) (by omega)
theorem xj_6 : xj_h D h lf N ST BT RG (lf + 6) = some (.inl (D.1 102, N, .inl ST)) := xa_u_ne (xa_u_ne (xa_u_eq _ _ _) (by omega)) (by omega)
theorem xj_7 : xj_h D h lf N ST BT RG (lf + 7) = some (.inl (D.1 100, 4 * N, .inl BT)) := xa_u_ne (xa_u_eq _ _ _) (by omega)
theorem xj_8 : xj_h D h lf N ST BT RG (lf + 8) = some (.inl (D.1 100, N, .inl RG)) := xa_u_eq _ _ _
theorem xj_u6 (X : Nat → Int32) : xa_u (xj_h D h lf N ST BT RG) (lf + 6) (.inl (D.1 102, N, .inl X)) = xj_h D h lf N X BT RG := by
  unfold xj_h
  rw [xa_sw _ (show lf + 8 ≠ lf + 6 by omega), xa_uc _ (show lf + 6 ≠ lf + 7 by omega)]
theorem xj_u7 (X : Nat → Int32) : xa_u (xj_h D h lf N ST BT RG) (lf + 7) (.inl (D.1 100, 4 * N, .inl X)) = xj_h D h lf N ST X RG := xa_uc _ (by omega) _ _ _
theorem xj_u8 (X : Nat → Int32) : xa_u (xj_h D h lf N ST BT RG) (lf + 8) (.inl (D.1 100, N, .inl X)) = xj_h D h lf N ST BT X := xa_uu _ _ _ _
theorem xj_R {n g aK c : Nat} {f A O S : Nat → Int32} {kb : Nat → Nat} (hr : xl_R D h n lf g aK c f A O S kb) (hlt : g + 1 < lf) : xl_R D (xj_h D h lf N ST BT RG) n lf g aK c f A O S kb := hr.frame (fun q hq => xj_hn (by omega))
theorem xj_0 (h6 : h (lf + 6) = some (.inl (D.1 102, N, .inl ST))) (h7 : h (lf + 7) = some (.inl (D.1 100, 4 * N, .inl BT))) (h8 : h (lf + 8) = some (.inl (D.1 100, N, .inl RG))) : xj_h D h lf N ST BT RG = h := by
  unfold xj_h
  rw [xa_us _ h6, xa_us _ h7, xa_us _ h8]
end JH
/-- the ways of a region up to w are noted -/
def gl_N (n c : Nat) (kb ar : Nat → Nat) (p r w : Nat) (BT : Nat → Int32) : Prop :=
  (∀ v, v < w → BT (4 * r + v) = -1 ∨ ∃ g y, g < c ∧ BT (4 * r + v) = nI g ∧ kb p = 0 ∧ gl_ba n ar r g ∧ y < n * n ∧ ar y = g ∧ kb y = 1) ∧ (∀ v v', v < w → v' < w → BT (4 * r + v) = BT (4 * r + v') → BT (4 * r + v) ≠ -1 → v = v') ∧ (kb p = 0 → ∀ v y, v < w → gb_nb n p v = some y → kb y = 1 → gl_ba n ar r (ar y) → ∃ v', v' < w ∧ BT (4 * r + v') = nI (ar y))
/-- a region's strings are noted -/
def gl_BT (n c : Nat) (kb ar o s : Nat → Nat) (BT : Nat → Int32) (r : Nat) : Prop :=
  (∀ v, v < 4 → BT (4 * r + v) = -1 ∨ ∃ g, g < c ∧ BT (4 * r + v) = nI g ∧ kb (o (s r)) = 0 ∧ kb (o (s g)) = 1 ∧ gl_ba n ar r g) ∧ (∀ v v', v < 4 → v' < 4 → BT (4 * r + v) = BT (4 * r + v') → BT (4 * r + v) ≠ -1 → v = v') ∧ (∀ g, g < c → kb (o (s r)) = 0 → kb (o (s g)) = 1 → gl_ba n ar r g → ∃ v, v < 4 ∧ BT (4 * r + v) = nI g)
theorem gl_kb {n c : Nat} {kb ar o s : Nat → Nat} (w1 : gs_W n (fun q => nI (kb q)) c ar o s) (hb : ∀ q, q < n * n → kb q ≤ 1) {x : Nat} (hx : x < n * n) : kb x = kb (o (s (ar x))) := by
  obtain ⟨a1, a2, a3, a4, a5⟩ := gs_W_area w1 (w1.1 x hx)
  exact gb_b_eq a3 (fun q hq => by have := hb q hq; omega) ((w1.2.1 _ _ a3 hx).mp a4)
theorem gl_N_4 {n c : Nat} {kb ar o s : Nat → Nat} {r : Nat} {BT : Nat → Int32} (w1 : gs_W n (fun q => nI (kb q)) c ar o s) (hb : ∀ q, q < n * n → kb q ≤ 1) (hr : r < c) (h : gl_N n c kb ar (o (s r)) r 4 BT) : gl_BT n c kb ar o s BT r := by
  obtain ⟨a1, a2, a3, a4, a5⟩ := gs_W_area w1 hr
  refine ⟨fun v hv => ?_, h.2.1, fun g hg h0 h1 hba => ?_⟩
  · rcases h.1 v hv with e | ⟨g, y, e1, e2, e3, e4, e5, e6, e7⟩
    · exact Or.inl e
    · exact Or.inr ⟨g, e1, e2, e3, by rw [← e6, ← gl_kb w1 hb e5]; exact e7, e4⟩
  · obtain ⟨v, y, hv, hy, hay⟩ := hba _ a3 a4
    have hyN := gb_nb_lt a3 hv hy
    have := h.2.2 h0 v y hv hy (by rw [gl_kb w1 hb hyN, hay]; exact h1) (by rw [hay]; exact hba)
    rw [hay] at this
    exact this
theorem gl_N_no {n c : Nat} {kb ar : Nat → Nat} {p r w : Nat} {BT : Nat → Int32} (hw : w < 4) (h : gl_N n c kb ar p r w BT) (hno : kb p = 0 → ∀ y, gb_nb n p w = some y → kb y = 1 → gl_ba n ar r (ar y) → ∃ v', v' < w ∧ BT (4 * r + v') = nI (ar y)) : gl_N n c kb ar p r (w + 1) (upd BT (4 * r + w) (-1)) := by
  have u1 : ∀ v, v < w → upd BT (4 * r + w) (-1) (4 * r + v) = BT (4 * r + v) := fun v hv => if_neg (by omega)
  have u2 : upd BT (4 * r + w) (-1) (4 * r + w) = -1 := if_pos rfl
  refine ⟨fun v hv => ?_, fun v v' hv hv' he hne => ?_, fun h0 v y hv hy hk hba => ?_⟩
  · by_cases hvw : v = w
    · rw [hvw, u2]; exact Or.inl rfl
    · rw [u1 v (by omega)]; exact h.1 v (by omega)
  · by_cases hvw : v = w
    · rw [hvw, u2] at hne; exact absurd rfl hne
    · by_cases hvw' : v' = w
      · rw [he, hvw', u2] at hne; exact absurd rfl hne
      · rw [u1 v (by omega)] at he hne
        rw [u1 v' (by omega)] at he
        exact h.2.1 v v' (by omega) (by omega) he hne
  · have : ∃ v', v' < w ∧ BT (4 * r + v') = nI (ar y) := by
      by_cases hvw : v = w
      · rw [hvw] at hy; exact hno h0 y hy hk hba
      · exact h.2.2 h0 v y (by omega) hy hk hba
    obtain ⟨v', hv', e⟩ := this
    exact ⟨v', by omega, by rw [u1 v' hv']; exact e⟩
theorem gl_N_yes {n c : Nat} {kb ar : Nat → Nat} {p r w y : Nat} {BT : Nat → Int32} (hw : w < 4) (h : gl_N n c kb ar p r w BT) (hg : ar y < c) (hy : gb_nb n p w = some y) (hyN : y < n * n) (hk : kb y = 1) (h0 : kb p = 0) (hba : gl_ba n ar r (ar y)) (hne : nI (ar y) ≠ -1) (hno : ∀ v, v < w → BT (4 * r + v) ≠ nI (ar y)) : gl_N n c kb ar p r (w + 1) (upd BT (4 * r + w) (nI (ar y))) := by
  have u1 : ∀ v, v < w → upd BT (4 * r + w) (nI (ar y)) (4 * r + v) = BT (4 * r + v) := fun v hv => if_neg (by omega)
  have u2 : upd BT (4 * r + w) (nI (ar y)) (4 * r + w) = nI (ar y) := if_pos rfl
  refine ⟨fun v hv => ?_, fun v v' hv hv' he hne => ?_, fun h0 v y' hv hy' hk' hba' => ?_⟩
  · by_cases hvw : v = w
    · rw [hvw, u2]; exact Or.inr ⟨ar y, y, hg, rfl, h0, hba, hyN, rfl, hk⟩
    · rw [u1 v (by omega)]; exact h.1 v (by omega)
  · by_cases hvw : v = w
    · by_cases hvw' : v' = w
      · omega
      · rw [hvw, u2, u1 v' (by omega)] at he
        exact absurd he.symm (hno v' (by omega))
    · by_cases hvw' : v' = w
      · rw [hvw', u2, u1 v (by omega)] at he
        exact absurd he (hno v (by omega))
      · rw [u1 v (by omega)] at he hne
        rw [u1 v' (by omega)] at he
        exact h.2.1 v v' (by omega) (by omega) he hne
  · by_cases hvw : v = w
    · rw [hvw, hy] at hy'
      cases hy'
      exact ⟨w, by omega, u2⟩
    · obtain ⟨v', hv', e⟩ := h.2.2 h0 v y' (by omega) hy' hk' hba'
      exact ⟨v', by omega, by rw [u1 v' hv']; exact e⟩
section LF2
variable {l : Launch} {D : va_G} {H0 : Heap} {h : xa_H} {sz : Nat} {R : Room} {n lf g aK c : Nat} {f A O S : Nat → Int32} {kb ar o s : Nat → Nat}
theorem w_noteStrings {r : Nat} {ST RG BT0 : Nat → Int32} (hR : 3 ≤ R.frames ∧ 69 ≤ R.locals) (hr : xl_R D h n lf g aK c f A O S kb) (hlt : g + 1 < lf) (hW : xt_W n (fun q => nI (kb q)) c ar o s A O S) (hrc : r < c) (w : Nat) (hw : w ≤ 4) (BT : Nat → Int32) (hB : gl_N n c kb ar (o (s r)) r w BT) (hB0 : ∀ i, i < 4 * r → BT i = BT0 i) :
    xa_X l D H0 M_Life_noteStringsOf R (xa_Zr D H0 0 0 (fun v h' sz' => ∃ BT, gl_BT n c kb ar o s BT r ∧ (∀ i, i < 4 * r → BT i = BT0 i) ∧ v = none ∧ h' = xj_h D h lf (n * n) ST BT RG ∧ sz' = sz)) 0 0 (xj_h D h lf (n * n) ST BT RG) sz 6 [(0, .ref lf), (1, .int (nI r)), (2, .int (nI (4 * r))), (3, .int (nI w))] [] := by
  have hr' := xj_R (N := n * n) (ST := ST) (BT := BT) (RG := RG) hr hlt
  obtain ⟨r1, r2, r3, r4, r5, r6, r7, r8, hN, hf, hb⟩ := id hr'
  obtain ⟨w1, w2, w3, w4⟩ := id hW
  have hcN : c ≤ n * n := w1.2.2.2.2.2.2.2.2.2.2
  obtain ⟨a1, a2, a3, a4, a5⟩ := gs_W_area w1 hrc
  refine xa_iload_n d_Life_noteStringsOf_6 rfl ?_
  refine xa_iconst (v := nI 4) d_Life_noteStringsOf_7 rfl ?_
  refine xa_icmp_geN (tgt := 111) d_Life_noteStringsOf_8 (by decide) (by omega) (by omega) (fun hb4 => ?_) (fun hb4 => ?_)
  · have hw4 : w = 4 := by omega
    subst hw4
    exact xa_return d_Life_noteStringsOf_111 rfl (by omega) (by omega) ⟨BT, gl_N_4 w1 hb hrc hB, hB0, rfl, rfl, rfl⟩
  ·
    refine xa_aload_n d_Life_noteStringsOf_11 rfl ?_
    refine xa_getf f_Life_9 d_Life_noteStringsOf_12 (by assumption) (by rfl) ?_
    refine xa_aload_n d_Life_noteStringsOf_15 rfl ?_
    refine xa_getf f_Life_33 d_Life_noteStringsOf_16 (by assumption) (by rfl) ?_
    refine xa_iload_n d_Life_noteStringsOf_19 rfl ?_
    refine xa_callVr (As := [.int (nI r)]) (st := [.ref g]) d_Life_noteStringsOf_20 k_Life_73 r3 (c_Areas_leastOf (o := o) (s := s) r3 r5 r6 hN (by omega) (w4 _ (by omega)) a1 (w3 _ a1)) rfl rfl (Nat.le_of_ble_eq_true rfl) ⟨by have := hR.1; show 0 + 1 ≤ _; omega, by have := hR.2; show 8 + (2 + 11) + 0 ≤ _; omega⟩ (by omega) (by omega) ?_
    refine xa_iload_n d_Life_noteStringsOf_23 rfl ?_
    refine xa_callVr (As := [.int (nI (o (s r))), .int (nI w)]) (st := []) d_Life_noteStringsOf_24 k_Life_76 r7 (c_Grid_neighbour r7 r8 hN a3 hb4) rfl rfl (Nat.le_of_ble_eq_true rfl) ⟨by have := hR.1; show 0 + 1 ≤ _; omega, by have := hR.2; show 8 + (3 + 11) + 0 ≤ _; omega⟩ (by omega) (by omega) ?_
    have hv := hf (o (s r)) w a3 hb4
    have again : ∀ (BT' : Nat → Int32), gl_N n c kb ar (o (s r)) r (w + 1) BT' → (∀ i, i < 4 * r → BT' i = BT0 i) → ∀ lsx, xa_lk lsx 0 = some (.ref lf) → xa_lk lsx 1 = some (.int (nI r)) → xa_lk lsx 2 = some (.int (nI (4 * r))) → xa_lk lsx 3 = some (.int (nI w)) → xa_X l D H0 M_Life_noteStringsOf R (xa_Zr D H0 0 0 (fun v h' sz' => ∃ BT, gl_BT n c kb ar o s BT r ∧ (∀ i, i < 4 * r → BT i = BT0 i) ∧ v = none ∧ h' = xj_h D h lf (n * n) ST BT RG ∧ sz' = sz)) 0 0 (xj_h D h lf (n * n) ST BT' RG) sz 105 lsx [] := by
      intro BT' hB' hB0' lsx l0 l1 l2 l3
      refine xa_ls (ls' := [(0, .ref lf), (1, .int (nI r)), (2, .int (nI (4 * r))), (3, .int (nI w))]) ⟨l0, l1, l2, l3, trivial⟩ ?_
      refine xa_iincN d_Life_noteStringsOf_105 rfl rfl rfl ?_
      refine xa_goto (tgt := 6) d_Life_noteStringsOf_108 (by decide) ?_
      exact w_noteStrings hR hr hlt hW hrc (w + 1) (by omega) BT' hB' hB0'
    have hB1 : ∀ i, i < 4 * r → upd BT (4 * r + w) (-1) i = BT0 i := fun i hi => by rw [← hB0 i hi]; exact if_neg (by omega)
    refine xa_istore d_Life_noteStringsOf_27 rfl rfl ?_
    refine xa_aload_n d_Life_noteStringsOf_29 rfl ?_
    refine xa_getf f_Life_41 d_Life_noteStringsOf_30 (by assumption) (by rfl) ?_
    refine xa_iload_n d_Life_noteStringsOf_33 rfl ?_
    refine xa_iload_n d_Life_noteStringsOf_34 rfl ?_
    refine xa_iaddN d_Life_noteStringsOf_35 ?_
    refine xa_iconst (v := -1) d_Life_noteStringsOf_36 rfl ?_
    refine xa_iastE d_Life_noteStringsOf_37 xj_7 rfl (by omega) (by omega) ?_
    refine xa_heap (xj_u7 _) ?_
    have hr2 := xj_R (N := n * n) (ST := ST) (BT := upd BT (4 * r + w) (-1)) (RG := RG) hr hlt
    obtain ⟨q1, q2, q3, q4, q5, q6, q7, q8, -⟩ := id hr2
    refine xa_aload_n d_Life_noteStringsOf_38 rfl ?_
    refine xa_iload_n d_Life_noteStringsOf_39 rfl ?_
    refine xa_callVr (As := [.int (nI r)]) (st := []) d_Life_noteStringsOf_40 k_Life_67 q1 (c_Life_kindOf hr2 hW hrc) rfl rfl (Nat.le_of_ble_eq_true rfl) ⟨by have := hR.1; show 1 + 1 ≤ _; omega, by have := hR.2; show 8 + (2 + 11) + 21 ≤ _; omega⟩ (by omega) (by omega) ?_
    have hkp := hb _ a3
    refine xa_if_neN (tgt := 105) d_Life_noteStringsOf_43 (by decide) (by omega) (fun hz => ?_) (fun hz => ?_)
    · exact again _ (gl_N_no hb4 hB (fun h0 => by omega)) hB1 _ rfl rfl rfl rfl
    · refine xa_iload d_Life_noteStringsOf_46 rfl ?_
      cases hnb : gb_nb n (o (s r)) w with
      | none =>
        rw [hnb] at hv
        refine xa_int (show f (4 * o (s r) + w) = -1 from hv) ?_
        refine xa_iconst (v := -1) d_Life_noteStringsOf_48 rfl ?_
        refine xa_icmp_eq (tgt := 105) d_Life_noteStringsOf_49 (by decide) (fun hz2 => ?_) (fun hz2 => ?_)
        · exact again _ (gl_N_no hb4 hB (fun _ y hy => by rw [hnb] at hy; cases hy)) hB1 _ rfl rfl rfl rfl
        · exact absurd rfl hz2
      | some y =>
        rw [hnb] at hv
        have hy := gb_nb_lt a3 hb4 hnb
        have hky := hb y hy
        have hay := w1.1 y hy
        refine xa_ls (ls' := [(0, .ref lf), (1, .int (nI r)), (2, .int (nI (4 * r))), (3, .int (nI w)), (4, .int (nI y))]) ⟨rfl, rfl, rfl, rfl, by rw [← (show f (4 * o (s r) + w) = nI y from hv)]; rfl, trivial⟩ ?_
        refine xa_int (show f (4 * o (s r) + w) = nI y from hv) ?_
        refine xa_iconst (v := -1) d_Life_noteStringsOf_48 rfl ?_
        refine xa_icmp_eq (tgt := 105) d_Life_noteStringsOf_49 (by decide) (fun hz2 => ?_) (fun hz2 => ?_)
        · exact absurd hz2 (gb_m1 (by omega))
        ·
          refine xa_aload_n d_Life_noteStringsOf_52 rfl ?_
          refine xa_getf f_Life_25 d_Life_noteStringsOf_53 (by assumption) (by rfl) ?_
          refine xa_iload d_Life_noteStringsOf_56 rfl ?_
          refine xa_ialdE d_Life_noteStringsOf_58 q2 rfl hy (by omega) rfl ?_
          refine xa_iconst (v := nI 1) d_Life_noteStringsOf_59 rfl ?_
          refine xa_icmp_neN (tgt := 105) d_Life_noteStringsOf_60 (by decide) (by omega) (by omega) (fun hz3 => ?_) (fun hz3 => ?_)
          · exact again _ (gl_N_no hb4 hB (fun _ y' hy' hk' => by rw [hnb] at hy'; cases hy'; exact absurd hk' hz3)) hB1 _ rfl rfl rfl rfl
          ·
            refine xa_aload_n d_Life_noteStringsOf_63 rfl ?_
            refine xa_getf f_Life_33 d_Life_noteStringsOf_64 (by assumption) (by rfl) ?_
            refine xa_iload d_Life_noteStringsOf_67 rfl ?_
            refine xa_callVr (As := [.int (nI y)]) (st := []) d_Life_noteStringsOf_69 k_Life_63 q3 (c_Areas_areaAt q3 q4 hN hy (w2 y hy)) rfl rfl (Nat.le_of_ble_eq_true rfl) ⟨by have := hR.1; show 0 + 1 ≤ _; omega, by have := hR.2; show 8 + (2 + 11) + 0 ≤ _; omega⟩ (by omega) (by omega) ?_
            refine xa_istore d_Life_noteStringsOf_72 rfl rfl ?_
            refine xa_aload_n d_Life_noteStringsOf_74 rfl ?_
            refine xa_iload d_Life_noteStringsOf_75 rfl ?_
            refine xa_iload_n d_Life_noteStringsOf_77 rfl ?_
            refine xa_iload_n d_Life_noteStringsOf_78 rfl ?_
            refine xa_callV (As := [.int (nI (ar y)), .int (nI (4 * r)), .int (nI w)]) (st := []) d_Life_noteStringsOf_79 k_Life_80 q1 (c_Life_isNoted (n := n) q1 xj_7 hN (by omega)) rfl rfl (Nat.le_of_ble_eq_true rfl) ⟨by have := hR.1; show 0 + 1 ≤ _; omega, by have := hR.2; show 8 + (5 + 11) + 0 ≤ _; omega⟩ (by omega) (by omega) (fun v h' sz' hq => ?_)
            obtain ⟨hv2, e2, e3⟩ := hq
            rw [e2, e3]
            have u1 : ∀ v, v < w → upd BT (4 * r + w) (-1) (4 * r + v) = BT (4 * r + v) := fun v hv => if_neg (by omega)
            rcases hv2 with ⟨hv2, v', hv', hnt⟩ | ⟨hv2, hnt⟩
            · rw [hv2]
              refine xa_int (y := nI 1) rfl ?_
              refine xa_if_neN (tgt := 105) d_Life_noteStringsOf_82 (by decide) (by omega) (fun hz4 => ?_) (fun hz4 => ?_)
              · exact again _ (gl_N_no hb4 hB (fun _ y' hy' hk' _ => by rw [hnb] at hy'; cases hy'; exact ⟨v', hv', by rw [← u1 v' hv']; exact hnt⟩)) hB1 _ rfl rfl rfl rfl
              · omega
            · rw [hv2]
              refine xa_int (y := nI 0) rfl ?_
              refine xa_if_neN (tgt := 105) d_Life_noteStringsOf_82 (by decide) (by omega) (fun hz4 => ?_) (fun hz4 => ?_)
              · omega
              ·
                refine xa_aload_n d_Life_noteStringsOf_85 rfl ?_
                refine xa_iload_n d_Life_noteStringsOf_86 rfl ?_
                refine xa_iload d_Life_noteStringsOf_87 rfl ?_
                refine xa_callV (As := [.int (nI r), .int (nI (ar y))]) (st := []) d_Life_noteStringsOf_89 k_Life_84 q1 (c_Life_belongs hr2 hW hrc hay) rfl rfl (Nat.le_of_ble_eq_true rfl) ⟨hR.1, hR.2⟩ (by omega) (by omega) (fun v h' sz' hq => ?_)
                obtain ⟨hv3, e2, e3⟩ := hq
                rw [e2, e3]
                rcases hv3 with ⟨hv3, hba⟩ | ⟨hv3, hba⟩
                · rw [hv3]
                  refine xa_int (y := nI 1) rfl ?_
                  refine xa_if_eqN (tgt := 105) d_Life_noteStringsOf_92 (by decide) (by omega) (fun hz5 => ?_) (fun hz5 => ?_)
                  · omega
                  ·
                    refine xa_aload_n d_Life_noteStringsOf_95 rfl ?_
                    refine xa_getf f_Life_41 d_Life_noteStringsOf_96 (by assumption) (by rfl) ?_
                    refine xa_iload_n d_Life_noteStringsOf_99 rfl ?_
                    refine xa_iload_n d_Life_noteStringsOf_100 rfl ?_
                    refine xa_iaddN d_Life_noteStringsOf_101 ?_
                    refine xa_iload d_Life_noteStringsOf_102 rfl ?_
                    refine xa_iastE d_Life_noteStringsOf_104 xj_7 rfl (by omega) (by omega) ?_
                    refine xa_heap (xj_u7 _) ?_
                    have huu : upd (upd BT (4 * r + w) (-1)) (4 * r + w) (nI (ar y)) = upd BT (4 * r + w) (nI (ar y)) := by
                      funext i
                      show (if i = 4 * r + w then _ else (if i = 4 * r + w then _ else _)) = (if i = 4 * r + w then _ else _)
                      split <;> rfl
                    rw [huu]
                    exact again _ (gl_N_yes hb4 hB hay hnb hy hz3 hz hba (gb_m1 (by omega)) (fun v hv => by rw [← u1 v hv]; exact hnt v hv)) (fun i hi => by rw [← hB0 i hi]; exact if_neg (by omega)) _ rfl rfl rfl rfl
                · rw [hv3]
                  refine xa_int (y := nI 0) rfl ?_
                  refine xa_if_eqN (tgt := 105) d_Life_noteStringsOf_92 (by decide) (by omega) (fun hz5 => ?_) (fun hz5 => ?_)
                  · exact again _ (gl_N_no hb4 hB (fun _ y' hy' hk' hb' => by rw [hnb] at hy'; cases hy'; exact absurd hb' hba)) hB1 _ rfl rfl rfl rfl
                  · omega
termination_by 4 - w
decreasing_by omega
theorem c_Life_noteStrings {r : Nat} {ST RG BT : Nat → Int32} (hr : xl_R D h n lf g aK c f A O S kb) (hlt : g + 1 < lf) (hW : xt_W n (fun q => nI (kb q)) c ar o s A O S) (hrc : r < c) :
    xa_M l D H0 M_Life_noteStringsOf 3 69 0 0 [.ref lf, .int (nI r)] (xj_h D h lf (n * n) ST BT RG) sz (fun v h' sz' => ∃ BT', gl_BT n c kb ar o s BT' r ∧ (∀ i, i < 4 * r → BT' i = BT i) ∧ v = none ∧ h' = xj_h D h lf (n * n) ST BT' RG ∧ sz' = sz) := by
  refine xa_enter (by decide) rfl rfl ?_
  refine xa_iconst (v := nI 4) d_Life_noteStringsOf_0 rfl ?_
  refine xa_iload_n d_Life_noteStringsOf_1 rfl ?_
  refine xa_imulN d_Life_noteStringsOf_2 ?_
  refine xa_istore_n d_Life_noteStringsOf_3 rfl rfl ?_
  refine xa_iconst (v := nI 0) d_Life_noteStringsOf_4 rfl ?_
  refine xa_istore_n d_Life_noteStringsOf_5 rfl rfl ?_
  refine xa_ls ?_ (w_noteStrings (BT0 := BT) ⟨by decide, by decide⟩ hr hlt hW hrc 0 (by omega) BT ⟨fun v hv => absurd hv (Nat.not_lt_zero _), fun v v' hv => absurd hv (Nat.not_lt_zero _), fun _ v y hv => absurd hv (Nat.not_lt_zero _)⟩ (fun _ _ => rfl))
  exact ⟨rfl, rfl, rfl, rfl, trivial⟩
end LF2
end
section
/-! Life: countRegionsOfStrings, letStringsFall, letRegionsFall. -/
/-- the entries up to i that count for string g -/
def gl_P (BT ST : Nat → Int32) (g : Nat) (j : Nat) : Prop := BT j = nI g ∧ ST (j / 4) = 1
/-- the string a falls -/
def gl_Fa (c : Nat) (kb o s : Nat → Nat) (BT ST : Nat → Int32) (a : Nat) : Prop := ST a = 1 ∧ kb (o (s a)) = 1 ∧ gb_cnt (gl_P BT ST a) (4 * c) < 2
/-- the region a falls -/
def gl_Fr (n : Nat) (kb ar : Nat → Nat) (ST : Nat → Int32) (p a : Nat) : Prop := ∃ q, q < p ∧ ar q = a ∧ kb q = 0 ∧ gl_bf n kb ar ST q
section LF3
variable {l : Launch} {D : va_G} {H0 : Heap} {h : xa_H} {sz : Nat} {R : Room} {n lf g aK c : Nat} {f A O S : Nat → Int32} {kb ar o s : Nat → Nat}
theorem w_countRegions {ST BT : Nat → Int32} (hR : 1 ≤ R.frames) (hr : xl_R D h n lf g aK c f A O S kb) (hlt : g + 1 < lf) (hcN : c ≤ n * n) (hBT : ∀ i, i < 4 * c → BT i = -1 ∨ ∃ g, g < c ∧ BT i = nI g) (hS2 : ∀ a, a < c → ST a = 0 ∨ ST a = 1) (i : Nat) (hi : i ≤ 4 * c) (RG : Nat → Int32) (hRG : ∀ g, g < c → RG g = nI (gb_cnt (gl_P BT ST g) i)) :
    xa_X l D H0 M_Life_countRegionsOfStrings R (xa_Zr D H0 0 0 (fun v h' sz' => ∃ RG, (∀ g, g < c → RG g = nI (gb_cnt (gl_P BT ST g) (4 * c))) ∧ v = none ∧ h' = xj_h D h lf (n * n) ST BT RG ∧ sz' = sz)) 0 0 (xj_h D h lf (n * n) ST BT RG) sz 10 [(0, .ref lf), (1, .int (nI i))] [] := by
  have hr' := xj_R (N := n * n) (ST := ST) (BT := BT) (RG := RG) hr hlt
  obtain ⟨r1, r2, r3, r4, r5, r6, r7, r8, hN, hf, hb⟩ := id hr'
  refine xa_iload_n d_Life_countRegionsOfStrings_10 rfl ?_
  refine xa_iconst (v := nI 4) d_Life_countRegionsOfStrings_11 rfl ?_
  refine xa_aload_n d_Life_countRegionsOfStrings_12 rfl ?_
  refine xa_getf f_Life_33 d_Life_countRegionsOfStrings_13 (by assumption) (by rfl) ?_
  refine xa_getf f_Life_51 d_Life_countRegionsOfStrings_16 (by assumption) (by rfl) ?_
  refine xa_imulN d_Life_countRegionsOfStrings_19 ?_
  refine xa_icmp_geN (tgt := 65) d_Life_countRegionsOfStrings_20 (by decide) (by omega) (by omega) (fun hb4 => ?_) (fun hb4 => ?_)
  · have hie : i = 4 * c := by omega
    subst hie
    exact xa_return d_Life_countRegionsOfStrings_65 rfl (by omega) (by omega) ⟨RG, hRG, rfl, rfl, rfl⟩
  · have hi4 : i / 4 < c := by omega
    have again : ∀ RG : Nat → Int32, (∀ g, g < c → RG g = nI (gb_cnt (gl_P BT ST g) (i + 1))) → xa_X l D H0 M_Life_countRegionsOfStrings R (xa_Zr D H0 0 0 (fun v h' sz' => ∃ RG, (∀ g, g < c → RG g = nI (gb_cnt (gl_P BT ST g) (4 * c))) ∧ v = none ∧ h' = xj_h D h lf (n * n) ST BT RG ∧ sz' = sz)) 0 0 (xj_h D h lf (n * n) ST BT RG) sz 59 [(0, .ref lf), (1, .int (nI i))] [] := by
      intro RG hRG
      refine xa_iincN d_Life_countRegionsOfStrings_59 rfl rfl rfl ?_
      refine xa_goto (tgt := 10) d_Life_countRegionsOfStrings_62 (by decide) ?_
      refine xa_ls ?_ (w_countRegions hR hr hlt hcN hBT hS2 (i + 1) (by omega) RG hRG)
      exact ⟨rfl, rfl, trivial⟩
    have same : (∀ g, g < c → ¬ gl_P BT ST g i) → ∀ g, g < c → RG g = nI (gb_cnt (gl_P BT ST g) (i + 1)) := fun hno g hg => by rw [gb_cnt_n (hno g hg)]; exact hRG g hg
    refine xa_aload_n d_Life_countRegionsOfStrings_23 rfl ?_
    refine xa_getf f_Life_41 d_Life_countRegionsOfStrings_24 (by assumption) (by rfl) ?_
    refine xa_iload_n d_Life_countRegionsOfStrings_27 rfl ?_
    refine xa_ialdE d_Life_countRegionsOfStrings_28 xj_7 rfl (by omega) (by omega) rfl ?_
    refine xa_iconst (v := -1) d_Life_countRegionsOfStrings_29 rfl ?_
    refine xa_icmp_eq (tgt := 59) d_Life_countRegionsOfStrings_30 (by decide) (fun hz => ?_) (fun hz => ?_)
    · refine again RG (same (fun g hg hp => ?_))
      have hp1 := hp.1
      rw [hz] at hp1
      exact gb_m1 (by omega) hp1.symm
    ·
      refine xa_aload_n d_Life_countRegionsOfStrings_33 rfl ?_
      refine xa_getf f_Life_37 d_Life_countRegionsOfStrings_34 (by assumption) (by rfl) ?_
      refine xa_iload_n d_Life_countRegionsOfStrings_37 rfl ?_
      refine xa_iconst (v := nI 4) d_Life_countRegionsOfStrings_38 rfl ?_
      refine xa_idivN d_Life_countRegionsOfStrings_39 (by omega) (by omega) (by omega) ?_
      refine xa_zaldE d_Life_countRegionsOfStrings_40 xj_6 rfl (show i / 4 < n * n by omega) (by omega) rfl ?_
      refine xa_if_eq (tgt := 59) d_Life_countRegionsOfStrings_41 (by decide) (fun hz2 => ?_) (fun hz2 => ?_)
      · refine again RG (same (fun g hg hp => ?_))
        have hp2 := hp.2
        rw [hz2] at hp2
        exact absurd hp2 (by decide)
      · obtain ⟨gg, hgg, hBg⟩ := (hBT i hb4).resolve_left hz
        have hle := gb_cnt_le (P := gl_P BT ST gg) i
        refine xa_aload_n d_Life_countRegionsOfStrings_44 rfl ?_
        refine xa_getf f_Life_44 d_Life_countRegionsOfStrings_45 (by assumption) (by rfl) ?_
        refine xa_aload_n d_Life_countRegionsOfStrings_48 rfl ?_
        refine xa_getf f_Life_41 d_Life_countRegionsOfStrings_49 (by assumption) (by rfl) ?_
        refine xa_iload_n d_Life_countRegionsOfStrings_52 rfl ?_
        refine xa_ialdE d_Life_countRegionsOfStrings_53 xj_7 rfl (by omega) (by omega) hBg ?_
        refine xa_dup2 d_Life_countRegionsOfStrings_54 rfl rfl ?_
        refine xa_ialdE d_Life_countRegionsOfStrings_55 xj_8 rfl (show gg < n * n by omega) (by omega) (hRG gg hgg) ?_
        refine xa_iconst (v := nI 1) d_Life_countRegionsOfStrings_56 rfl ?_
        refine xa_iaddN d_Life_countRegionsOfStrings_57 ?_
        refine xa_iastE d_Life_countRegionsOfStrings_58 xj_8 rfl (show gg < n * n by omega) (by omega) ?_
        refine xa_heap (xj_u8 _) ?_
        refine again _ (fun g hg => ?_)
        by_cases he : g = gg
        · subst he
          rw [gb_cnt_y ⟨hBg, (hS2 _ hi4).resolve_left hz2⟩]
          exact if_pos rfl
        · rw [gb_cnt_n (fun hp => he (by
            have hp1 := hp.1
            rw [hBg] at hp1
            exact ((nI_eq (by omega) (by omega)).mp hp1).symm)), ← hRG g hg]
          exact if_neg he
termination_by 4 * c - i
decreasing_by omega
theorem c_Life_countRegions {ST BT RG : Nat → Int32} (hr : xl_R D h n lf g aK c f A O S kb) (hlt : g + 1 < lf) (hcN : c ≤ n * n) (hBT : ∀ i, i < 4 * c → BT i = -1 ∨ ∃ g, g < c ∧ BT i = nI g) (hS2 : ∀ a, a < c → ST a = 0 ∨ ST a = 1) :
    xa_M l D H0 M_Life_countRegionsOfStrings 1 23 0 0 [.ref lf] (xj_h D h lf (n * n) ST BT RG) sz (fun v h' sz' => ∃ RG, (∀ g, g < c → RG g = nI (gb_cnt (gl_P BT ST g) (4 * c))) ∧ v = none ∧ h' = xj_h D h lf (n * n) ST BT RG ∧ sz' = sz) := by
  have hr' := xj_R (N := n * n) (ST := ST) (BT := BT) (RG := RG) hr hlt
  obtain ⟨r1, r2, r3, r4, r5, r6, r7, r8, hN, hf, hb⟩ := id hr'
  refine xa_enter (by decide) rfl rfl ?_
  refine xa_aload_n d_Life_countRegionsOfStrings_0 rfl ?_
  refine xa_getf f_Life_44 d_Life_countRegionsOfStrings_1 (by assumption) (by rfl) ?_
  refine xa_iconst (v := nI 0) d_Life_countRegionsOfStrings_4 rfl ?_
  refine xa_callSr (As := [.ref (lf + 8), .int (nI 0)]) (st := []) d_Life_countRegionsOfStrings_5 k_Life_97 (c_Arrays_fill xj_8 (by omega)) rfl rfl (Nat.le_of_ble_eq_true rfl) ⟨by decide, by decide⟩ (by decide) (by decide) ?_
  refine xa_heap (xj_u8 _) ?_
  refine xa_iconst (v := nI 0) d_Life_countRegionsOfStrings_8 rfl ?_
  refine xa_istore_n d_Life_countRegionsOfStrings_9 rfl rfl ?_
  refine xa_ls ?_ (w_countRegions (by decide) hr hlt hcN hBT hS2 0 (by omega) _ (fun g hg => rfl))
  exact ⟨rfl, rfl, trivial⟩
theorem w_letStrings {ST0 BT RG : Nat → Int32} (hR : 2 ≤ R.frames ∧ 42 ≤ R.locals) (hr : xl_R D h n lf g aK c f A O S kb) (hlt : g + 1 < lf) (hW : xt_W n (fun q => nI (kb q)) c ar o s A O S) (hS2 : ∀ a, a < c → ST0 a = 0 ∨ ST0 a = 1) (hRG : ∀ g, g < c → RG g = nI (gb_cnt (gl_P BT ST0 g) (4 * c))) (a : Nat) (ha : a ≤ c) (ST : Nat → Int32) (x : Nat) (h1 : ∀ a', a' < a → (gl_Fa c kb o s BT ST0 a' → ST a' = 0) ∧ (¬ gl_Fa c kb o s BT ST0 a' → ST a' = ST0 a')) (h2 : ∀ a', a ≤ a' → ST a' = ST0 a') (hx : (x = 1 ∧ ∃ a', a' < a ∧ gl_Fa c kb o s BT ST0 a') ∨ (x = 0 ∧ ∀ a', a' < a → ¬ gl_Fa c kb o s BT ST0 a')) :
    xa_X l D H0 M_Life_letStringsFall R (xa_Zr D H0 0 0 (fun v h' sz' => ∃ ST RG, (∀ a', a' < c → (gl_Fa c kb o s BT ST0 a' → ST a' = 0) ∧ (¬ gl_Fa c kb o s BT ST0 a' → ST a' = ST0 a')) ∧ ((v = some (.int 1) ∧ ∃ a', a' < c ∧ gl_Fa c kb o s BT ST0 a') ∨ (v = some (.int 0) ∧ ∀ a', a' < c → ¬ gl_Fa c kb o s BT ST0 a')) ∧ h' = xj_h D h lf (n * n) ST BT RG ∧ sz' = sz)) 0 0 (xj_h D h lf (n * n) ST BT RG) sz 8 [(0, .ref lf), (1, .int (nI x)), (2, .int (nI a))] [] := by
  have hr' := xj_R (N := n * n) (ST := ST) (BT := BT) (RG := RG) hr hlt
  obtain ⟨r1, r2, r3, r4, r5, r6, r7, r8, hN, hf, hb⟩ := id hr'
  obtain ⟨w1, w2, w3, w4⟩ := id hW
  have hcN : c ≤ n * n := w1.2.2.2.2.2.2.2.2.2.2
  refine xa_iload_n d_Life_letStringsFall_8 rfl ?_
  refine xa_aload_n d_Life_letStringsFall_9 rfl ?_
  refine xa_getf f_Life_33 d_Life_letStringsFall_10 (by assumption) (by rfl) ?_
  refine xa_getf f_Life_51 d_Life_letStringsFall_13 (by assumption) (by rfl) ?_
  refine xa_icmp_geN (tgt := 62) d_Life_letStringsFall_16 (by decide) (by omega) (by omega) (fun hb4 => ?_) (fun hb4 => ?_)
  · have hac : a = c := by omega
    subst hac
    refine xa_iload_n d_Life_letStringsFall_62 rfl ?_
    rcases hx with ⟨hx, hy⟩ | ⟨hx, hy⟩
    · subst hx
      exact xa_zreturn (v := nI 1) d_Life_letStringsFall_63 rfl (by decide) (by omega) (by omega) ⟨ST, RG, h1, Or.inl ⟨rfl, hy⟩, rfl, rfl⟩
    · subst hx
      exact xa_zreturn (v := nI 0) d_Life_letStringsFall_63 rfl (by decide) (by omega) (by omega) ⟨ST, RG, h1, Or.inr ⟨rfl, hy⟩, rfl, rfl⟩
  · have hle := gb_cnt_le (P := gl_P BT ST0 a) (4 * c)
    obtain ⟨a1, a2, a3, a4, a5⟩ := gs_W_area w1 hb4
    have hka := hb _ a3
    have no : ¬ gl_Fa c kb o s BT ST0 a → xa_X l D H0 M_Life_letStringsFall R (xa_Zr D H0 0 0 (fun v h' sz' => ∃ ST RG, (∀ a', a' < c → (gl_Fa c kb o s BT ST0 a' → ST a' = 0) ∧ (¬ gl_Fa c kb o s BT ST0 a' → ST a' = ST0 a')) ∧ ((v = some (.int 1) ∧ ∃ a', a' < c ∧ gl_Fa c kb o s BT ST0 a') ∨ (v = some (.int 0) ∧ ∀ a', a' < c → ¬ gl_Fa c kb o s BT ST0 a')) ∧ h' = xj_h D h lf (n * n) ST BT RG ∧ sz' = sz)) 0 0 (xj_h D h lf (n * n) ST BT RG) sz 56 [(0, .ref lf), (1, .int (nI x)), (2, .int (nI a))] [] := by
      intro hno
      refine xa_iincN d_Life_letStringsFall_56 rfl rfl rfl ?_
      refine xa_goto (tgt := 8) d_Life_letStringsFall_59 (by decide) ?_
      refine xa_ls ?_ (w_letStrings hR hr hlt hW hS2 hRG (a + 1) (by omega) ST x (fun a' ha' => ?_) (fun a' ha' => h2 a' (by omega)) ?_)
      · exact ⟨rfl, rfl, rfl, trivial⟩
      · by_cases he : a' = a
        · rw [he]; exact ⟨fun z => absurd z hno, fun _ => h2 a (Nat.le_refl a)⟩
        · exact h1 a' (by omega)
      · rcases hx with ⟨hx, a', ha', hy⟩ | ⟨hx, hy⟩
        · exact Or.inl ⟨hx, a', by omega, hy⟩
        · refine Or.inr ⟨hx, fun a' ha' => ?_⟩
          by_cases he : a' = a
          · rw [he]; exact hno
          · exact hy a' (by omega)
    refine xa_aload_n d_Life_letStringsFall_19 rfl ?_
    refine xa_getf f_Life_37 d_Life_letStringsFall_20 (by assumption) (by rfl) ?_
    refine xa_iload_n d_Life_letStringsFall_23 rfl ?_
    refine xa_zaldE d_Life_letStringsFall_24 xj_6 rfl (show a < n * n by omega) (by omega) (h2 a (Nat.le_refl a)) ?_
    refine xa_if_eq (tgt := 56) d_Life_letStringsFall_25 (by decide) (fun hz => ?_) (fun hz => ?_)
    · exact no (fun z => absurd (hz.symm.trans z.1) (by decide))
    ·
      refine xa_aload_n d_Life_letStringsFall_28 rfl ?_
      refine xa_iload_n d_Life_letStringsFall_29 rfl ?_
      refine xa_callVr (As := [.int (nI a)]) (st := []) d_Life_letStringsFall_30 k_Life_67 r1 (c_Life_kindOf hr' hW hb4) rfl rfl (Nat.le_of_ble_eq_true rfl) ⟨hR.1, by have := hR.2; show 8 + (2 + 11) + 21 ≤ _; omega⟩ (by omega) (by omega) ?_
      refine xa_iconst (v := nI 1) d_Life_letStringsFall_33 rfl ?_
      refine xa_icmp_neN (tgt := 56) d_Life_letStringsFall_34 (by decide) (by omega) (by omega) (fun hz2 => ?_) (fun hz2 => ?_)
      · exact no (fun z => hz2 z.2.1)
      ·
        refine xa_aload_n d_Life_letStringsFall_37 rfl ?_
        refine xa_getf f_Life_44 d_Life_letStringsFall_38 (by assumption) (by rfl) ?_
        refine xa_iload_n d_Life_letStringsFall_41 rfl ?_
        refine xa_ialdE d_Life_letStringsFall_42 xj_8 rfl (show a < n * n by omega) (by omega) (hRG a hb4) ?_
        refine xa_iconst (v := nI 2) d_Life_letStringsFall_43 rfl ?_
        refine xa_icmp_geN (tgt := 56) d_Life_letStringsFall_44 (by decide) (by omega) (by omega) (fun hz3 => ?_) (fun hz3 => ?_)
        · exact no (fun z => by have := z.2.2; omega)
        · have hfa : gl_Fa c kb o s BT ST0 a := ⟨(hS2 a hb4).resolve_left hz, hz2, hz3⟩
          refine xa_aload_n d_Life_letStringsFall_47 rfl ?_
          refine xa_getf f_Life_37 d_Life_letStringsFall_48 (by assumption) (by rfl) ?_
          refine xa_iload_n d_Life_letStringsFall_51 rfl ?_
          refine xa_iconst (v := nI 0) d_Life_letStringsFall_52 rfl ?_
          refine xa_zast d_Life_letStringsFall_53 xj_6 (show a < n * n by omega) rfl (by omega) ?_
          refine xa_heap (xj_u6 _) ?_
          refine xa_iconst (v := nI 1) d_Life_letStringsFall_54 rfl ?_
          refine xa_istore_n d_Life_letStringsFall_55 rfl rfl ?_
          refine xa_iincN d_Life_letStringsFall_56 rfl rfl rfl ?_
          refine xa_goto (tgt := 8) d_Life_letStringsFall_59 (by decide) ?_
          refine xa_ls ?_ (w_letStrings hR hr hlt hW hS2 hRG (a + 1) (by omega) _ 1 (fun a' ha' => ?_) (fun a' ha' => ?_) (Or.inl ⟨rfl, a, by omega, hfa⟩))
          · exact ⟨rfl, rfl, rfl, trivial⟩
          · by_cases he : a' = a
            · rw [he]; exact ⟨fun _ => if_pos rfl, fun z => absurd hfa z⟩
            · have hu : upd ST a (vp_nar .boolean (nI 0)) a' = ST a' := if_neg he
              rw [hu]
              exact h1 a' (by omega)
          · rw [← h2 a' (by omega)]
            exact if_neg (by omega)
termination_by c - a
decreasing_by all_goals omega
theorem c_Life_letStrings {ST BT RG : Nat → Int32} (hr : xl_R D h n lf g aK c f A O S kb) (hlt : g + 1 < lf) (hW : xt_W n (fun q => nI (kb q)) c ar o s A O S) (hBT : ∀ i, i < 4 * c → BT i = -1 ∨ ∃ g, g < c ∧ BT i = nI g) (hS2 : ∀ a, a < c → ST a = 0 ∨ ST a = 1) :
    xa_M l D H0 M_Life_letStringsFall 2 44 0 0 [.ref lf] (xj_h D h lf (n * n) ST BT RG) sz (fun v h' sz' => ∃ ST' RG', (∀ a', a' < c → (gl_Fa c kb o s BT ST a' → ST' a' = 0) ∧ (¬ gl_Fa c kb o s BT ST a' → ST' a' = ST a')) ∧ ((v = some (.int 1) ∧ ∃ a', a' < c ∧ gl_Fa c kb o s BT ST a') ∨ (v = some (.int 0) ∧ ∀ a', a' < c → ¬ gl_Fa c kb o s BT ST a')) ∧ h' = xj_h D h lf (n * n) ST' BT RG' ∧ sz' = sz) := by
  have hr' := xj_R (N := n * n) (ST := ST) (BT := BT) (RG := RG) hr hlt
  obtain ⟨r1, r2, r3, r4, r5, r6, r7, r8, hN, hf, hb⟩ := id hr'
  refine xa_enter (by decide) rfl rfl ?_
  refine xa_aload_n d_Life_letStringsFall_0 rfl ?_
  refine xa_callV (As := []) (st := []) d_Life_letStringsFall_1 k_Life_94 r1 (c_Life_countRegions hr hlt hW.1.2.2.2.2.2.2.2.2.2.2 hBT hS2) rfl rfl (Nat.le_of_ble_eq_true rfl) ⟨by decide, by decide⟩ (by decide) (by decide) (fun v h' sz' hq => ?_)
  obtain ⟨RG', hRG, e1, e2, e3⟩ := hq
  rw [e1, e2, e3]
  refine xa_iconst (v := nI 0) d_Life_letStringsFall_4 rfl ?_
  refine xa_istore_n d_Life_letStringsFall_5 rfl rfl ?_
  refine xa_iconst (v := nI 0) d_Life_letStringsFall_6 rfl ?_
  refine xa_istore_n d_Life_letStringsFall_7 rfl rfl ?_
  refine xa_ls ?_ (w_letStrings ⟨by decide, by decide⟩ hr hlt hW hS2 hRG 0 (by omega) ST 0 (fun a' ha' => absurd ha' (Nat.not_lt_zero _)) (fun _ _ => rfl) (Or.inr ⟨rfl, fun a' ha' => absurd ha' (Nat.not_lt_zero _)⟩))
  exact ⟨rfl, rfl, rfl, trivial⟩
theorem w_letRegions {ST0 BT RG : Nat → Int32} (hR : 3 ≤ R.frames ∧ 65 ≤ R.locals) (hr : xl_R D h n lf g aK c f A O S kb) (hlt : g + 1 < lf) (hW : xt_W n (fun q => nI (kb q)) c ar o s A O S) (hS2 : ∀ a, a < c → ST0 a = 0 ∨ ST0 a = 1) (p : Nat) (hp : p ≤ n * n) (ST : Nat → Int32) (h1 : ∀ a, a < c → (gl_Fr n kb ar ST0 p a → ST a = 0) ∧ (¬ gl_Fr n kb ar ST0 p a → ST a = ST0 a)) :
    xa_X l D H0 M_Life_letRegionsFall R (xa_Zr D H0 0 0 (fun v h' sz' => ∃ ST, (∀ a, a < c → (gl_Fr n kb ar ST0 (n * n) a → ST a = 0) ∧ (¬ gl_Fr n kb ar ST0 (n * n) a → ST a = ST0 a)) ∧ v = none ∧ h' = xj_h D h lf (n * n) ST BT RG ∧ sz' = sz)) 0 0 (xj_h D h lf (n * n) ST BT RG) sz 2 [(0, .ref lf), (1, .int (nI p))] [] := by
  have hr' := xj_R (N := n * n) (ST := ST) (BT := BT) (RG := RG) hr hlt
  obtain ⟨r1, r2, r3, r4, r5, r6, r7, r8, hN, hf, hb⟩ := id hr'
  obtain ⟨w1, w2, w3, w4⟩ := id hW
  have hcN : c ≤ n * n := w1.2.2.2.2.2.2.2.2.2.2
  have hs2 : ∀ a, a < c → ST a = 0 ∨ ST a = 1 := fun a ha => by
    by_cases hF : gl_Fr n kb ar ST0 p a
    · exact Or.inl ((h1 a ha).1 hF)
    · rw [(h1 a ha).2 hF]; exact hS2 a ha
  have hbf : ∀ q, q < n * n → (gl_bf n kb ar ST q ↔ gl_bf n kb ar ST0 q) := fun q hq => by
    have e : ∀ w x, w < 4 → gb_nb n q w = some x → kb x = 1 → ST (ar x) = ST0 (ar x) := fun w x hw hx hk => by
      have hxN := gb_nb_lt hq hw hx
      refine (h1 _ (w1.1 x hxN)).2 (fun ⟨q', hq', ha', hk', _⟩ => ?_)
      have k1 := gl_kb w1 hb hxN
      have k2 := gl_kb w1 hb (x := q') (by omega)
      rw [ha'] at k2
      omega
    constructor
    · rintro ⟨w, x, hw, hx, hk, hs⟩
      exact ⟨w, x, hw, hx, hk, by rw [← e w x hw hx hk]; exact hs⟩
    · rintro ⟨w, x, hw, hx, hk, hs⟩
      exact ⟨w, x, hw, hx, hk, by rw [e w x hw hx hk]; exact hs⟩
  refine xa_iload_n d_Life_letRegionsFall_2 rfl ?_
  refine xa_aload_n d_Life_letRegionsFall_3 rfl ?_
  refine xa_getf f_Life_9 d_Life_letRegionsFall_4 (by assumption) (by rfl) ?_
  refine xa_getf f_Life_19 d_Life_letRegionsFall_7 (by assumption) (by rfl) ?_
  refine xa_icmp_geN (tgt := 50) d_Life_letRegionsFall_10 (by decide) (by omega) (by omega) (fun hb4 => ?_) (fun hb4 => ?_)
  · have hpe : p = n * n := by omega
    subst hpe
    exact xa_return d_Life_letRegionsFall_50 rfl (by omega) (by omega) ⟨ST, h1, rfl, rfl, rfl⟩
  · have hkp := hb p hb4
    have hap := w1.1 p hb4
    have no : ¬ (kb p = 0 ∧ gl_bf n kb ar ST0 p) → xa_X l D H0 M_Life_letRegionsFall R (xa_Zr D H0 0 0 (fun v h' sz' => ∃ ST, (∀ a, a < c → (gl_Fr n kb ar ST0 (n * n) a → ST a = 0) ∧ (¬ gl_Fr n kb ar ST0 (n * n) a → ST a = ST0 a)) ∧ v = none ∧ h' = xj_h D h lf (n * n) ST BT RG ∧ sz' = sz)) 0 0 (xj_h D h lf (n * n) ST BT RG) sz 44 [(0, .ref lf), (1, .int (nI p))] [] := by
      intro hno
      refine xa_iincN d_Life_letRegionsFall_44 rfl rfl rfl ?_
      refine xa_goto (tgt := 2) d_Life_letRegionsFall_47 (by decide) ?_
      refine xa_ls ?_ (w_letRegions hR hr hlt hW hS2 (p + 1) (by omega) ST (fun a ha => ?_))
      · exact ⟨rfl, rfl, trivial⟩
      · have e : gl_Fr n kb ar ST0 (p + 1) a ↔ gl_Fr n kb ar ST0 p a := by
          constructor
          · rintro ⟨q, hq, h2, h3, h4⟩
            by_cases he : q = p
            · subst he; exact absurd ⟨h3, h4⟩ hno
            · exact ⟨q, by omega, h2, h3, h4⟩
          · rintro ⟨q, hq, h2⟩
            exact ⟨q, by omega, h2⟩
        exact ⟨fun z => (h1 a ha).1 (e.mp z), fun z => (h1 a ha).2 (fun y => z (e.mpr y))⟩
    refine xa_aload_n d_Life_letRegionsFall_13 rfl ?_
    refine xa_getf f_Life_25 d_Life_letRegionsFall_14 (by assumption) (by rfl) ?_
    refine xa_iload_n d_Life_letRegionsFall_17 rfl ?_
    refine xa_ialdE d_Life_letRegionsFall_18 r2 rfl hb4 (by omega) rfl ?_
    refine xa_if_neN (tgt := 44) d_Life_letRegionsFall_19 (by decide) (by omega) (fun hz => ?_) (fun hz => ?_)
    · exact no (fun z => by omega)
    ·
      refine xa_aload_n d_Life_letRegionsFall_22 rfl ?_
      refine xa_iload_n d_Life_letRegionsFall_23 rfl ?_
      refine xa_callV (As := [.int (nI p)]) (st := []) d_Life_letRegionsFall_24 k_Life_103 r1 (c_Life_isBesideFallen hr' hW xj_6 hs2 hb4) rfl rfl (Nat.le_of_ble_eq_true rfl) ⟨hR.1, by have := hR.2; show 8 + (4 + 11) + 42 ≤ _; omega⟩ (by omega) (by omega) (fun v h' sz' hq => ?_)
      obtain ⟨hv, e2, e3⟩ := hq
      rw [e2, e3]
      rcases hv with ⟨hv, hq⟩ | ⟨hv, hq⟩
      · rw [hv]
        refine xa_int (y := nI 1) rfl ?_
        refine xa_if_eqN (tgt := 44) d_Life_letRegionsFall_27 (by decide) (by omega) (fun hz2 => ?_) (fun hz2 => ?_)
        · omega
        ·
          refine xa_aload_n d_Life_letRegionsFall_30 rfl ?_
          refine xa_getf f_Life_37 d_Life_letRegionsFall_31 (by assumption) (by rfl) ?_
          refine xa_aload_n d_Life_letRegionsFall_34 rfl ?_
          refine xa_getf f_Life_33 d_Life_letRegionsFall_35 (by assumption) (by rfl) ?_
          refine xa_iload_n d_Life_letRegionsFall_38 rfl ?_
          refine xa_callVr (As := [.int (nI p)]) (st := [.ref (lf + 6)]) d_Life_letRegionsFall_39 k_Life_63 r3 (c_Areas_areaAt r3 r4 hN hb4 (w2 p hb4)) rfl rfl (Nat.le_of_ble_eq_true rfl) ⟨by have := hR.1; show 0 + 1 ≤ _; omega, by have := hR.2; show 8 + (2 + 11) + 0 ≤ _; omega⟩ (by omega) (by omega) ?_
          refine xa_iconst (v := nI 0) d_Life_letRegionsFall_42 rfl ?_
          refine xa_zast d_Life_letRegionsFall_43 xj_6 (show ar p < n * n by omega) rfl (by omega) ?_
          refine xa_heap (xj_u6 _) ?_
          refine xa_iincN d_Life_letRegionsFall_44 rfl rfl rfl ?_
          refine xa_goto (tgt := 2) d_Life_letRegionsFall_47 (by decide) ?_
          refine xa_ls ?_ (w_letRegions hR hr hlt hW hS2 (p + 1) (by omega) _ (fun a ha => ?_))
          · exact ⟨rfl, rfl, trivial⟩
          · have hFp : gl_Fr n kb ar ST0 (p + 1) (ar p) := ⟨p, by omega, rfl, hz, (hbf p hb4).mp hq⟩
            by_cases he : a = ar p
            · rw [he]
              exact ⟨fun _ => if_pos rfl, fun z => absurd hFp z⟩
            · have hu : upd ST (ar p) (vp_nar .boolean (nI 0)) a = ST a := if_neg he
              rw [hu]
              have e : gl_Fr n kb ar ST0 (p + 1) a ↔ gl_Fr n kb ar ST0 p a := by
                constructor
                · rintro ⟨q, hq, h2, h3, h4⟩
                  by_cases he2 : q = p
                  · subst he2; exact absurd h2.symm he
                  · exact ⟨q, by omega, h2, h3, h4⟩
                · rintro ⟨q, hq, h2⟩
                  exact ⟨q, by omega, h2⟩
              exact ⟨fun z => (h1 a ha).1 (e.mp z), fun z => (h1 a ha).2 (fun y => z (e.mpr y))⟩
      · rw [hv]
        refine xa_int (y := nI 0) rfl ?_
        refine xa_if_eqN (tgt := 44) d_Life_letRegionsFall_27 (by decide) (by omega) (fun hz2 => ?_) (fun hz2 => ?_)
        · exact no (fun z => hq ((hbf p hb4).mpr z.2))
        · omega
termination_by n * n - p
decreasing_by all_goals omega
theorem c_Life_letRegions {ST BT RG : Nat → Int32} (hr : xl_R D h n lf g aK c f A O S kb) (hlt : g + 1 < lf) (hW : xt_W n (fun q => nI (kb q)) c ar o s A O S) (hS2 : ∀ a, a < c → ST a = 0 ∨ ST a = 1) :
    xa_M l D H0 M_Life_letRegionsFall 3 65 0 0 [.ref lf] (xj_h D h lf (n * n) ST BT RG) sz (fun v h' sz' => ∃ ST', (∀ a, a < c → (gl_Fr n kb ar ST (n * n) a → ST' a = 0) ∧ (¬ gl_Fr n kb ar ST (n * n) a → ST' a = ST a)) ∧ v = none ∧ h' = xj_h D h lf (n * n) ST' BT RG ∧ sz' = sz) := by
  refine xa_enter (by decide) rfl rfl ?_
  refine xa_iconst (v := nI 0) d_Life_letRegionsFall_0 rfl ?_
  refine xa_istore_n d_Life_letRegionsFall_1 rfl rfl ?_
  refine xa_ls ?_ (w_letRegions ⟨by decide, by decide⟩ hr hlt hW hS2 0 (by omega) ST (fun a ha => ⟨fun ⟨q, hq, _⟩ => absurd hq (Nat.not_lt_zero _), fun _ => rfl⟩))
  exact ⟨rfl, rfl, trivial⟩
end LF3
end
