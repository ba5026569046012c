section
/-! The words of the tables (the start of the given skeleton). -/
def lw_okq (q : MethodName × Nat) : Prop := (q.1.cls ≠ "java/lang/invoke/MethodHandle" ∧ q.1.cls ≠ "java/lang/invoke/VarHandle") ∧ Cond.instantiable q.1.cls q.2 ∈ tables_1 ∧ Cond.privateMethod q.1 ∈ tables_1 ∧ Cond.instanceMethod q.1 ∈ tables_1
theorem lw_p0 : lw_okq (⟨"StoneBoard$Areas", "spread", "(II[I)I"⟩, 5) := ⟨⟨by decide +kernel, by decide +kernel⟩, List.mem_of_getElem? (i := 60) (by decide +kernel), List.mem_of_getElem? (i := 95) (by decide +kernel), List.mem_of_getElem? (i := 96) (by decide +kernel)⟩
theorem lw_p1 : lw_okq (⟨"StoneBoard$Chart", "isFree", "(I)Z"⟩, 7) := ⟨⟨by decide +kernel, by decide +kernel⟩, List.mem_of_getElem? (i := 54) (by decide +kernel), List.mem_of_getElem? (i := 104) (by decide +kernel), List.mem_of_getElem? (i := 105) (by decide +kernel)⟩
theorem lw_p2 : lw_okq (⟨"StoneBoard$Chart", "findHolder", "(I)I"⟩, 7) := ⟨⟨by decide +kernel, by decide +kernel⟩, List.mem_of_getElem? (i := 54) (by decide +kernel), List.mem_of_getElem? (i := 112) (by decide +kernel), List.mem_of_getElem? (i := 113) (by decide +kernel)⟩
theorem lw_p3 : lw_okq (⟨"StoneBoard$Chart", "countBreaths", "(I)V"⟩, 7) := ⟨⟨by decide +kernel, by decide +kernel⟩, List.mem_of_getElem? (i := 54) (by decide +kernel), List.mem_of_getElem? (i := 128) (by decide +kernel), List.mem_of_getElem? (i := 129) (by decide +kernel)⟩
theorem lw_p4 : lw_okq (⟨"StoneBoard$History", "keep", "(LStoneBoard$Position;[JIII)V"⟩, 2) := ⟨⟨by decide +kernel, by decide +kernel⟩, List.mem_of_getElem? (i := 189) (by decide +kernel), List.mem_of_getElem? (i := 198) (by decide +kernel), List.mem_of_getElem? (i := 199) (by decide +kernel)⟩
theorem lw_p5 : lw_okq (⟨"StoneBoard", "judgeMove", "(I)I"⟩, 8) := ⟨⟨by decide +kernel, by decide +kernel⟩, List.mem_of_getElem? (i := 21) (by decide +kernel), List.mem_of_getElem? (i := 321) (by decide +kernel), List.mem_of_getElem? (i := 322) (by decide +kernel)⟩
theorem lw_p6 : lw_okq (⟨"StoneBoard", "findBoardBehind", "(I)LStoneBoard$Position;"⟩, 8) := ⟨⟨by decide +kernel, by decide +kernel⟩, List.mem_of_getElem? (i := 21) (by decide +kernel), List.mem_of_getElem? (i := 329) (by decide +kernel), List.mem_of_getElem? (i := 330) (by decide +kernel)⟩
theorem lw_p7 : lw_okq (⟨"StoneBoard$Trial", "takeClosedStrings", "(II)V"⟩, 6) := ⟨⟨by decide +kernel, by decide +kernel⟩, List.mem_of_getElem? (i := 157) (by decide +kernel), List.mem_of_getElem? (i := 347) (by decide +kernel), List.mem_of_getElem? (i := 348) (by decide +kernel)⟩
theorem lw_p8 : lw_okq (⟨"StoneBoard$Trial", "isLastBreathOf", "(I)Z"⟩, 6) := ⟨⟨by decide +kernel, by decide +kernel⟩, List.mem_of_getElem? (i := 157) (by decide +kernel), List.mem_of_getElem? (i := 352) (by decide +kernel), List.mem_of_getElem? (i := 353) (by decide +kernel)⟩
theorem lw_p9 : lw_okq (⟨"StoneBoard$Trial", "takeString", "(I)V"⟩, 6) := ⟨⟨by decide +kernel, by decide +kernel⟩, List.mem_of_getElem? (i := 157) (by decide +kernel), List.mem_of_getElem? (i := 367) (by decide +kernel), List.mem_of_getElem? (i := 368) (by decide +kernel)⟩
theorem lw_p10 : lw_okq (⟨"StoneBoard$Trial", "findsBreath", "(II)Z"⟩, 6) := ⟨⟨by decide +kernel, by decide +kernel⟩, List.mem_of_getElem? (i := 157) (by decide +kernel), List.mem_of_getElem? (i := 373) (by decide +kernel), List.mem_of_getElem? (i := 374) (by decide +kernel)⟩
theorem lw_p11 : lw_okq (⟨"StoneBoard", "checkPoint", "(I)V"⟩, 8) := ⟨⟨by decide +kernel, by decide +kernel⟩, List.mem_of_getElem? (i := 21) (by decide +kernel), List.mem_of_getElem? (i := 400) (by decide +kernel), List.mem_of_getElem? (i := 401) (by decide +kernel)⟩
theorem lw_p12 : lw_okq (⟨"java/lang/Throwable", "fillInStackTrace", "(I)Ljava/lang/Throwable;"⟩, 6) := ⟨⟨by decide +kernel, by decide +kernel⟩, List.mem_of_getElem? (i := 442) (by decide +kernel), List.mem_of_getElem? (i := 440) (by decide +kernel), List.mem_of_getElem? (i := 441) (by decide +kernel)⟩
theorem lw_p13 : lw_okq (⟨"StoneBoard", "checkNoMoveYet", "()V"⟩, 8) := ⟨⟨by decide +kernel, by decide +kernel⟩, List.mem_of_getElem? (i := 21) (by decide +kernel), List.mem_of_getElem? (i := 494) (by decide +kernel), List.mem_of_getElem? (i := 495) (by decide +kernel)⟩
theorem lw_p14 : lw_okq (⟨"StoneBoard$History", "takeOutOfBucket", "(LStoneBoard$Position;)V"⟩, 2) := ⟨⟨by decide +kernel, by decide +kernel⟩, List.mem_of_getElem? (i := 189) (by decide +kernel), List.mem_of_getElem? (i := 530) (by decide +kernel), List.mem_of_getElem? (i := 531) (by decide +kernel)⟩
theorem lw_p15 : lw_okq (⟨"StoneBoard", "checkRoomForMove", "()V"⟩, 8) := ⟨⟨by decide +kernel, by decide +kernel⟩, List.mem_of_getElem? (i := 21) (by decide +kernel), List.mem_of_getElem? (i := 551) (by decide +kernel), List.mem_of_getElem? (i := 552) (by decide +kernel)⟩
def lw_privs_1 : List (MethodName × Nat) := [(⟨"StoneBoard$Areas", "spread", "(II[I)I"⟩, 5), (⟨"StoneBoard$Chart", "isFree", "(I)Z"⟩, 7), (⟨"StoneBoard$Chart", "findHolder", "(I)I"⟩, 7), (⟨"StoneBoard$Chart", "countBreaths", "(I)V"⟩, 7), (⟨"StoneBoard$History", "keep", "(LStoneBoard$Position;[JIII)V"⟩, 2), (⟨"StoneBoard", "judgeMove", "(I)I"⟩, 8), (⟨"StoneBoard", "findBoardBehind", "(I)LStoneBoard$Position;"⟩, 8), (⟨"StoneBoard$Trial", "takeClosedStrings", "(II)V"⟩, 6), (⟨"StoneBoard$Trial", "isLastBreathOf", "(I)Z"⟩, 6), (⟨"StoneBoard$Trial", "takeString", "(I)V"⟩, 6), (⟨"StoneBoard$Trial", "findsBreath", "(II)Z"⟩, 6), (⟨"StoneBoard", "checkPoint", "(I)V"⟩, 8), (⟨"java/lang/Throwable", "fillInStackTrace", "(I)Ljava/lang/Throwable;"⟩, 6), (⟨"StoneBoard", "checkNoMoveYet", "()V"⟩, 8), (⟨"StoneBoard$History", "takeOutOfBucket", "(LStoneBoard$Position;)V"⟩, 2), (⟨"StoneBoard", "checkRoomForMove", "()V"⟩, 8)]
theorem lw_r1 : ∀ q ∈ lw_privs_1, lw_okq q := List.forall_mem_cons.mpr ⟨lw_p0, List.forall_mem_cons.mpr ⟨lw_p1, List.forall_mem_cons.mpr ⟨lw_p2, List.forall_mem_cons.mpr ⟨lw_p3, List.forall_mem_cons.mpr ⟨lw_p4, List.forall_mem_cons.mpr ⟨lw_p5, List.forall_mem_cons.mpr ⟨lw_p6, List.forall_mem_cons.mpr ⟨lw_p7, List.forall_mem_cons.mpr ⟨lw_p8, List.forall_mem_cons.mpr ⟨lw_p9, List.forall_mem_cons.mpr ⟨lw_p10, List.forall_mem_cons.mpr ⟨lw_p11, List.forall_mem_cons.mpr ⟨lw_p12, List.forall_mem_cons.mpr ⟨lw_p13, List.forall_mem_cons.mpr ⟨lw_p14, List.forall_mem_cons.mpr ⟨lw_p15, fun _ h => absurd h List.not_mem_nil⟩⟩⟩⟩⟩⟩⟩⟩⟩⟩⟩⟩⟩⟩⟩⟩
theorem lw_p16 : lw_okq (⟨"StoneBoard", "showLatestBoard", "()V"⟩, 8) := ⟨⟨by decide +kernel, by decide +kernel⟩, List.mem_of_getElem? (i := 21) (by decide +kernel), List.mem_of_getElem? (i := 559) (by decide +kernel), List.mem_of_getElem? (i := 560) (by decide +kernel)⟩
theorem lw_p17 : lw_okq (⟨"StoneBoard$Life", "noteStringsOf", "(I)V"⟩, 7) := ⟨⟨by decide +kernel, by decide +kernel⟩, List.mem_of_getElem? (i := 252) (by decide +kernel), List.mem_of_getElem? (i := 674) (by decide +kernel), List.mem_of_getElem? (i := 675) (by decide +kernel)⟩
theorem lw_p18 : lw_okq (⟨"StoneBoard$Life", "kindOf", "(I)I"⟩, 7) := ⟨⟨by decide +kernel, by decide +kernel⟩, List.mem_of_getElem? (i := 252) (by decide +kernel), List.mem_of_getElem? (i := 680) (by decide +kernel), List.mem_of_getElem? (i := 681) (by decide +kernel)⟩
theorem lw_p19 : lw_okq (⟨"StoneBoard$Life", "isNoted", "(III)Z"⟩, 7) := ⟨⟨by decide +kernel, by decide +kernel⟩, List.mem_of_getElem? (i := 252) (by decide +kernel), List.mem_of_getElem? (i := 685) (by decide +kernel), List.mem_of_getElem? (i := 686) (by decide +kernel)⟩
theorem lw_p20 : lw_okq (⟨"StoneBoard$Life", "belongs", "(II)Z"⟩, 7) := ⟨⟨by decide +kernel, by decide +kernel⟩, List.mem_of_getElem? (i := 252) (by decide +kernel), List.mem_of_getElem? (i := 689) (by decide +kernel), List.mem_of_getElem? (i := 690) (by decide +kernel)⟩
theorem lw_p21 : lw_okq (⟨"StoneBoard$Life", "isBeside", "(II)Z"⟩, 7) := ⟨⟨by decide +kernel, by decide +kernel⟩, List.mem_of_getElem? (i := 252) (by decide +kernel), List.mem_of_getElem? (i := 695) (by decide +kernel), List.mem_of_getElem? (i := 696) (by decide +kernel)⟩
theorem lw_p22 : lw_okq (⟨"StoneBoard$Life", "letStringsFall", "()Z"⟩, 7) := ⟨⟨by decide +kernel, by decide +kernel⟩, List.mem_of_getElem? (i := 252) (by decide +kernel), List.mem_of_getElem? (i := 699) (by decide +kernel), List.mem_of_getElem? (i := 700) (by decide +kernel)⟩
theorem lw_p23 : lw_okq (⟨"StoneBoard$Life", "countRegionsOfStrings", "()V"⟩, 7) := ⟨⟨by decide +kernel, by decide +kernel⟩, List.mem_of_getElem? (i := 252) (by decide +kernel), List.mem_of_getElem? (i := 703) (by decide +kernel), List.mem_of_getElem? (i := 704) (by decide +kernel)⟩
theorem lw_p24 : lw_okq (⟨"StoneBoard$Life", "letRegionsFall", "()V"⟩, 7) := ⟨⟨by decide +kernel, by decide +kernel⟩, List.mem_of_getElem? (i := 252) (by decide +kernel), List.mem_of_getElem? (i := 708) (by decide +kernel), List.mem_of_getElem? (i := 709) (by decide +kernel)⟩
theorem lw_p25 : lw_okq (⟨"StoneBoard$Life", "isBesideFallenString", "(I)Z"⟩, 7) := ⟨⟨by decide +kernel, by decide +kernel⟩, List.mem_of_getElem? (i := 252) (by decide +kernel), List.mem_of_getElem? (i := 712) (by decide +kernel), List.mem_of_getElem? (i := 713) (by decide +kernel)⟩
theorem lw_p26 : lw_okq (⟨"StoneBoardModel", "noPoint", "(I)Z"⟩, 24) := ⟨⟨by decide +kernel, by decide +kernel⟩, List.mem_of_getElem? (i := 739) (by decide +kernel), List.mem_of_getElem? (i := 832) (by decide +kernel), List.mem_of_getElem? (i := 833) (by decide +kernel)⟩
theorem lw_p27 : lw_okq (⟨"StoneBoardModel", "areBreathing", "([I)Z"⟩, 24) := ⟨⟨by decide +kernel, by decide +kernel⟩, List.mem_of_getElem? (i := 739) (by decide +kernel), List.mem_of_getElem? (i := 840) (by decide +kernel), List.mem_of_getElem? (i := 841) (by decide +kernel)⟩
theorem lw_p28 : lw_okq (⟨"StoneBoardModel", "gather", "([II)V"⟩, 24) := ⟨⟨by decide +kernel, by decide +kernel⟩, List.mem_of_getElem? (i := 739) (by decide +kernel), List.mem_of_getElem? (i := 844) (by decide +kernel), List.mem_of_getElem? (i := 845) (by decide +kernel)⟩
theorem lw_p29 : lw_okq (⟨"StoneBoardModel", "beside", "(II)I"⟩, 24) := ⟨⟨by decide +kernel, by decide +kernel⟩, List.mem_of_getElem? (i := 739) (by decide +kernel), List.mem_of_getElem? (i := 848) (by decide +kernel), List.mem_of_getElem? (i := 849) (by decide +kernel)⟩
theorem lw_p30 : lw_okq (⟨"StoneBoardModel", "breaths", "([I)I"⟩, 24) := ⟨⟨by decide +kernel, by decide +kernel⟩, List.mem_of_getElem? (i := 739) (by decide +kernel), List.mem_of_getElem? (i := 852) (by decide +kernel), List.mem_of_getElem? (i := 853) (by decide +kernel)⟩
theorem lw_p31 : lw_okq (⟨"StoneBoardModel", "isBreath", "([II)Z"⟩, 24) := ⟨⟨by decide +kernel, by decide +kernel⟩, List.mem_of_getElem? (i := 739) (by decide +kernel), List.mem_of_getElem? (i := 856) (by decide +kernel), List.mem_of_getElem? (i := 857) (by decide +kernel)⟩
def lw_privs_2 : List (MethodName × Nat) := [(⟨"StoneBoard", "showLatestBoard", "()V"⟩, 8), (⟨"StoneBoard$Life", "noteStringsOf", "(I)V"⟩, 7), (⟨"StoneBoard$Life", "kindOf", "(I)I"⟩, 7), (⟨"StoneBoard$Life", "isNoted", "(III)Z"⟩, 7), (⟨"StoneBoard$Life", "belongs", "(II)Z"⟩, 7), (⟨"StoneBoard$Life", "isBeside", "(II)Z"⟩, 7), (⟨"StoneBoard$Life", "letStringsFall", "()Z"⟩, 7), (⟨"StoneBoard$Life", "countRegionsOfStrings", "()V"⟩, 7), (⟨"StoneBoard$Life", "letRegionsFall", "()V"⟩, 7), (⟨"StoneBoard$Life", "isBesideFallenString", "(I)Z"⟩, 7), (⟨"StoneBoardModel", "noPoint", "(I)Z"⟩, 24), (⟨"StoneBoardModel", "areBreathing", "([I)Z"⟩, 24), (⟨"StoneBoardModel", "gather", "([II)V"⟩, 24), (⟨"StoneBoardModel", "beside", "(II)I"⟩, 24), (⟨"StoneBoardModel", "breaths", "([I)I"⟩, 24), (⟨"StoneBoardModel", "isBreath", "([II)Z"⟩, 24)]
theorem lw_r2 : ∀ q ∈ lw_privs_2, lw_okq q := List.forall_mem_cons.mpr ⟨lw_p16, List.forall_mem_cons.mpr ⟨lw_p17, List.forall_mem_cons.mpr ⟨lw_p18, List.forall_mem_cons.mpr ⟨lw_p19, List.forall_mem_cons.mpr ⟨lw_p20, List.forall_mem_cons.mpr ⟨lw_p21, List.forall_mem_cons.mpr ⟨lw_p22, List.forall_mem_cons.mpr ⟨lw_p23, List.forall_mem_cons.mpr ⟨lw_p24, List.forall_mem_cons.mpr ⟨lw_p25, List.forall_mem_cons.mpr ⟨lw_p26, List.forall_mem_cons.mpr ⟨lw_p27, List.forall_mem_cons.mpr ⟨lw_p28, List.forall_mem_cons.mpr ⟨lw_p29, List.forall_mem_cons.mpr ⟨lw_p30, List.forall_mem_cons.mpr ⟨lw_p31, fun _ h => absurd h List.not_mem_nil⟩⟩⟩⟩⟩⟩⟩⟩⟩⟩⟩⟩⟩⟩⟩⟩
theorem lw_p32 : lw_okq (⟨"StoneBoardModel", "keep", "(I)V"⟩, 24) := ⟨⟨by decide +kernel, by decide +kernel⟩, List.mem_of_getElem? (i := 739) (by decide +kernel), List.mem_of_getElem? (i := 860) (by decide +kernel), List.mem_of_getElem? (i := 861) (by decide +kernel)⟩
theorem lw_p33 : lw_okq (⟨"StoneBoardModel", "turnNow", "()I"⟩, 24) := ⟨⟨by decide +kernel, by decide +kernel⟩, List.mem_of_getElem? (i := 739) (by decide +kernel), List.mem_of_getElem? (i := 872) (by decide +kernel), List.mem_of_getElem? (i := 873) (by decide +kernel)⟩
theorem lw_p34 : lw_okq (⟨"StoneBoardModel", "whyNot", "(I)I"⟩, 24) := ⟨⟨by decide +kernel, by decide +kernel⟩, List.mem_of_getElem? (i := 739) (by decide +kernel), List.mem_of_getElem? (i := 880) (by decide +kernel), List.mem_of_getElem? (i := 881) (by decide +kernel)⟩
theorem lw_p35 : lw_okq (⟨"StoneBoardModel", "isEnded", "()Z"⟩, 24) := ⟨⟨by decide +kernel, by decide +kernel⟩, List.mem_of_getElem? (i := 739) (by decide +kernel), List.mem_of_getElem? (i := 884) (by decide +kernel), List.mem_of_getElem? (i := 885) (by decide +kernel)⟩
theorem lw_p36 : lw_okq (⟨"StoneBoardModel", "attempt", "(II)V"⟩, 24) := ⟨⟨by decide +kernel, by decide +kernel⟩, List.mem_of_getElem? (i := 739) (by decide +kernel), List.mem_of_getElem? (i := 888) (by decide +kernel), List.mem_of_getElem? (i := 889) (by decide +kernel)⟩
theorem lw_p37 : lw_okq (⟨"StoneBoardModel", "takeOff", "([I)I"⟩, 24) := ⟨⟨by decide +kernel, by decide +kernel⟩, List.mem_of_getElem? (i := 739) (by decide +kernel), List.mem_of_getElem? (i := 892) (by decide +kernel), List.mem_of_getElem? (i := 893) (by decide +kernel)⟩
theorem lw_p38 : lw_okq (⟨"StoneBoardModel", "latest", "()I"⟩, 24) := ⟨⟨by decide +kernel, by decide +kernel⟩, List.mem_of_getElem? (i := 739) (by decide +kernel), List.mem_of_getElem? (i := 896) (by decide +kernel), List.mem_of_getElem? (i := 897) (by decide +kernel)⟩
theorem lw_p39 : lw_okq (⟨"StoneBoardModel", "isTrial", "(I)Z"⟩, 24) := ⟨⟨by decide +kernel, by decide +kernel⟩, List.mem_of_getElem? (i := 739) (by decide +kernel), List.mem_of_getElem? (i := 900) (by decide +kernel), List.mem_of_getElem? (i := 901) (by decide +kernel)⟩
theorem lw_p40 : lw_okq (⟨"StoneBoardModel", "noSide", "(II)Z"⟩, 24) := ⟨⟨by decide +kernel, by decide +kernel⟩, List.mem_of_getElem? (i := 739) (by decide +kernel), List.mem_of_getElem? (i := 932) (by decide +kernel), List.mem_of_getElem? (i := 933) (by decide +kernel)⟩
theorem lw_p41 : lw_okq (⟨"StoneBoardModel", "number", "(I)V"⟩, 24) := ⟨⟨by decide +kernel, by decide +kernel⟩, List.mem_of_getElem? (i := 739) (by decide +kernel), List.mem_of_getElem? (i := 944) (by decide +kernel), List.mem_of_getElem? (i := 945) (by decide +kernel)⟩
theorem lw_p42 : lw_okq (⟨"StoneBoardModel", "ownerOf", "(I)I"⟩, 24) := ⟨⟨by decide +kernel, by decide +kernel⟩, List.mem_of_getElem? (i := 739) (by decide +kernel), List.mem_of_getElem? (i := 952) (by decide +kernel), List.mem_of_getElem? (i := 953) (by decide +kernel)⟩
theorem lw_p43 : lw_okq (⟨"StoneBoardModel", "met", "(I)I"⟩, 24) := ⟨⟨by decide +kernel, by decide +kernel⟩, List.mem_of_getElem? (i := 739) (by decide +kernel), List.mem_of_getElem? (i := 956) (by decide +kernel), List.mem_of_getElem? (i := 957) (by decide +kernel)⟩
theorem lw_p44 : lw_okq (⟨"StoneBoardModel", "judge", "(I)V"⟩, 24) := ⟨⟨by decide +kernel, by decide +kernel⟩, List.mem_of_getElem? (i := 739) (by decide +kernel), List.mem_of_getElem? (i := 968) (by decide +kernel), List.mem_of_getElem? (i := 969) (by decide +kernel)⟩
theorem lw_p45 : lw_okq (⟨"StoneBoardModel", "divide", "(I)V"⟩, 24) := ⟨⟨by decide +kernel, by decide +kernel⟩, List.mem_of_getElem? (i := 739) (by decide +kernel), List.mem_of_getElem? (i := 972) (by decide +kernel), List.mem_of_getElem? (i := 973) (by decide +kernel)⟩
theorem lw_p46 : lw_okq (⟨"StoneBoardModel", "spread", "(II)V"⟩, 24) := ⟨⟨by decide +kernel, by decide +kernel⟩, List.mem_of_getElem? (i := 739) (by decide +kernel), List.mem_of_getElem? (i := 976) (by decide +kernel), List.mem_of_getElem? (i := 977) (by decide +kernel)⟩
theorem lw_p47 : lw_okq (⟨"StoneBoardModel", "regionsOf", "(I)I"⟩, 24) := ⟨⟨by decide +kernel, by decide +kernel⟩, List.mem_of_getElem? (i := 739) (by decide +kernel), List.mem_of_getElem? (i := 980) (by decide +kernel), List.mem_of_getElem? (i := 981) (by decide +kernel)⟩
def lw_privs_3 : List (MethodName × Nat) := [(⟨"StoneBoardModel", "keep", "(I)V"⟩, 24), (⟨"StoneBoardModel", "turnNow", "()I"⟩, 24), (⟨"StoneBoardModel", "whyNot", "(I)I"⟩, 24), (⟨"StoneBoardModel", "isEnded", "()Z"⟩, 24), (⟨"StoneBoardModel", "attempt", "(II)V"⟩, 24), (⟨"StoneBoardModel", "takeOff", "([I)I"⟩, 24), (⟨"StoneBoardModel", "latest", "()I"⟩, 24), (⟨"StoneBoardModel", "isTrial", "(I)Z"⟩, 24), (⟨"StoneBoardModel", "noSide", "(II)Z"⟩, 24), (⟨"StoneBoardModel", "number", "(I)V"⟩, 24), (⟨"StoneBoardModel", "ownerOf", "(I)I"⟩, 24), (⟨"StoneBoardModel", "met", "(I)I"⟩, 24), (⟨"StoneBoardModel", "judge", "(I)V"⟩, 24), (⟨"StoneBoardModel", "divide", "(I)V"⟩, 24), (⟨"StoneBoardModel", "spread", "(II)V"⟩, 24), (⟨"StoneBoardModel", "regionsOf", "(I)I"⟩, 24)]
theorem lw_r3 : ∀ q ∈ lw_privs_3, lw_okq q := List.forall_mem_cons.mpr ⟨lw_p32, List.forall_mem_cons.mpr ⟨lw_p33, List.forall_mem_cons.mpr ⟨lw_p34, List.forall_mem_cons.mpr ⟨lw_p35, List.forall_mem_cons.mpr ⟨lw_p36, List.forall_mem_cons.mpr ⟨lw_p37, List.forall_mem_cons.mpr ⟨lw_p38, List.forall_mem_cons.mpr ⟨lw_p39, List.forall_mem_cons.mpr ⟨lw_p40, List.forall_mem_cons.mpr ⟨lw_p41, List.forall_mem_cons.mpr ⟨lw_p42, List.forall_mem_cons.mpr ⟨lw_p43, List.forall_mem_cons.mpr ⟨lw_p44, List.forall_mem_cons.mpr ⟨lw_p45, List.forall_mem_cons.mpr ⟨lw_p46, List.forall_mem_cons.mpr ⟨lw_p47, fun _ h => absurd h List.not_mem_nil⟩⟩⟩⟩⟩⟩⟩⟩⟩⟩⟩⟩⟩⟩⟩⟩
theorem lw_p48 : lw_okq (⟨"StoneBoardModel", "belongs", "(II)Z"⟩, 24) := ⟨⟨by decide +kernel, by decide +kernel⟩, List.mem_of_getElem? (i := 739) (by decide +kernel), List.mem_of_getElem? (i := 984) (by decide +kernel), List.mem_of_getElem? (i := 985) (by decide +kernel)⟩
theorem lw_p49 : lw_okq (⟨"StoneBoardModel", "isBeside", "(II)Z"⟩, 24) := ⟨⟨by decide +kernel, by decide +kernel⟩, List.mem_of_getElem? (i := 739) (by decide +kernel), List.mem_of_getElem? (i := 988) (by decide +kernel), List.mem_of_getElem? (i := 989) (by decide +kernel)⟩
theorem lw_p50 : lw_okq (⟨"StoneBoardModel", "fellRegions", "()V"⟩, 24) := ⟨⟨by decide +kernel, by decide +kernel⟩, List.mem_of_getElem? (i := 739) (by decide +kernel), List.mem_of_getElem? (i := 992) (by decide +kernel), List.mem_of_getElem? (i := 993) (by decide +kernel)⟩
def lw_privs_4 : List (MethodName × Nat) := [(⟨"StoneBoardModel", "belongs", "(II)Z"⟩, 24), (⟨"StoneBoardModel", "isBeside", "(II)Z"⟩, 24), (⟨"StoneBoardModel", "fellRegions", "()V"⟩, 24)]
theorem lw_r4 : ∀ q ∈ lw_privs_4, lw_okq q := List.forall_mem_cons.mpr ⟨lw_p48, List.forall_mem_cons.mpr ⟨lw_p49, List.forall_mem_cons.mpr ⟨lw_p50, fun _ h => absurd h List.not_mem_nil⟩⟩⟩
def lw_privs : List (MethodName × Nat) := lw_privs_1 ++ (lw_privs_2 ++ (lw_privs_3 ++ (lw_privs_4)))
def lw_tbl : List Cond := k2_sels lw_privs ++ tables_1
theorem lw_privs_ok : ∀ q ∈ lw_privs, lw_okq q := by
  show ∀ q ∈ lw_privs_1 ++ (lw_privs_2 ++ (lw_privs_3 ++ (lw_privs_4))), lw_okq q
  exact List.forall_mem_append.mpr ⟨lw_r1, List.forall_mem_append.mpr ⟨lw_r2, List.forall_mem_append.mpr ⟨lw_r3, lw_r4⟩⟩⟩
end
section
/-! Names, tables of fields, words, links: printed by gen/names.py out of the listing and the Statement. -/
def xa_ws : List Cond := lw_tbl.filter goodWord
theorem xa_ws_good (w : Cond) (h : w ∈ xa_ws) : goodWord w = true := (List.mem_filter.mp h).2
theorem xa_m1 {w : Cond} (i : Nat) (h : tables_1_1[i]? = some w) (hg : goodWord w = true) : w ∈ xa_ws := by
  have h1 : w ∈ tables_1_1 := List.mem_of_getElem? h
  have h2 : w ∈ tables_1 := List.mem_append_left _ (h1)
  exact List.mem_filter.mpr ⟨List.mem_append_right _ h2, hg⟩
theorem xa_m2 {w : Cond} (i : Nat) (h : tables_1_2[i]? = some w) (hg : goodWord w = true) : w ∈ xa_ws := by
  have h1 : w ∈ tables_1_2 := List.mem_of_getElem? h
  have h2 : w ∈ tables_1 := List.mem_append_right _ (List.mem_append_left _ (h1))
  exact List.mem_filter.mpr ⟨List.mem_append_right _ h2, hg⟩
theorem xa_m3 {w : Cond} (i : Nat) (h : tables_1_3[i]? = some w) (hg : goodWord w = true) : w ∈ xa_ws := by
  have h1 : w ∈ tables_1_3 := List.mem_of_getElem? h
  have h2 : w ∈ tables_1 := List.mem_append_right _ (List.mem_append_right _ (List.mem_append_left _ (h1)))
  exact List.mem_filter.mpr ⟨List.mem_append_right _ h2, hg⟩
theorem xa_m4 {w : Cond} (i : Nat) (h : tables_1_4[i]? = some w) (hg : goodWord w = true) : w ∈ xa_ws := by
  have h1 : w ∈ tables_1_4 := List.mem_of_getElem? h
  have h2 : w ∈ tables_1 := List.mem_append_right _ (List.mem_append_right _ (List.mem_append_right _ (List.mem_append_left _ (h1))))
  exact List.mem_filter.mpr ⟨List.mem_append_right _ h2, hg⟩
theorem xa_m5 {w : Cond} (i : Nat) (h : tables_1_5[i]? = some w) (hg : goodWord w = true) : w ∈ xa_ws := by
  have h1 : w ∈ tables_1_5 := List.mem_of_getElem? h
  have h2 : w ∈ tables_1 := List.mem_append_right _ (List.mem_append_right _ (List.mem_append_right _ (List.mem_append_right _ (h1))))
  exact List.mem_filter.mpr ⟨List.mem_append_right _ h2, hg⟩
theorem xa_ms {w : Cond} (i : Nat) (h : (k2_sels lw_privs)[i]? = some w) (hg : goodWord w = true) : w ∈ xa_ws := List.mem_filter.mpr ⟨List.mem_append_left _ (List.mem_of_getElem? h), hg⟩
def TX_SB : u_T := fun k => match k with
  | 0 => ("StoneBoard", "n", "I", true)
  | 1 => ("StoneBoard", "grid", "LStoneBoard$Grid;", true)
  | 2 => ("StoneBoard", "stones", "[I", true)
  | 3 => ("StoneBoard", "chart", "LStoneBoard$Chart;", true)
  | 4 => ("StoneBoard", "trial", "LStoneBoard$Trial;", true)
  | 5 => ("StoneBoard", "history", "LStoneBoard$History;", true)
  | 6 => ("StoneBoard", "life", "LStoneBoard$Life;", true)
  | _ => ("StoneBoard", "firstSide", "I", false)
def ty_SB : Nat → FieldType := fun k => match k with
  | 0 => .int
  | 1 => .object "StoneBoard$Grid"
  | 2 => .array .int
  | 3 => .object "StoneBoard$Chart"
  | 4 => .object "StoneBoard$Trial"
  | 5 => .object "StoneBoard$History"
  | 6 => .object "StoneBoard$Life"
  | _ => .int
def TX_Areas : u_T := fun k => match k with
  | 0 => ("StoneBoard$Areas", "count", "I", false)
  | 1 => ("StoneBoard$Areas", "grid", "LStoneBoard$Grid;", true)
  | 2 => ("StoneBoard$Areas", "areaOf", "[I", true)
  | 3 => ("StoneBoard$Areas", "order", "[I", true)
  | _ => ("StoneBoard$Areas", "start", "[I", true)
def ty_Areas : Nat → FieldType := fun k => match k with
  | 0 => .int
  | 1 => .object "StoneBoard$Grid"
  | 2 => .array .int
  | 3 => .array .int
  | _ => .array .int
def TX_Chart : u_T := fun k => match k with
  | 0 => ("StoneBoard$Chart", "areas", "LStoneBoard$Areas;", true)
  | 1 => ("StoneBoard$Chart", "grid", "LStoneBoard$Grid;", true)
  | 2 => ("StoneBoard$Chart", "stones", "[I", true)
  | 3 => ("StoneBoard$Chart", "breaths", "[I", true)
  | 4 => ("StoneBoard$Chart", "leastBreath", "[I", true)
  | 5 => ("StoneBoard$Chart", "holder", "[I", true)
  | _ => ("StoneBoard$Chart", "countedBy", "[I", true)
def ty_Chart : Nat → FieldType := fun k => match k with
  | 0 => .object "StoneBoard$Areas"
  | 1 => .object "StoneBoard$Grid"
  | 2 => .array .int
  | 3 => .array .int
  | 4 => .array .int
  | 5 => .array .int
  | _ => .array .int
def TX_Grid : u_T := fun k => match k with
  | 0 => ("StoneBoard$Grid", "count", "I", true)
  | _ => ("StoneBoard$Grid", "around", "[I", true)
def ty_Grid : Nat → FieldType := fun k => match k with
  | 0 => .int
  | _ => .array .int
def TX_History : u_T := fun k => match k with
  | 0 => ("StoneBoard$History", "latest", "LStoneBoard$Position;", false)
  | _ => ("StoneBoard$History", "buckets", "[LStoneBoard$Position;", true)
def ty_History : Nat → FieldType := fun k => match k with
  | 0 => .object "StoneBoard$Position"
  | _ => .array (.object "StoneBoard$Position")
def TX_Life : u_T := fun k => match k with
  | 0 => ("StoneBoard$Life", "grid", "LStoneBoard$Grid;", true)
  | 1 => ("StoneBoard$Life", "stones", "[I", true)
  | 2 => ("StoneBoard$Life", "kinds", "[I", true)
  | 3 => ("StoneBoard$Life", "areas", "LStoneBoard$Areas;", true)
  | 4 => ("StoneBoard$Life", "stands", "[Z", true)
  | 5 => ("StoneBoard$Life", "belongsTo", "[I", true)
  | _ => ("StoneBoard$Life", "regionsOfString", "[I", true)
def ty_Life : Nat → FieldType := fun k => match k with
  | 0 => .object "StoneBoard$Grid"
  | 1 => .array .int
  | 2 => .array .int
  | 3 => .object "StoneBoard$Areas"
  | 4 => .array .boolean
  | 5 => .array .int
  | _ => .array .int
def TX_Pos : u_T := fun k => match k with
  | 0 => ("StoneBoard$Position", "before", "LStoneBoard$Position;", true)
  | 1 => ("StoneBoard$Position", "olderAlike", "LStoneBoard$Position;", true)
  | 2 => ("StoneBoard$Position", "board", "[J", true)
  | 3 => ("StoneBoard$Position", "number", "I", true)
  | 4 => ("StoneBoard$Position", "point", "I", true)
  | 5 => ("StoneBoard$Position", "takenBlack", "I", true)
  | _ => ("StoneBoard$Position", "takenWhite", "I", true)
def ty_Pos : Nat → FieldType := fun k => match k with
  | 0 => .object "StoneBoard$Position"
  | 1 => .object "StoneBoard$Position"
  | 2 => .array .long
  | 3 => .int
  | 4 => .int
  | 5 => .int
  | _ => .int
def TX_Trial : u_T := fun k => match k with
  | 0 => ("StoneBoard$Trial", "board", "[J", true)
  | 1 => ("StoneBoard$Trial", "takenOff", "I", false)
  | 2 => ("StoneBoard$Trial", "loser", "I", false)
  | 3 => ("StoneBoard$Trial", "grid", "LStoneBoard$Grid;", true)
  | 4 => ("StoneBoard$Trial", "stones", "[I", true)
  | _ => ("StoneBoard$Trial", "chart", "LStoneBoard$Chart;", true)
def ty_Trial : Nat → FieldType := fun k => match k with
  | 0 => .array .long
  | 1 => .int
  | 2 => .int
  | 3 => .object "StoneBoard$Grid"
  | 4 => .array .int
  | _ => .object "StoneBoard$Chart"
def TX_Ref : u_T := fun k => match k with
  | 0 => ("StoneBoardModel", "code", "I", false)
  | 1 => ("StoneBoardModel", "n", "I", true)
  | 2 => ("StoneBoardModel", "points", "I", true)
  | 3 => ("StoneBoardModel", "board", "[I", true)
  | 4 => ("StoneBoardModel", "trial", "[I", true)
  | 5 => ("StoneBoardModel", "trialTaken", "I", false)
  | 6 => ("StoneBoardModel", "trialOwn", "I", false)
  | 7 => ("StoneBoardModel", "stood", "[B", true)
  | 8 => ("StoneBoardModel", "moves", "[I", true)
  | 9 => ("StoneBoardModel", "tookBlack", "[I", true)
  | 10 => ("StoneBoardModel", "tookWhite", "[I", true)
  | 11 => ("StoneBoardModel", "made", "I", false)
  | 12 => ("StoneBoardModel", "begins", "I", false)
  | 13 => ("StoneBoardModel", "in", "[Z", true)
  | 14 => ("StoneBoardModel", "row", "[I", true)
  | 15 => ("StoneBoardModel", "rowSize", "I", false)
  | 16 => ("StoneBoardModel", "group", "[I", true)
  | 17 => ("StoneBoardModel", "region", "[I", true)
  | 18 => ("StoneBoardModel", "standsGroup", "[Z", true)
  | 19 => ("StoneBoardModel", "standsRegion", "[Z", true)
  | 20 => ("StoneBoardModel", "groups", "I", false)
  | 21 => ("StoneBoardModel", "regions", "I", false)
  | 22 => ("StoneBoardModel", "goes", "[Z", true)
  | _ => ("StoneBoardModel", "falls", "[Z", true)
def ty_Ref : Nat → FieldType := fun k => match k with
  | 0 => .int
  | 1 => .int
  | 2 => .int
  | 3 => .array .int
  | 4 => .array .int
  | 5 => .int
  | 6 => .int
  | 7 => .array .byte
  | 8 => .array .int
  | 9 => .array .int
  | 10 => .array .int
  | 11 => .int
  | 12 => .int
  | 13 => .array .boolean
  | 14 => .array .int
  | 15 => .int
  | 16 => .array .int
  | 17 => .array .int
  | 18 => .array .boolean
  | 19 => .array .boolean
  | 20 => .int
  | 21 => .int
  | 22 => .array .boolean
  | _ => .array .boolean
abbrev xa_cl : List vw_C := [("StoneBoard", TX_SB, 8), ("StoneBoard$Areas", TX_Areas, 5), ("StoneBoard$Chart", TX_Chart, 7), ("StoneBoard$Grid", TX_Grid, 2), ("StoneBoard$History", TX_History, 2), ("StoneBoard$Life", TX_Life, 7), ("StoneBoard$Position", TX_Pos, 7), ("StoneBoard$Trial", TX_Trial, 6), ("StoneBoardModel", TX_Ref, 24)]
def xa_pos : String := "StoneBoard$Position"
def xa_posN : Nat := 6
theorem xa_posC : xa_cl[xa_posN]? = some (xa_pos, TX_Pos, 7) := rfl
def xa_tys (D : va_G) : List (ClassId × FieldType) := [(D.1 100, .int), (D.1 101, .long), (D.1 102, .boolean), (D.1 103, .object xa_pos), (D.1 104, .byte)]
def xa_up : List String := ["java/lang/RuntimeException", "java/lang/Exception"]
theorem xa_up_fit : ∀ n ∈ xa_up, Bundle.fit n = true := by decide +kernel
end
section
/-! The judgement xa_X: the kit's W with its context bundled; the heap is a function of addresses ('h a = some cell'), 'sz' the heap's size. -/
abbrev xa_Mu : Type := MethodName × ByteArray × Nat × Option FieldType × List (Nat × Nat × Nat × Nat)
abbrev xa_H : Type := Nat → Option va_E
abbrev xa_Z : Type := List Frame → Array Value → State → State → Prop
def xa_u (h : xa_H) (a : Nat) (e : va_E) : xa_H := fun q => if q = a then some e else h q
theorem xa_u_eq (h : xa_H) (a : Nat) (e : va_E) : xa_u h a e a = some e := if_pos rfl
theorem xa_u_ne {h : xa_H} {a b : Nat} {e : va_E} {x : Option va_E} (hb : h b = x) (hn : b ≠ a) : xa_u h a e b = x := (if_neg hn).trans hb
def xa_P (D : va_G) (H0 : Heap) (h : xa_H) (sz : Nat) (H : Heap) : Prop :=
  H.size = sz ∧ H0.size ≤ sz ∧ (∀ q : Nat, q < H0.size → H[q]? = H0[q]?) ∧ ∀ (a : Nat) (e : va_E), h a = some e → H0.size ≤ a ∧ va_at D xa_cl (a, e) H
theorem xa_P.one {D : va_G} {H0 : Heap} {h : xa_H} {sz : Nat} {H : Heap} (hP : xa_P D H0 h sz H) {a : Nat} {e : va_E} (ha : h a = some e) : va_P D xa_cl [(a, e)] H := by
  intro k q hk
  have hz : k < 1 := (List.getElem?_eq_some_iff.mp hk).1
  rw [show k = 0 by omega] at hk
  cases hk
  exact (hP.2.2.2 a e ha).2
theorem xa_P.lt {D : va_G} {H0 : Heap} {h : xa_H} {sz : Nat} {H : Heap} (hP : xa_P D H0 h sz H) {a : Nat} {e : va_E} (ha : h a = some e) : a < sz := by
  rw [← hP.1]; exact (hP.2.2.2 a e ha).2.lt
theorem xa_P.set {D : va_G} {H0 : Heap} {h : xa_H} {sz : Nat} {H H1 : Heap} (hP : xa_P D H0 h sz H) {a : Nat} {e0 e : va_E} (ha : h a = some e0) (he : va_at D xa_cl (a, e) H1) (hz : H1.size = H.size) (oq : ∀ q : Nat, q ≠ a → H1[q]? = H[q]?) : xa_P D H0 (xa_u h a e) sz H1 := by
  obtain ⟨h1, h2, h3, h4⟩ := hP
  have ha0 := (h4 a e0 ha).1
  refine ⟨hz.trans h1, h2, fun q hq => (oq q (by omega)).trans (h3 q hq), fun b e' hb => ?_⟩
  unfold xa_u at hb
  by_cases hba : b = a
  · rw [if_pos hba] at hb
    cases hb
    subst hba
    exact ⟨ha0, he⟩
  · rw [if_neg hba] at hb
    exact ⟨(h4 b e' hb).1, (h4 b e' hb).2.kept (oq b hba)⟩
theorem xa_P.push {D : va_G} {H0 : Heap} {h : xa_H} {sz : Nat} {H H1 : Heap} (hP : xa_P D H0 h sz H) {e : va_E} (he : va_at D xa_cl (sz, e) H1) (hz : H1.size = sz + 1) (oq : ∀ q : Nat, q < sz → H1[q]? = H[q]?) : xa_P D H0 (xa_u h sz e) (sz + 1) H1 := by
  have hlt : ∀ {a : Nat} {e : va_E}, h a = some e → a < sz := fun ha => hP.lt ha
  obtain ⟨h1, h2, h3, h4⟩ := hP
  refine ⟨hz, by omega, fun q hq => (oq q (by omega)).trans (h3 q hq), fun b e' hb => ?_⟩
  unfold xa_u at hb
  by_cases hba : b = sz
  · rw [if_pos hba] at hb
    cases hb
    subst hba
    exact ⟨h2, he⟩
  · rw [if_neg hba] at hb
    exact ⟨(h4 b e' hb).1, (h4 b e' hb).2.kept (oq b (hlt hb))⟩
/-- less is known of the heap -/
theorem xa_P.less {D : va_G} {H0 : Heap} {h h' : xa_H} {sz : Nat} {H : Heap} (hP : xa_P D H0 h sz H) (hh : ∀ (a : Nat) (e : va_E), h' a = some e → h a = some e) : xa_P D H0 h' sz H := ⟨hP.1, hP.2.1, hP.2.2.1, fun a e ha => hP.2.2.2 a e (hh a e ha)⟩
/-- a static of Throwable's that lies below the base heap -/
def xa_SF (H0 : Heap) (nm ds : String) (U : State) : Prop := ∃ (c : ClassId) (k : Class) (i : Nat) (f : Field) (a : Nat) (cell : Cell) (v : Value), U.vm.findClass "java/lang/Throwable" = some c ∧ U.fieldFound? "java/lang/Throwable" nm ds = some (c, k, i, f) ∧ f.isStatic = true ∧ k.statics = some a ∧ H0[a]? = some cell ∧ cell.vm.isStatics = true ∧ cell.cls = c ∧ f.slot < cell.slots.size ∧ k.staticTypes[f.slot]? = some f.type ∧ cell.slots[f.slot]? = some v ∧ (v = .null ∨ ∃ t, v = .ref t)
theorem xa_SF.moved {H0 : Heap} {nm ds : String} {u U : State} (hvm : u.vm.Alike U.vm) (h : xa_SF H0 nm ds u) : xa_SF H0 nm ds U := by
  obtain ⟨c, k, i, f, a, cell, v, h1, h2, h3, h4, h5, h6, h7, h8, h9, h10⟩ := h
  obtain ⟨k', hi', he⟩ := State.fieldFound?_setVm hvm h2
  exact ⟨c, k', i, f, a, cell, v, by rw [hvm.findClass]; exact h1, hi', h3, by rw [he]; exact h4, h5, h6, h7, h8, by rw [he]; exact h9, h10⟩
def xa_N (H0 : Heap) (U : State) : Prop := xa_SF H0 "UNASSIGNED_STACK" "[Ljava/lang/StackTraceElement;" U ∧ xa_SF H0 "SUPPRESSED_SENTINEL" "Ljava/util/List;" U ∧ va_Nc "java/lang/IllegalArgumentException" "java/lang/IndexOutOfBoundsException" U ∧ va_Nc "java/lang/IllegalStateException" "java/lang/IndexOutOfBoundsException" U ∧ va_Nc "java/lang/IllegalStateException" "java/lang/IllegalArgumentException" U
theorem xa_N.moved {H0 : Heap} {u U : State} (hvm : u.vm.Alike U.vm) (h : xa_N H0 u) : xa_N H0 U := ⟨h.1.moved hvm, h.2.1.moved hvm, h.2.2.1.moved hvm, h.2.2.2.1.moved hvm, h.2.2.2.2.moved hvm⟩
def xa_C (D : va_G) (H0 : Heap) (μ : xa_Mu) (p : Program) (s : State) (m : MethodId) (args : Array Value) (meth : Method) (c : Code) : Prop :=
  p.tables.exec = Jvm.exec ∧ c.code = μ.2.1 ∧ c.maxLocals = μ.2.2.1 ∧ s.vm.findClass μ.1.cls = some m.cls ∧ (∀ w ∈ xa_ws, w.before args s = true) ∧ va_K D xa_cl (xa_tys D) s ∧ meth.sig.returnType = μ.2.2.2.1 ∧ meth.locks = false ∧ meth.name = μ.1.name ∧ c.exceptionTable.toList.map (fun x => (x.startPc, x.endPc, x.handlerPc, x.catchType)) = μ.2.2.2.2 ∧ xa_N H0 s
def xa_X (l : Launch) (D : va_G) (H0 : Heap) (μ : xa_Mu) (R : Room) (Z : xa_Z) (k n : Nat) (h : xa_H) (sz pc : Nat) (ls : List (Nat × Value)) (st : List Value) : Prop :=
  ∀ (p : Program) (e : Env) (s : State) (m : MethodId) (args : Array Value) (below : List Frame) (meth : Method) (c : Code) (H : Heap) (locs : List Loc) (la : Array Slot),
    xa_C D H0 μ p s m args meth c → xa_P D H0 h sz H → (∀ q ∈ locs, H0.size ≤ q.base) → lv_has la μ.2.2.1 ls → W p l e R s m args below meth c H locs k n (Z below args s) (F0 m pc la st)
/-- locals: reading, storing -/
def xa_lk : List (Nat × Value) → Nat → Option Value
  | [], _ => none
  | (j, v) :: r, i => match Nat.beq j i with
    | true => some v
    | false => xa_lk r i
def xa_st (i : Nat) (v : Value) : List (Nat × Value) → List (Nat × Value)
  | [] => [(i, v)]
  | (j, w) :: r => match Nat.beq j i with
    | true => xa_st i v r
    | false => (j, w) :: xa_st i v r
def xa_okb (i : Nat) : List (Nat × Value) → Bool
  | [] => true
  | (j, w) :: r => match Nat.beq (j + 1) i with
    | true => Nat.beq w.category 1 && xa_okb i r
    | false => xa_okb i r
theorem xa_lk_mem {ls : List (Nat × Value)} {i : Nat} {v : Value} (h : xa_lk ls i = some v) : (i, v) ∈ ls := by
  induction ls with
  | nil => cases h
  | cons q r ih =>
    obtain ⟨j, w⟩ := q
    unfold xa_lk at h
    cases hb : Nat.beq j i with
    | true =>
      rw [hb] at h
      cases h
      cases Nat.eq_of_beq_eq_true hb
      exact List.mem_cons_self
    | false =>
      rw [hb] at h
      exact List.mem_cons_of_mem _ (ih h)
theorem xa_lk_at {la : Array Slot} {nL : Nat} {ls : List (Nat × Value)} {i : Nat} {v : Value} (hl : lv_has la nL ls) (h : xa_lk ls i = some v) : la[i]? = some (.val v) := hl.2.2 (i, v) (xa_lk_mem h)
theorem xa_st_mem {ls : List (Nat × Value)} {i : Nat} {v : Value} {q : Nat × Value} (h : q ∈ xa_st i v ls) : q = (i, v) ∨ (q ∈ ls ∧ q.1 ≠ i) := by
  induction ls with
  | nil =>
    unfold xa_st at h
    exact Or.inl (List.mem_singleton.mp h)
  | cons x r ih =>
    obtain ⟨j, w⟩ := x
    unfold xa_st at h
    cases hb : Nat.beq j i with
    | true =>
      rw [hb] at h
      rcases ih h with h | ⟨h1, h2⟩
      · exact Or.inl h
      · exact Or.inr ⟨List.mem_cons_of_mem _ h1, h2⟩
    | false =>
      rw [hb] at h
      rcases List.mem_cons.mp h with h | h
      · subst h
        exact Or.inr ⟨List.mem_cons_self, fun e => by have e' : j = i := e; rw [e', Nat.beq_refl] at hb; cases hb⟩
      · rcases ih h with h | ⟨h1, h2⟩
        · exact Or.inl h
        · exact Or.inr ⟨List.mem_cons_of_mem _ h1, h2⟩
theorem xa_okb_mem {ls : List (Nat × Value)} {i : Nat} (h : xa_okb i ls = true) : ∀ q ∈ ls, q.1 + 1 = i → q.2.category = 1 := by
  induction ls with
  | nil => intro q hq; cases hq
  | cons x r ih =>
    obtain ⟨j, w⟩ := x
    intro q hq hi
    unfold xa_okb at h
    cases hb : Nat.beq (j + 1) i with
    | true =>
      rw [hb] at h
      simp only [Bool.and_eq_true] at h
      rcases List.mem_cons.mp hq with hq | hq
      · subst hq
        exact Nat.eq_of_beq_eq_true h.1
      · exact ih h.2 q hq hi
    | false =>
      rw [hb] at h
      rcases List.mem_cons.mp hq with hq | hq
      · subst hq
        have hi' : j + 1 = i := hi
        rw [hi', Nat.beq_refl] at hb
        cases hb
      · exact ih h q hq hi
theorem xa_st_has {la' : Array Slot} {nL : Nat} {ls : List (Nat × Value)} {i : Nat} {v : Value} (hok : xa_okb i ls = true) (h : lv_has la' nL ((i, v) :: ls.filter (fun q => !(q.1 == i) && !(q.1 + 1 == i && q.2.category == 2)))) : lv_has la' nL (xa_st i v ls) := by
  refine ⟨h.1, h.2.1, fun q hq => h.2.2 q ?_⟩
  rcases xa_st_mem hq with hq | ⟨hq, hne⟩
  · subst hq
    exact List.mem_cons_self
  · refine List.mem_cons_of_mem _ (List.mem_filter.mpr ⟨hq, ?_⟩)
    have hc := xa_okb_mem hok q hq
    by_cases hi : q.1 + 1 = i
    · simp [hne, hc hi]
    · simp [hne, hi]
/-- the listed locals are among these -/
def xa_sub (ls : List (Nat × Value)) : List (Nat × Value) → Prop
  | [] => True
  | (i, v) :: r => xa_lk ls i = some v ∧ xa_sub ls r
theorem xa_sub_mem {ls ls' : List (Nat × Value)} (h : xa_sub ls ls') : ∀ q ∈ ls', q ∈ ls := by
  induction ls' with
  | nil => intro q hq; cases hq
  | cons x r ih =>
    obtain ⟨i, v⟩ := x
    intro q hq
    rcases List.mem_cons.mp hq with hq | hq
    · subst hq
      exact xa_lk_mem h.1
    · exact ih h.2 q hq
theorem xa_cat_rf (r : Option Nat) : (va_rf r).category = 1 := by cases r <;> rfl
section XA
variable {l : Launch} {D : va_G} {H0 : Heap} {μ : xa_Mu} {R : Room} {Z : xa_Z} {k n : Nat} {h : xa_H} {sz pc : Nat} {ls : List (Nat × Value)} {st : List Value}
theorem xa_ls {ls' : List (Nat × Value)} (hs : xa_sub ls ls') (kk : xa_X l D H0 μ R Z k n h sz pc ls' st) : xa_X l D H0 μ R Z k n h sz pc ls st := fun p e s m args below meth c H locs la C hP hL hl => kk p e s m args below meth c H locs la C hP hL ⟨hl.1, hl.2.1, fun q hq => hl.2.2 q (xa_sub_mem hs q hq)⟩
theorem xa_less {h' : xa_H} (hh : ∀ (a : Nat) (e : va_E), h' a = some e → h a = some e) (kk : xa_X l D H0 μ R Z k n h' sz pc ls st) : xa_X l D H0 μ R Z k n h sz pc ls st := fun p e s m args below meth c H locs la C hP hL hl => kk p e s m args below meth c H locs la C (hP.less hh) hL hl
theorem xa_widen {k' n' : Nat} (h1 : k ≤ k') (h2 : n ≤ n') (kk : xa_X l D H0 μ R Z k' n' h sz pc ls st) : xa_X l D H0 μ R Z k n h sz pc ls st := fun p e s m args below meth c H locs la C hP hL hl => W.widen h1 h2 (kk p e s m args below meth c H locs la C hP hL hl)
theorem xa_pre (kk : H0.size ≤ sz → (∀ (a : Nat) (e : va_E), h a = some e → H0.size ≤ a ∧ a < sz) → xa_X l D H0 μ R Z k n h sz pc ls st) : xa_X l D H0 μ R Z k n h sz pc ls st := fun p e s m args below meth c H locs la C hP hL hl => kk hP.2.1 (fun a e ha => ⟨(hP.2.2.2 a e ha).1, hP.lt ha⟩) p e s m args below meth c H locs la C hP hL hl
theorem xa_iconst {q : Int} {v : Int32} (hd : decode μ.2.1 pc = .ok (.iconst q, 1)) (hv : Int32.ofInt q = v) (kk : xa_X l D H0 μ R Z k n h sz (pc + 1) ls (.int v :: st)) : xa_X l D H0 μ R Z k n h sz pc ls (st) := by
  intro p e s m args below meth c H locs la C hP hL hl
  exact lv_iconst C.1 C.2.1 hd hv (kk p e s m args below meth c H locs la C hP hL hl)
theorem xa_bipush {q : Int} {v : Int32} (hd : decode μ.2.1 pc = .ok (.bipush q, 2)) (hv : (Int8.ofInt q).toInt32 = v) (kk : xa_X l D H0 μ R Z k n h sz (pc + 2) ls (.int v :: st)) : xa_X l D H0 μ R Z k n h sz pc ls (st) := by
  intro p e s m args below meth c H locs la C hP hL hl
  exact lv_bipush C.1 C.2.1 hd hv (kk p e s m args below meth c H locs la C hP hL hl)
theorem xa_sipush {q : Int} {v : Int32} (hd : decode μ.2.1 pc = .ok (.sipush q, 3)) (hv : (Int16.ofInt q).toInt32 = v) (kk : xa_X l D H0 μ R Z k n h sz (pc + 3) ls (.int v :: st)) : xa_X l D H0 μ R Z k n h sz pc ls (st) := by
  intro p e s m args below meth c H locs la C hP hL hl
  exact lv_sipush C.1 C.2.1 hd hv (kk p e s m args below meth c H locs la C hP hL hl)
theorem xa_lconst {q : Fin 2} {v : Int64} (hd : decode μ.2.1 pc = .ok (.lconst q, 1)) (hv : Int64.ofNat (q : Nat) = v) (kk : xa_X l D H0 μ R Z k n h sz (pc + 1) ls (.long v :: st)) : xa_X l D H0 μ R Z k n h sz pc ls (st) := by
  intro p e s m args below meth c H locs la C hP hL hl
  exact lv_lconst C.1 C.2.1 hd hv (kk p e s m args below meth c H locs la C hP hL hl)
theorem xa_null  (hd : decode μ.2.1 pc = .ok (.aconst_null, 1))  (kk : xa_X l D H0 μ R Z k n h sz (pc + 1) ls (.null :: st)) : xa_X l D H0 μ R Z k n h sz pc ls (st) := by
  intro p e s m args below meth c H locs la C hP hL hl
  exact lv_null C.1 C.2.1 hd  (kk p e s m args below meth c H locs la C hP hL hl)
theorem xa_iload_n {q : Fin 4} {x : Int32} (hd : decode μ.2.1 pc = .ok (.iload_n q, 1)) (hx : xa_lk ls (q : Nat) = some (.int x)) (kk : xa_X l D H0 μ R Z k n h sz (pc + 1) ls (.int x :: st)) : xa_X l D H0 μ R Z k n h sz pc ls (st) := by
  intro p e s m args below meth c H locs la C hP hL hl
  exact lv_iload_n C.1 C.2.1 hd rfl (xa_lk_at hl hx) (kk p e s m args below meth c H locs la C hP hL hl)
theorem xa_iload {q : Nat} {x : Int32} (hd : decode μ.2.1 pc = .ok (.iload q, 2)) (hx : xa_lk ls q = some (.int x)) (kk : xa_X l D H0 μ R Z k n h sz (pc + 2) ls (.int x :: st)) : xa_X l D H0 μ R Z k n h sz pc ls (st) := by
  intro p e s m args below meth c H locs la C hP hL hl
  exact lv_iload C.1 C.2.1 hd (xa_lk_at hl hx) (kk p e s m args below meth c H locs la C hP hL hl)
theorem xa_lload_n {q : Fin 4} {x : Int64} (hd : decode μ.2.1 pc = .ok (.lload_n q, 1)) (hx : xa_lk ls (q : Nat) = some (.long x)) (kk : xa_X l D H0 μ R Z k n h sz (pc + 1) ls (.long x :: st)) : xa_X l D H0 μ R Z k n h sz pc ls (st) := by
  intro p e s m args below meth c H locs la C hP hL hl
  exact lv_lload_n C.1 C.2.1 hd rfl (xa_lk_at hl hx) (kk p e s m args below meth c H locs la C hP hL hl)
theorem xa_lload {q : Nat} {x : Int64} (hd : decode μ.2.1 pc = .ok (.lload q, 2)) (hx : xa_lk ls q = some (.long x)) (kk : xa_X l D H0 μ R Z k n h sz (pc + 2) ls (.long x :: st)) : xa_X l D H0 μ R Z k n h sz pc ls (st) := by
  intro p e s m args below meth c H locs la C hP hL hl
  exact lv_lload C.1 C.2.1 hd (xa_lk_at hl hx) (kk p e s m args below meth c H locs la C hP hL hl)
theorem xa_aload_n {q : Fin 4} {x : Nat} (hd : decode μ.2.1 pc = .ok (.aload_n q, 1)) (hx : xa_lk ls (q : Nat) = some (.ref x)) (kk : xa_X l D H0 μ R Z k n h sz (pc + 1) ls (.ref x :: st)) : xa_X l D H0 μ R Z k n h sz pc ls (st) := by
  intro p e s m args below meth c H locs la C hP hL hl
  exact lv_aload_n C.1 C.2.1 hd rfl (xa_lk_at hl hx) (kk p e s m args below meth c H locs la C hP hL hl)
theorem xa_aload {q : Nat} {x : Nat} (hd : decode μ.2.1 pc = .ok (.aload q, 2)) (hx : xa_lk ls q = some (.ref x)) (kk : xa_X l D H0 μ R Z k n h sz (pc + 2) ls (.ref x :: st)) : xa_X l D H0 μ R Z k n h sz pc ls (st) := by
  intro p e s m args below meth c H locs la C hP hL hl
  exact lv_aload C.1 C.2.1 hd (xa_lk_at hl hx) (kk p e s m args below meth c H locs la C hP hL hl)
theorem xa_aload_nN {q : Fin 4} (hd : decode μ.2.1 pc = .ok (.aload_n q, 1)) (hx : xa_lk ls (q : Nat) = some .null) (kk : xa_X l D H0 μ R Z k n h sz (pc + 1) ls (.null :: st)) : xa_X l D H0 μ R Z k n h sz pc ls (st) := by
  intro p e s m args below meth c H locs la C hP hL hl
  exact lv_aload_nN C.1 C.2.1 hd rfl (xa_lk_at hl hx) (kk p e s m args below meth c H locs la C hP hL hl)
theorem xa_aloadN {q : Nat} (hd : decode μ.2.1 pc = .ok (.aload q, 2)) (hx : xa_lk ls q = some .null) (kk : xa_X l D H0 μ R Z k n h sz (pc + 2) ls (.null :: st)) : xa_X l D H0 μ R Z k n h sz pc ls (st) := by
  intro p e s m args below meth c H locs la C hP hL hl
  exact lv_aloadN C.1 C.2.1 hd (xa_lk_at hl hx) (kk p e s m args below meth c H locs la C hP hL hl)
theorem xa_aload_nQ {q : Fin 4} {r : Option Nat} (hd : decode μ.2.1 pc = .ok (.aload_n q, 1)) (hx : xa_lk ls (q : Nat) = some (va_rf r)) (kk : xa_X l D H0 μ R Z k n h sz (pc + 1) ls (va_rf r :: st)) : xa_X l D H0 μ R Z k n h sz pc ls st := by
  cases r with
  | none => exact xa_aload_nN hd hx kk
  | some a => exact xa_aload_n hd hx kk
theorem xa_aloadQ {q : Nat} {r : Option Nat} (hd : decode μ.2.1 pc = .ok (.aload q, 2)) (hx : xa_lk ls q = some (va_rf r)) (kk : xa_X l D H0 μ R Z k n h sz (pc + 2) ls (va_rf r :: st)) : xa_X l D H0 μ R Z k n h sz pc ls st := by
  cases r with
  | none => exact xa_aloadN hd hx kk
  | some a => exact xa_aload hd hx kk
theorem xa_istore_n {q : Fin 4} {x : Int32} (hd : decode μ.2.1 pc = .ok (.istore_n q, 1)) (hn : Nat.blt (q : Nat) μ.2.2.1 = true) (hok : xa_okb (q : Nat) ls = true) (kk : xa_X l D H0 μ R Z k n h sz (pc + 1) (xa_st (q : Nat) (.int x) ls) st) : xa_X l D H0 μ R Z k n h sz pc ls (.int x :: st) := by
  intro p e s m args below meth c H locs la C hP hL hl
  exact lv_istore_n C.1 C.2.1 hd rfl hl (Nat.le_of_ble_eq_true hn) rfl (fun la' hl' => kk p e s m args below meth c H locs la' C hP hL (xa_st_has hok hl'))
theorem xa_istore {q : Nat} {x : Int32} (hd : decode μ.2.1 pc = .ok (.istore q, 2)) (hn : Nat.blt q μ.2.2.1 = true) (hok : xa_okb q ls = true) (kk : xa_X l D H0 μ R Z k n h sz (pc + 2) (xa_st q (.int x) ls) st) : xa_X l D H0 μ R Z k n h sz pc ls (.int x :: st) := by
  intro p e s m args below meth c H locs la C hP hL hl
  exact lv_istore C.1 C.2.1 hd hl (Nat.le_of_ble_eq_true hn) rfl (fun la' hl' => kk p e s m args below meth c H locs la' C hP hL (xa_st_has hok hl'))
theorem xa_astore_n {q : Fin 4} {x : Nat} (hd : decode μ.2.1 pc = .ok (.astore_n q, 1)) (hn : Nat.blt (q : Nat) μ.2.2.1 = true) (hok : xa_okb (q : Nat) ls = true) (kk : xa_X l D H0 μ R Z k n h sz (pc + 1) (xa_st (q : Nat) (.ref x) ls) st) : xa_X l D H0 μ R Z k n h sz pc ls (.ref x :: st) := by
  intro p e s m args below meth c H locs la C hP hL hl
  exact lv_astore_n C.1 C.2.1 hd rfl hl (Nat.le_of_ble_eq_true hn) rfl (fun la' hl' => kk p e s m args below meth c H locs la' C hP hL (xa_st_has hok hl'))
theorem xa_astore {q : Nat} {x : Nat} (hd : decode μ.2.1 pc = .ok (.astore q, 2)) (hn : Nat.blt q μ.2.2.1 = true) (hok : xa_okb q ls = true) (kk : xa_X l D H0 μ R Z k n h sz (pc + 2) (xa_st q (.ref x) ls) st) : xa_X l D H0 μ R Z k n h sz pc ls (.ref x :: st) := by
  intro p e s m args below meth c H locs la C hP hL hl
  exact lv_astore C.1 C.2.1 hd hl (Nat.le_of_ble_eq_true hn) rfl (fun la' hl' => kk p e s m args below meth c H locs la' C hP hL (xa_st_has hok hl'))
theorem xa_astore_nN {q : Fin 4} (hd : decode μ.2.1 pc = .ok (.astore_n q, 1)) (hn : Nat.blt (q : Nat) μ.2.2.1 = true) (hok : xa_okb (q : Nat) ls = true) (kk : xa_X l D H0 μ R Z k n h sz (pc + 1) (xa_st (q : Nat) .null ls) st) : xa_X l D H0 μ R Z k n h sz pc ls (.null :: st) := by
  intro p e s m args below meth c H locs la C hP hL hl
  exact lv_astore_nN C.1 C.2.1 hd rfl hl (Nat.le_of_ble_eq_true hn) rfl (fun la' hl' => kk p e s m args below meth c H locs la' C hP hL (xa_st_has hok hl'))
theorem xa_astore_nQ {q : Fin 4} {r : Option Nat} (hd : decode μ.2.1 pc = .ok (.astore_n q, 1)) (hn : Nat.blt (q : Nat) μ.2.2.1 = true) (hok : xa_okb (q : Nat) ls = true) (kk : xa_X l D H0 μ R Z k n h sz (pc + 1) (xa_st (q : Nat) (va_rf r) ls) st) : xa_X l D H0 μ R Z k n h sz pc ls (va_rf r :: st) := by
  cases r with
  | none => exact xa_astore_nN hd hn hok kk
  | some a => exact xa_astore_n hd hn hok kk
theorem xa_lstore_n {q : Fin 4} {x : Int64} {ls' : List (Nat × Value)} (hd : decode μ.2.1 pc = .ok (.lstore_n q, 1)) (hn : Nat.blt ((q : Nat) + 1) μ.2.2.1 = true) (hl' : ((q : Nat), Value.long x) :: ls.filter (fun y => !(y.1 == (q : Nat)) && (!(y.1 == (q : Nat) + 1) && !(y.1 + 1 == (q : Nat) && y.2.category == 2))) = ls') (kk : xa_X l D H0 μ R Z k n h sz (pc + 1) ls' st) : xa_X l D H0 μ R Z k n h sz pc ls (.long x :: st) := by
  intro p e s m args below meth c H locs la C hP hL hl
  exact lv_lstore_n C.1 C.2.1 hd rfl hl (Nat.le_of_ble_eq_true hn) hl' (fun la' hl2 => kk p e s m args below meth c H locs la' C hP hL hl2)
theorem xa_astoreN {q : Nat} (hd : decode μ.2.1 pc = .ok (.astore q, 2)) (hn : Nat.blt q μ.2.2.1 = true) (hok : xa_okb q ls = true) (kk : xa_X l D H0 μ R Z k n h sz (pc + 2) (xa_st q .null ls) st) : xa_X l D H0 μ R Z k n h sz pc ls (.null :: st) := by
  intro p e s m args below meth c H locs la C hP hL hl
  exact lv_astoreN C.1 C.2.1 hd hl (Nat.le_of_ble_eq_true hn) rfl (fun la' hl' => kk p e s m args below meth c H locs la' C hP hL (xa_st_has hok hl'))
theorem xa_astoreQ {q : Nat} {r : Option Nat} (hd : decode μ.2.1 pc = .ok (.astore q, 2)) (hn : Nat.blt q μ.2.2.1 = true) (hok : xa_okb q ls = true) (kk : xa_X l D H0 μ R Z k n h sz (pc + 2) (xa_st q (va_rf r) ls) st) : xa_X l D H0 μ R Z k n h sz pc ls (va_rf r :: st) := by
  cases r with
  | none => exact xa_astoreN hd hn hok kk
  | some a => exact xa_astore hd hn hok kk
theorem xa_lstore {q : Nat} {x : Int64} {ls' : List (Nat × Value)} (hd : decode μ.2.1 pc = .ok (.lstore q, 2)) (hn : Nat.blt (q + 1) μ.2.2.1 = true) (hl' : (q, Value.long x) :: ls.filter (fun y => !(y.1 == q) && (!(y.1 == q + 1) && !(y.1 + 1 == q && y.2.category == 2))) = ls') (kk : xa_X l D H0 μ R Z k n h sz (pc + 2) ls' st) : xa_X l D H0 μ R Z k n h sz pc ls (.long x :: st) := by
  intro p e s m args below meth c H locs la C hP hL hl
  exact lv_lstore C.1 C.2.1 hd hl (Nat.le_of_ble_eq_true hn) hl' (fun la' hl2 => kk p e s m args below meth c H locs la' C hP hL hl2)
theorem xa_iinc {q : Nat} {d : Int} {x v : Int32} (hd : decode μ.2.1 pc = .ok (.iinc q d, 3)) (hx : xa_lk ls q = some (.int x)) (hv : x + Int32.ofInt d = v) (hn : Nat.blt q μ.2.2.1 = true) (hok : xa_okb q ls = true) (kk : xa_X l D H0 μ R Z k n h sz (pc + 3) (xa_st q (.int v) ls) st) : xa_X l D H0 μ R Z k n h sz pc ls st := by
  intro p e s m args below meth c H locs la C hP hL hl
  obtain ⟨i, hi⟩ := List.getElem?_of_mem (xa_lk_mem hx)
  exact lv_iinc C.1 C.2.1 hd hl hi hv (Nat.le_of_ble_eq_true hn) rfl (fun la' hl' => kk p e s m args below meth c H locs la' C hP hL (xa_st_has hok hl'))
theorem xa_iadd {x y : Int32} (hd : decode μ.2.1 pc = .ok (.iadd, 1))  (kk : xa_X l D H0 μ R Z k n h sz (pc + 1) ls (.int (x + y) :: st)) : xa_X l D H0 μ R Z k n h sz pc ls (.int y :: .int x :: st) := by
  intro p e s m args below meth c H locs la C hP hL hl
  exact lv_iadd C.1 C.2.1 hd  (kk p e s m args below meth c H locs la C hP hL hl)
theorem xa_isub {x y : Int32} (hd : decode μ.2.1 pc = .ok (.isub, 1))  (kk : xa_X l D H0 μ R Z k n h sz (pc + 1) ls (.int (x - y) :: st)) : xa_X l D H0 μ R Z k n h sz pc ls (.int y :: .int x :: st) := by
  intro p e s m args below meth c H locs la C hP hL hl
  exact lv_isub C.1 C.2.1 hd  (kk p e s m args below meth c H locs la C hP hL hl)
theorem xa_imul {x y : Int32} (hd : decode μ.2.1 pc = .ok (.imul, 1))  (kk : xa_X l D H0 μ R Z k n h sz (pc + 1) ls (.int (x * y) :: st)) : xa_X l D H0 μ R Z k n h sz pc ls (.int y :: .int x :: st) := by
  intro p e s m args below meth c H locs la C hP hL hl
  exact lv_imul C.1 C.2.1 hd  (kk p e s m args below meth c H locs la C hP hL hl)
theorem xa_iand {x y : Int32} (hd : decode μ.2.1 pc = .ok (.iand, 1))  (kk : xa_X l D H0 μ R Z k n h sz (pc + 1) ls (.int (x &&& y) :: st)) : xa_X l D H0 μ R Z k n h sz pc ls (.int y :: .int x :: st) := by
  intro p e s m args below meth c H locs la C hP hL hl
  exact lv_iand C.1 C.2.1 hd  (kk p e s m args below meth c H locs la C hP hL hl)
theorem xa_ior {x y : Int32} (hd : decode μ.2.1 pc = .ok (.ior, 1))  (kk : xa_X l D H0 μ R Z k n h sz (pc + 1) ls (.int (x ||| y) :: st)) : xa_X l D H0 μ R Z k n h sz pc ls (.int y :: .int x :: st) := by
  intro p e s m args below meth c H locs la C hP hL hl
  exact lv_ior C.1 C.2.1 hd  (kk p e s m args below meth c H locs la C hP hL hl)
theorem xa_ixor {x y : Int32} (hd : decode μ.2.1 pc = .ok (.ixor, 1))  (kk : xa_X l D H0 μ R Z k n h sz (pc + 1) ls (.int (x ^^^ y) :: st)) : xa_X l D H0 μ R Z k n h sz pc ls (.int y :: .int x :: st) := by
  intro p e s m args below meth c H locs la C hP hL hl
  exact lv_ixor C.1 C.2.1 hd  (kk p e s m args below meth c H locs la C hP hL hl)
theorem xa_idiv {x y : Int32} (hd : decode μ.2.1 pc = .ok (.idiv, 1)) (hne : ¬ y = 0) (kk : xa_X l D H0 μ R Z k n h sz (pc + 1) ls (.int (x / y) :: st)) : xa_X l D H0 μ R Z k n h sz pc ls (.int y :: .int x :: st) := by
  intro p e s m args below meth c H locs la C hP hL hl
  exact lv_idiv C.1 C.2.1 hd hne (kk p e s m args below meth c H locs la C hP hL hl)
theorem xa_irem {x y : Int32} (hd : decode μ.2.1 pc = .ok (.irem, 1)) (hne : ¬ y = 0) (kk : xa_X l D H0 μ R Z k n h sz (pc + 1) ls (.int (x - x / y * y) :: st)) : xa_X l D H0 μ R Z k n h sz pc ls (.int y :: .int x :: st) := by
  intro p e s m args below meth c H locs la C hP hL hl
  exact lv_irem C.1 C.2.1 hd hne (kk p e s m args below meth c H locs la C hP hL hl)
theorem xa_ishl {x y : Int32} (hd : decode μ.2.1 pc = .ok (.ishl, 1))  (kk : xa_X l D H0 μ R Z k n h sz (pc + 1) ls (.int (x <<< (y &&& 31)) :: st)) : xa_X l D H0 μ R Z k n h sz pc ls (.int y :: .int x :: st) := by
  intro p e s m args below meth c H locs la C hP hL hl
  exact lv_ishl C.1 C.2.1 hd  (kk p e s m args below meth c H locs la C hP hL hl)
theorem xa_ladd {x y : Int64} (hd : decode μ.2.1 pc = .ok (.ladd, 1))  (kk : xa_X l D H0 μ R Z k n h sz (pc + 1) ls (.long (x + y) :: st)) : xa_X l D H0 μ R Z k n h sz pc ls (.long y :: .long x :: st) := by
  intro p e s m args below meth c H locs la C hP hL hl
  exact lv_ladd C.1 C.2.1 hd  (kk p e s m args below meth c H locs la C hP hL hl)
theorem xa_lmul {x y : Int64} (hd : decode μ.2.1 pc = .ok (.lmul, 1))  (kk : xa_X l D H0 μ R Z k n h sz (pc + 1) ls (.long (x * y) :: st)) : xa_X l D H0 μ R Z k n h sz pc ls (.long y :: .long x :: st) := by
  intro p e s m args below meth c H locs la C hP hL hl
  exact lv_lmul C.1 C.2.1 hd  (kk p e s m args below meth c H locs la C hP hL hl)
theorem xa_land {x y : Int64} (hd : decode μ.2.1 pc = .ok (.land, 1))  (kk : xa_X l D H0 μ R Z k n h sz (pc + 1) ls (.long (x &&& y) :: st)) : xa_X l D H0 μ R Z k n h sz pc ls (.long y :: .long x :: st) := by
  intro p e s m args below meth c H locs la C hP hL hl
  exact lv_land C.1 C.2.1 hd  (kk p e s m args below meth c H locs la C hP hL hl)
theorem xa_lor {x y : Int64} (hd : decode μ.2.1 pc = .ok (.lor, 1))  (kk : xa_X l D H0 μ R Z k n h sz (pc + 1) ls (.long (x ||| y) :: st)) : xa_X l D H0 μ R Z k n h sz pc ls (.long y :: .long x :: st) := by
  intro p e s m args below meth c H locs la C hP hL hl
  exact lv_lor C.1 C.2.1 hd  (kk p e s m args below meth c H locs la C hP hL hl)
theorem xa_lxor {x y : Int64} (hd : decode μ.2.1 pc = .ok (.lxor, 1))  (kk : xa_X l D H0 μ R Z k n h sz (pc + 1) ls (.long (x ^^^ y) :: st)) : xa_X l D H0 μ R Z k n h sz pc ls (.long y :: .long x :: st) := by
  intro p e s m args below meth c H locs la C hP hL hl
  exact lv_lxor C.1 C.2.1 hd  (kk p e s m args below meth c H locs la C hP hL hl)
theorem xa_lushr {x v : Int64} {y : Int32} (hd : decode μ.2.1 pc = .ok (.lushr, 1)) (hv : (x.toUInt64 >>> (y.toInt64.toUInt64 &&& Int64.toUInt64 63)).toInt64 = v) (kk : xa_X l D H0 μ R Z k n h sz (pc + 1) ls (.long v :: st)) : xa_X l D H0 μ R Z k n h sz pc ls (.int y :: .long x :: st) := by
  intro p e s m args below meth c H locs la C hP hL hl
  exact lv_lushr C.1 C.2.1 hd hv (kk p e s m args below meth c H locs la C hP hL hl)
theorem xa_lshl {x v : Int64} {y : Int32} (hd : decode μ.2.1 pc = .ok (.lshl, 1)) (hv : x <<< (y.toInt64 &&& 63) = v) (kk : xa_X l D H0 μ R Z k n h sz (pc + 1) ls (.long v :: st)) : xa_X l D H0 μ R Z k n h sz pc ls (.int y :: .long x :: st) := by
  intro p e s m args below meth c H locs la C hP hL hl
  exact lv_lshl C.1 C.2.1 hd hv (kk p e s m args below meth c H locs la C hP hL hl)
theorem xa_i2l {x : Int32} {v : Int64} (hd : decode μ.2.1 pc = .ok (.i2l, 1)) (hv : x.toInt64 = v) (kk : xa_X l D H0 μ R Z k n h sz (pc + 1) ls (.long v :: st)) : xa_X l D H0 μ R Z k n h sz pc ls (.int x :: st) := by
  intro p e s m args below meth c H locs la C hP hL hl
  exact lv_i2l C.1 C.2.1 hd hv (kk p e s m args below meth c H locs la C hP hL hl)
theorem xa_l2i {x : Int64} {v : Int32} (hd : decode μ.2.1 pc = .ok (.l2i, 1)) (hv : x.toInt32 = v) (kk : xa_X l D H0 μ R Z k n h sz (pc + 1) ls (.int v :: st)) : xa_X l D H0 μ R Z k n h sz pc ls (.long x :: st) := by
  intro p e s m args below meth c H locs la C hP hL hl
  exact lv_l2i C.1 C.2.1 hd hv (kk p e s m args below meth c H locs la C hP hL hl)
theorem xa_lcmp {x y : Int64} (hd : decode μ.2.1 pc = .ok (.lcmp, 1))  (kk : xa_X l D H0 μ R Z k n h sz (pc + 1) ls (.int (lg_cmp x y) :: st)) : xa_X l D H0 μ R Z k n h sz pc ls (.long y :: .long x :: st) := by
  intro p e s m args below meth c H locs la C hP hL hl
  exact W.lcmp C.1 C.2.1 hd  (kk p e s m args below meth c H locs la C hP hL hl)
theorem xa_dup {x : Value} (hd : decode μ.2.1 pc = .ok (.dup, 1)) (hx : x.category = 1) (kk : xa_X l D H0 μ R Z k n h sz (pc + 1) ls (x :: x :: st)) : xa_X l D H0 μ R Z k n h sz pc ls (x :: st) := by
  intro p e s m args below meth c H locs la C hP hL hl
  exact lv_dup C.1 C.2.1 hd hx (kk p e s m args below meth c H locs la C hP hL hl)
theorem xa_pop {x : Value} (hd : decode μ.2.1 pc = .ok (.pop, 1)) (hx : x.category = 1) (kk : xa_X l D H0 μ R Z k n h sz (pc + 1) ls (st)) : xa_X l D H0 μ R Z k n h sz pc ls (x :: st) := by
  intro p e s m args below meth c H locs la C hP hL hl
  exact lv_pop C.1 C.2.1 hd hx (kk p e s m args below meth c H locs la C hP hL hl)
theorem xa_dup_x1 {x y : Value} (hd : decode μ.2.1 pc = .ok (.dup_x1, 1)) (hx : x.category = 1) (hy : y.category = 1) (kk : xa_X l D H0 μ R Z k n h sz (pc + 1) ls (x :: y :: x :: st)) : xa_X l D H0 μ R Z k n h sz pc ls (x :: y :: st) := by
  intro p e s m args below meth c H locs la C hP hL hl
  exact lv_dup_x1 C.1 C.2.1 hd hx hy (kk p e s m args below meth c H locs la C hP hL hl)
theorem xa_dup_x2 {x y z : Value} (hd : decode μ.2.1 pc = .ok (.dup_x2, 1)) (hx : x.category = 1) (hy : y.category = 1) (hz : z.category = 1) (kk : xa_X l D H0 μ R Z k n h sz (pc + 1) ls (x :: y :: z :: x :: st)) : xa_X l D H0 μ R Z k n h sz pc ls (x :: y :: z :: st) := by
  intro p e s m args below meth c H locs la C hP hL hl
  exact lv_dup_x2 C.1 C.2.1 hd hx hy hz (kk p e s m args below meth c H locs la C hP hL hl)
theorem xa_dup2 {x y : Value} (hd : decode μ.2.1 pc = .ok (.dup2, 1)) (hx : x.category = 1) (hy : y.category = 1) (kk : xa_X l D H0 μ R Z k n h sz (pc + 1) ls (x :: y :: x :: y :: st)) : xa_X l D H0 μ R Z k n h sz pc ls (x :: y :: st) := by
  intro p e s m args below meth c H locs la C hP hL hl
  exact lv_dup2_11 C.1 C.2.1 hd hx hy (kk p e s m args below meth c H locs la C hP hL hl)
theorem xa_dup2L {x : Value} (hd : decode μ.2.1 pc = .ok (.dup2, 1)) (hx : x.category = 2) (kk : xa_X l D H0 μ R Z k n h sz (pc + 1) ls (x :: x :: st)) : xa_X l D H0 μ R Z k n h sz pc ls (x :: st) := by
  intro p e s m args below meth c H locs la C hP hL hl
  exact lv_dup2_2 C.1 C.2.1 hd hx (kk p e s m args below meth c H locs la C hP hL hl)
theorem xa_if_eq {x : Int32} {off : Int} {tgt : Nat} (hd : decode μ.2.1 pc = .ok (.ifCond .eq off, 3)) (ht : (pc : Int) + off = (tgt : Int)) (kt : x = 0 → xa_X l D H0 μ R Z k n h sz tgt ls st) (kf : ¬ x = 0 → xa_X l D H0 μ R Z k n h sz (pc + 3) ls st) : xa_X l D H0 μ R Z k n h sz pc ls (.int x :: st) := by
  intro p e s m args below meth c H locs la C hP hL hl
  exact lv_if_eq C.1 C.2.1 hd ht (fun q => kt q p e s m args below meth c H locs la C hP hL hl) (fun q => kf q p e s m args below meth c H locs la C hP hL hl)
theorem xa_icmp_eq {x y : Int32} {off : Int} {tgt : Nat} (hd : decode μ.2.1 pc = .ok (.if_icmp .eq off, 3)) (ht : (pc : Int) + off = (tgt : Int)) (kt : x = y → xa_X l D H0 μ R Z k n h sz tgt ls st) (kf : ¬ x = y → xa_X l D H0 μ R Z k n h sz (pc + 3) ls st) : xa_X l D H0 μ R Z k n h sz pc ls (.int y :: .int x :: st) := by
  intro p e s m args below meth c H locs la C hP hL hl
  exact lv_icmp_eq C.1 C.2.1 hd ht (fun q => kt q p e s m args below meth c H locs la C hP hL hl) (fun q => kf q p e s m args below meth c H locs la C hP hL hl)
theorem xa_if_ne {x : Int32} {off : Int} {tgt : Nat} (hd : decode μ.2.1 pc = .ok (.ifCond .ne off, 3)) (ht : (pc : Int) + off = (tgt : Int)) (kt : ¬ x = 0 → xa_X l D H0 μ R Z k n h sz tgt ls st) (kf : x = 0 → xa_X l D H0 μ R Z k n h sz (pc + 3) ls st) : xa_X l D H0 μ R Z k n h sz pc ls (.int x :: st) := by
  intro p e s m args below meth c H locs la C hP hL hl
  exact lv_if_ne C.1 C.2.1 hd ht (fun q => kt q p e s m args below meth c H locs la C hP hL hl) (fun q => kf q p e s m args below meth c H locs la C hP hL hl)
theorem xa_icmp_ne {x y : Int32} {off : Int} {tgt : Nat} (hd : decode μ.2.1 pc = .ok (.if_icmp .ne off, 3)) (ht : (pc : Int) + off = (tgt : Int)) (kt : ¬ x = y → xa_X l D H0 μ R Z k n h sz tgt ls st) (kf : x = y → xa_X l D H0 μ R Z k n h sz (pc + 3) ls st) : xa_X l D H0 μ R Z k n h sz pc ls (.int y :: .int x :: st) := by
  intro p e s m args below meth c H locs la C hP hL hl
  exact lv_icmp_ne C.1 C.2.1 hd ht (fun q => kt q p e s m args below meth c H locs la C hP hL hl) (fun q => kf q p e s m args below meth c H locs la C hP hL hl)
theorem xa_if_lt {x : Int32} {off : Int} {tgt : Nat} (hd : decode μ.2.1 pc = .ok (.ifCond .lt off, 3)) (ht : (pc : Int) + off = (tgt : Int)) (kt : x < 0 → xa_X l D H0 μ R Z k n h sz tgt ls st) (kf : ¬ x < 0 → xa_X l D H0 μ R Z k n h sz (pc + 3) ls st) : xa_X l D H0 μ R Z k n h sz pc ls (.int x :: st) := by
  intro p e s m args below meth c H locs la C hP hL hl
  exact lv_if_lt C.1 C.2.1 hd ht (fun q => kt q p e s m args below meth c H locs la C hP hL hl) (fun q => kf q p e s m args below meth c H locs la C hP hL hl)
theorem xa_icmp_lt {x y : Int32} {off : Int} {tgt : Nat} (hd : decode μ.2.1 pc = .ok (.if_icmp .lt off, 3)) (ht : (pc : Int) + off = (tgt : Int)) (kt : x < y → xa_X l D H0 μ R Z k n h sz tgt ls st) (kf : ¬ x < y → xa_X l D H0 μ R Z k n h sz (pc + 3) ls st) : xa_X l D H0 μ R Z k n h sz pc ls (.int y :: .int x :: st) := by
  intro p e s m args below meth c H locs la C hP hL hl
  exact lv_icmp_lt C.1 C.2.1 hd ht (fun q => kt q p e s m args below meth c H locs la C hP hL hl) (fun q => kf q p e s m args below meth c H locs la C hP hL hl)
theorem xa_if_ge {x : Int32} {off : Int} {tgt : Nat} (hd : decode μ.2.1 pc = .ok (.ifCond .ge off, 3)) (ht : (pc : Int) + off = (tgt : Int)) (kt : 0 ≤ x → xa_X l D H0 μ R Z k n h sz tgt ls st) (kf : ¬ 0 ≤ x → xa_X l D H0 μ R Z k n h sz (pc + 3) ls st) : xa_X l D H0 μ R Z k n h sz pc ls (.int x :: st) := by
  intro p e s m args below meth c H locs la C hP hL hl
  exact lv_if_ge C.1 C.2.1 hd ht (fun q => kt q p e s m args below meth c H locs la C hP hL hl) (fun q => kf q p e s m args below meth c H locs la C hP hL hl)
theorem xa_icmp_ge {x y : Int32} {off : Int} {tgt : Nat} (hd : decode μ.2.1 pc = .ok (.if_icmp .ge off, 3)) (ht : (pc : Int) + off = (tgt : Int)) (kt : y ≤ x → xa_X l D H0 μ R Z k n h sz tgt ls st) (kf : ¬ y ≤ x → xa_X l D H0 μ R Z k n h sz (pc + 3) ls st) : xa_X l D H0 μ R Z k n h sz pc ls (.int y :: .int x :: st) := by
  intro p e s m args below meth c H locs la C hP hL hl
  exact lv_icmp_ge C.1 C.2.1 hd ht (fun q => kt q p e s m args below meth c H locs la C hP hL hl) (fun q => kf q p e s m args below meth c H locs la C hP hL hl)
theorem xa_if_gt {x : Int32} {off : Int} {tgt : Nat} (hd : decode μ.2.1 pc = .ok (.ifCond .gt off, 3)) (ht : (pc : Int) + off = (tgt : Int)) (kt : 0 < x → xa_X l D H0 μ R Z k n h sz tgt ls st) (kf : ¬ 0 < x → xa_X l D H0 μ R Z k n h sz (pc + 3) ls st) : xa_X l D H0 μ R Z k n h sz pc ls (.int x :: st) := by
  intro p e s m args below meth c H locs la C hP hL hl
  exact lv_if_gt C.1 C.2.1 hd ht (fun q => kt q p e s m args below meth c H locs la C hP hL hl) (fun q => kf q p e s m args below meth c H locs la C hP hL hl)
theorem xa_icmp_gt {x y : Int32} {off : Int} {tgt : Nat} (hd : decode μ.2.1 pc = .ok (.if_icmp .gt off, 3)) (ht : (pc : Int) + off = (tgt : Int)) (kt : y < x → xa_X l D H0 μ R Z k n h sz tgt ls st) (kf : ¬ y < x → xa_X l D H0 μ R Z k n h sz (pc + 3) ls st) : xa_X l D H0 μ R Z k n h sz pc ls (.int y :: .int x :: st) := by
  intro p e s m args below meth c H locs la C hP hL hl
  exact lv_icmp_gt C.1 C.2.1 hd ht (fun q => kt q p e s m args below meth c H locs la C hP hL hl) (fun q => kf q p e s m args below meth c H locs la C hP hL hl)
theorem xa_if_le {x : Int32} {off : Int} {tgt : Nat} (hd : decode μ.2.1 pc = .ok (.ifCond .le off, 3)) (ht : (pc : Int) + off = (tgt : Int)) (kt : x ≤ 0 → xa_X l D H0 μ R Z k n h sz tgt ls st) (kf : ¬ x ≤ 0 → xa_X l D H0 μ R Z k n h sz (pc + 3) ls st) : xa_X l D H0 μ R Z k n h sz pc ls (.int x :: st) := by
  intro p e s m args below meth c H locs la C hP hL hl
  exact lv_if_le C.1 C.2.1 hd ht (fun q => kt q p e s m args below meth c H locs la C hP hL hl) (fun q => kf q p e s m args below meth c H locs la C hP hL hl)
theorem xa_icmp_le {x y : Int32} {off : Int} {tgt : Nat} (hd : decode μ.2.1 pc = .ok (.if_icmp .le off, 3)) (ht : (pc : Int) + off = (tgt : Int)) (kt : x ≤ y → xa_X l D H0 μ R Z k n h sz tgt ls st) (kf : ¬ x ≤ y → xa_X l D H0 μ R Z k n h sz (pc + 3) ls st) : xa_X l D H0 μ R Z k n h sz pc ls (.int y :: .int x :: st) := by
  intro p e s m args below meth c H locs la C hP hL hl
  exact lv_icmp_le C.1 C.2.1 hd ht (fun q => kt q p e s m args below meth c H locs la C hP hL hl) (fun q => kf q p e s m args below meth c H locs la C hP hL hl)
theorem xa_goto {off : Int} {tgt : Nat} (hd : decode μ.2.1 pc = .ok (.goto off, 3)) (ht : (pc : Int) + off = (tgt : Int)) (kk : xa_X l D H0 μ R Z k n h sz tgt ls st) : xa_X l D H0 μ R Z k n h sz pc ls st := by
  intro p e s m args below meth c H locs la C hP hL hl
  exact lv_goto C.1 C.2.1 hd ht (kk p e s m args below meth c H locs la C hP hL hl)
theorem xa_ifnonnull {a : Nat} {off : Int} {tgt : Nat} (hd : decode μ.2.1 pc = .ok (.ifnonnull off, 3)) (ht : (pc : Int) + off = (tgt : Int)) (kk : xa_X l D H0 μ R Z k n h sz tgt ls st) : xa_X l D H0 μ R Z k n h sz pc ls (.ref a :: st) := by
  intro p e s m args below meth c H locs la C hP hL hl
  exact lv_ifnonnull C.1 C.2.1 hd ht (kk p e s m args below meth c H locs la C hP hL hl)
theorem xa_ifnull {a : Nat} {off : Int} (hd : decode μ.2.1 pc = .ok (.ifnull off, 3)) (kk : xa_X l D H0 μ R Z k n h sz (pc + 3) ls st) : xa_X l D H0 μ R Z k n h sz pc ls (.ref a :: st) := by
  intro p e s m args below meth c H locs la C hP hL hl
  exact lv_ifnull C.1 C.2.1 hd (kk p e s m args below meth c H locs la C hP hL hl)
theorem xa_ifnullN {off : Int} {tgt : Nat} (hd : decode μ.2.1 pc = .ok (.ifnull off, 3)) (ht : (pc : Int) + off = (tgt : Int)) (kk : xa_X l D H0 μ R Z k n h sz tgt ls st) : xa_X l D H0 μ R Z k n h sz pc ls (.null :: st) := by
  intro p e s m args below meth c H locs la C hP hL hl
  exact lv_ifnullN C.1 C.2.1 hd ht (kk p e s m args below meth c H locs la C hP hL hl)
theorem xa_ifnonnullN {off : Int} (hd : decode μ.2.1 pc = .ok (.ifnonnull off, 3)) (kk : xa_X l D H0 μ R Z k n h sz (pc + 3) ls st) : xa_X l D H0 μ R Z k n h sz pc ls (.null :: st) := by
  intro p e s m args below meth c H locs la C hP hL hl
  exact lv_ifnonnullN C.1 C.2.1 hd (kk p e s m args below meth c H locs la C hP hL hl)
theorem xa_ifnullQ {r : Option Nat} {off : Int} {tgt : Nat} (hd : decode μ.2.1 pc = .ok (.ifnull off, 3)) (ht : (pc : Int) + off = (tgt : Int)) (kt : r = none → xa_X l D H0 μ R Z k n h sz tgt ls st) (kf : ∀ a, r = some a → xa_X l D H0 μ R Z k n h sz (pc + 3) ls st) : xa_X l D H0 μ R Z k n h sz pc ls (va_rf r :: st) := by
  cases r with
  | none => exact xa_ifnullN hd ht (kt rfl)
  | some a => exact xa_ifnull hd (kf a rfl)
theorem xa_ifnonnullQ {r : Option Nat} {off : Int} {tgt : Nat} (hd : decode μ.2.1 pc = .ok (.ifnonnull off, 3)) (ht : (pc : Int) + off = (tgt : Int)) (kt : ∀ a, r = some a → xa_X l D H0 μ R Z k n h sz tgt ls st) (kf : r = none → xa_X l D H0 μ R Z k n h sz (pc + 3) ls st) : xa_X l D H0 μ R Z k n h sz pc ls (va_rf r :: st) := by
  cases r with
  | none => exact xa_ifnonnullN hd (kf rfl)
  | some a => exact xa_ifnonnull hd ht (kt a rfl)
theorem xa_tableOut {dflt lo hi : Int} {offs : Array Int} {len : Nat} {x : Int32} {tgt : Nat} (hd : decode μ.2.1 pc = .ok (.tableswitch dflt lo hi offs, len)) (hx : x.toInt < lo ∨ hi < x.toInt) (ht : (pc : Int) + dflt = (tgt : Int)) (kk : xa_X l D H0 μ R Z k n h sz tgt ls st) : xa_X l D H0 μ R Z k n h sz pc ls (.int x :: st) := by
  intro p e s m args below meth c H locs la C hP hL hl
  exact lv_tableOut C.1 C.2.1 hd hx ht (kk p e s m args below meth c H locs la C hP hL hl)
theorem xa_tableIn {dflt lo hi : Int} {offs : Array Int} {len : Nat} {x : Int32} {off : Int} {tgt : Nat} (hd : decode μ.2.1 pc = .ok (.tableswitch dflt lo hi offs, len)) (h1 : ¬ x.toInt < lo) (h2 : ¬ hi < x.toInt) (ho : offs[(x.toInt - lo).toNat]? = some off) (ht : (pc : Int) + off = (tgt : Int)) (kk : xa_X l D H0 μ R Z k n h sz tgt ls st) : xa_X l D H0 μ R Z k n h sz pc ls (.int x :: st) := by
  intro p e s m args below meth c H locs la C hP hL hl
  exact lv_tableIn C.1 C.2.1 hd h1 h2 ho ht (kk p e s m args below meth c H locs la C hP hL hl)
theorem xa_ldc {q : Nat} {v : Int32} (hw : Cond.constant μ.1.cls q v ∈ xa_ws) (hd : decode μ.2.1 pc = .ok (.ldc q, 2)) (kk : xa_X l D H0 μ R Z k n h sz (pc + 2) ls (.int v :: st)) : xa_X l D H0 μ R Z k n h sz pc ls st := by
  intro p e s m args below meth c H locs la C hP hL hl
  exact lv_ldc C.1 C.2.1 C.2.2.2.1 (C.2.2.2.2.1 _ hw) hd (kk p e s m args below meth c H locs la C hP hL hl)
theorem xa_ldc2 {q : Nat} {v : Int64} (hw : Cond.constantLong μ.1.cls q v ∈ xa_ws) (hd : decode μ.2.1 pc = .ok (.ldc2_w q, 3)) (kk : xa_X l D H0 μ R Z k n h sz (pc + 3) ls (.long v :: st)) : xa_X l D H0 μ R Z k n h sz pc ls st := by
  intro p e s m args below meth c H locs la C hP hL hl
  exact lv_ldc2 C.1 C.2.1 C.2.2.2.1 (C.2.2.2.2.1 _ hw) hd (kk p e s m args below meth c H locs la C hP hL hl)
theorem xa_iaddN {a b : Nat} (hd : decode μ.2.1 pc = .ok (.iadd, 1))  (kk : xa_X l D H0 μ R Z k n h sz (pc + 1) ls (.int (nI (a + b)) :: st)) : xa_X l D H0 μ R Z k n h sz pc ls (.int (nI b) :: .int (nI a) :: st) := xa_iadd hd (by rw [nI_add]; exact kk)
theorem xa_imulN {a b : Nat} (hd : decode μ.2.1 pc = .ok (.imul, 1))  (kk : xa_X l D H0 μ R Z k n h sz (pc + 1) ls (.int (nI (a * b)) :: st)) : xa_X l D H0 μ R Z k n h sz pc ls (.int (nI b) :: .int (nI a) :: st) := xa_imul hd (by rw [pk_mul]; exact kk)
theorem xa_isubN {a b : Nat} (hd : decode μ.2.1 pc = .ok (.isub, 1)) (hle : b ≤ a) (kk : xa_X l D H0 μ R Z k n h sz (pc + 1) ls (.int (nI (a - b)) :: st)) : xa_X l D H0 μ R Z k n h sz pc ls (.int (nI b) :: .int (nI a) :: st) := xa_isub hd (by rw [pk_sub hle]; exact kk)
theorem xa_idivN {a b : Nat} (hd : decode μ.2.1 pc = .ok (.idiv, 1)) (ha : a < 2 ^ 31) (h0 : 0 < b) (hb : b < 2 ^ 31) (kk : xa_X l D H0 μ R Z k n h sz (pc + 1) ls (.int (nI (a / b)) :: st)) : xa_X l D H0 μ R Z k n h sz pc ls (.int (nI b) :: .int (nI a) :: st) := xa_idiv hd (nI_ne0 h0 hb) (by rw [pk_div ha h0 hb]; exact kk)
theorem xa_iremN {a b : Nat} (hd : decode μ.2.1 pc = .ok (.irem, 1)) (ha : a < 2 ^ 31) (h0 : 0 < b) (hb : b < 2 ^ 31) (kk : xa_X l D H0 μ R Z k n h sz (pc + 1) ls (.int (nI (a % b)) :: st)) : xa_X l D H0 μ R Z k n h sz pc ls (.int (nI b) :: .int (nI a) :: st) := xa_irem hd (nI_ne0 h0 hb) (by rw [pk_rem ha h0 hb]; exact kk)
theorem xa_iincN {q a : Nat} (hd : decode μ.2.1 pc = .ok (.iinc q 1, 3)) (hx : xa_lk ls q = some (.int (nI a))) (hn : Nat.blt q μ.2.2.1 = true) (hok : xa_okb q ls = true) (kk : xa_X l D H0 μ R Z k n h sz (pc + 3) (xa_st q (.int (nI (a + 1))) ls) st) : xa_X l D H0 μ R Z k n h sz pc ls st := xa_iinc hd hx (show nI a + Int32.ofInt 1 = nI (a + 1) from nI_add a 1) hn hok kk
theorem xa_icmp_eqN {a b : Nat} {off : Int} {tgt : Nat} (hd : decode μ.2.1 pc = .ok (.if_icmp .eq off, 3)) (ht : (pc : Int) + off = (tgt : Int)) (ha : a < 2 ^ 31) (hb : b < 2 ^ 31) (kt : a = b → xa_X l D H0 μ R Z k n h sz tgt ls st) (kf : a ≠ b → xa_X l D H0 μ R Z k n h sz (pc + 3) ls st) : xa_X l D H0 μ R Z k n h sz pc ls (.int (nI b) :: .int (nI a) :: st) := xa_icmp_eq hd ht (fun q => kt ((nI_eq ha hb).mp q)) (fun q => kf (fun z => q ((nI_eq ha hb).mpr z)))
theorem xa_icmp_neN {a b : Nat} {off : Int} {tgt : Nat} (hd : decode μ.2.1 pc = .ok (.if_icmp .ne off, 3)) (ht : (pc : Int) + off = (tgt : Int)) (ha : a < 2 ^ 31) (hb : b < 2 ^ 31) (kt : a ≠ b → xa_X l D H0 μ R Z k n h sz tgt ls st) (kf : a = b → xa_X l D H0 μ R Z k n h sz (pc + 3) ls st) : xa_X l D H0 μ R Z k n h sz pc ls (.int (nI b) :: .int (nI a) :: st) := xa_icmp_ne hd ht (fun q => kt (fun z => q ((nI_eq ha hb).mpr z))) (fun q => kf ((nI_eq ha hb).mp q))
theorem xa_icmp_ltN {a b : Nat} {off : Int} {tgt : Nat} (hd : decode μ.2.1 pc = .ok (.if_icmp .lt off, 3)) (ht : (pc : Int) + off = (tgt : Int)) (ha : a < 2 ^ 31) (hb : b < 2 ^ 31) (kt : a < b → xa_X l D H0 μ R Z k n h sz tgt ls st) (kf : b ≤ a → xa_X l D H0 μ R Z k n h sz (pc + 3) ls st) : xa_X l D H0 μ R Z k n h sz pc ls (.int (nI b) :: .int (nI a) :: st) := xa_icmp_lt hd ht (fun q => kt ((nI_ltI ha hb).mp q)) (fun q => kf (Nat.le_of_not_lt fun z => q ((nI_ltI ha hb).mpr z)))
theorem xa_icmp_geN {a b : Nat} {off : Int} {tgt : Nat} (hd : decode μ.2.1 pc = .ok (.if_icmp .ge off, 3)) (ht : (pc : Int) + off = (tgt : Int)) (ha : a < 2 ^ 31) (hb : b < 2 ^ 31) (kt : b ≤ a → xa_X l D H0 μ R Z k n h sz tgt ls st) (kf : a < b → xa_X l D H0 μ R Z k n h sz (pc + 3) ls st) : xa_X l D H0 μ R Z k n h sz pc ls (.int (nI b) :: .int (nI a) :: st) := xa_icmp_ge hd ht (fun q => kt ((nI_leI hb ha).mp q)) (fun q => kf (Nat.lt_of_not_le fun z => q ((nI_leI hb ha).mpr z)))
theorem xa_icmp_gtN {a b : Nat} {off : Int} {tgt : Nat} (hd : decode μ.2.1 pc = .ok (.if_icmp .gt off, 3)) (ht : (pc : Int) + off = (tgt : Int)) (ha : a < 2 ^ 31) (hb : b < 2 ^ 31) (kt : b < a → xa_X l D H0 μ R Z k n h sz tgt ls st) (kf : a ≤ b → xa_X l D H0 μ R Z k n h sz (pc + 3) ls st) : xa_X l D H0 μ R Z k n h sz pc ls (.int (nI b) :: .int (nI a) :: st) := xa_icmp_gt hd ht (fun q => kt ((nI_ltI hb ha).mp q)) (fun q => kf (Nat.le_of_not_lt fun z => q ((nI_ltI hb ha).mpr z)))
theorem xa_icmp_leN {a b : Nat} {off : Int} {tgt : Nat} (hd : decode μ.2.1 pc = .ok (.if_icmp .le off, 3)) (ht : (pc : Int) + off = (tgt : Int)) (ha : a < 2 ^ 31) (hb : b < 2 ^ 31) (kt : a ≤ b → xa_X l D H0 μ R Z k n h sz tgt ls st) (kf : b < a → xa_X l D H0 μ R Z k n h sz (pc + 3) ls st) : xa_X l D H0 μ R Z k n h sz pc ls (.int (nI b) :: .int (nI a) :: st) := xa_icmp_le hd ht (fun q => kt ((nI_leI ha hb).mp q)) (fun q => kf (Nat.lt_of_not_le fun z => q ((nI_leI ha hb).mpr z)))
end XA
end
section
/-! Fields, arrays and new cells over xa_X. The array kinds' numbers: D.1 100 int, 101 long, 102 boolean, 103 Position, 104 byte. -/
def xa_Kd (ci : Nat) (q : vw_C) : Prop := xa_cl[ci]? = some q ∧ (∀ w ∈ u_ws q.1 q.2.1 q.2.2, w ∈ xa_ws) ∧ (∃ ty0 : Nat → FieldType, ∀ k, k < q.2.2 → parseFieldDescriptor (q.2.1 k).2.2.1 = some (ty0 k)) ∧ ∀ a, a < q.2.2 → ∀ b, b < q.2.2 → a ≠ b → (q.2.1 a).2.1 ≠ (q.2.1 b).2.1
def xa_FL (own : String) (idx ci kf : Nat) (fin : Bool) (ty : FieldType) : Prop := ∃ q : vw_C, xa_Kd ci q ∧ kf < q.2.2 ∧ Cond.fieldLink own idx (q.2.1 kf).1 (q.2.1 kf).2.1 (q.2.1 kf).2.2.1 ∈ xa_ws ∧ (q.2.1 kf).2.2.2 = fin ∧ parseFieldDescriptor (q.2.1 kf).2.2.1 = some ty
theorem xa_locs {H0 : Heap} {locs : List Loc} {a i : Nat} (hL : ∀ q ∈ locs, H0.size ≤ q.base) (ha : H0.size ≤ a) : ∀ q ∈ locs ++ [(⟨a, i⟩ : Loc)], H0.size ≤ q.base := by
  intro q hq
  rcases List.mem_append.mp hq with hq | hq
  · exact hL q hq
  · rw [List.mem_singleton.mp hq]
    exact ha
theorem xa_up_i (cA : ClassId) (N j : Nat) (f : Nat → Int32) (x : Int32) : (vp_cell cA (N, .inl f)).setSlot j (.int x) = vp_cell cA (N, .inl (upd f j x)) := by
  rw [vp_cell_i, vp_cell_i, arrV_store]
  congr 1
  funext q
  by_cases hq : q = j
  · subst hq
    simp [updV, upd]
  · simp [updV, upd, hq]
theorem xa_up_l (cA : ClassId) (N j : Nat) (f : Nat → Int64) (x : Int64) : (vp_cell cA (N, .inr (.inl f))).setSlot j (.long x) = vp_cell cA (N, .inr (.inl (vp_updL f j x))) := by
  rw [vp_cell_l, vp_cell_l, arrV_store]
  congr 1
  funext q
  by_cases hq : q = j
  · subst hq
    simp [updV, vp_updL]
  · simp [updV, vp_updL, hq]
theorem xa_up_q (cA : ClassId) (N j : Nat) (f : Nat → Option Nat) (x : Option Nat) : (vp_cell cA (N, .inr (.inr (.inr (.inr f))))).setSlot j (va_rf x) = vp_cell cA (N, .inr (.inr (.inr (.inr (va_up f j x))))) := by
  rw [vp_cell_q, vp_cell_q, arrV_store]
  congr 1
  funext q
  by_cases hq : q = j
  · subst hq
    simp [updV, va_up]
  · simp [updV, va_up, hq]
section XB
variable {l : Launch} {D : va_G} {H0 : Heap} {μ : xa_Mu} {R : Room} {Z : xa_Z} {k n : Nat} {h : xa_H} {sz pc : Nat} {ls : List (Nat × Value)} {st : List Value}
theorem xa_getf {idx ci kf : Nat} {fin : Bool} {ty : FieldType} {a : Nat} {fs : List Value} {v : Value} (hf : xa_FL μ.1.cls idx ci kf fin ty) (hd : decode μ.2.1 pc = .ok (.getfield idx, 3)) (ha : h a = some (.inr (ci, fs))) (hv : fs[kf]? = some v) (kk : xa_X l D H0 μ R Z k n h sz (pc + 3) ls (v :: st)) : xa_X l D H0 μ R Z k n h sz pc ls (.ref a :: st) := by
  intro p e s m args below meth c H locs la C hP hL hl
  obtain ⟨⟨Cn, T, N⟩, ⟨hc, hin, -, -⟩, hk, hlink, -, -⟩ := hf
  exact va_get C.1 C.2.1 (Ts := xa_ws) C.2.2.2.2.1 hin C.2.2.2.1 C.2.2.2.2.2.1 (hP.one ha) 0 rfl hc kf hk (C.2.2.2.2.1 _ hlink) (fun x h9 => h9) hv hd (kk p e s m args below meth c H locs la C hP hL hl)
theorem xa_putf {idx ci kf : Nat} {ty : FieldType} {a : Nat} {fs : List Value} {v : Value} (hf : xa_FL μ.1.cls idx ci kf false ty) (hd : decode μ.2.1 pc = .ok (.putfield idx, 3)) (ha : h a = some (.inr (ci, fs))) (hlen : kf < fs.length) (hn : narrow ty v = v) (hfit : fits ty v = true) (kk : xa_X l D H0 μ R Z k n (xa_u h a (.inr (ci, fs.set kf v))) sz (pc + 3) ls st) : xa_X l D H0 μ R Z k n h sz pc ls (v :: .ref a :: st) := by
  intro p e s m args below meth c H locs la C hP hL hl
  obtain ⟨⟨Cn, T, N⟩, ⟨hc, hin, ⟨ty0, hty0⟩, hnm⟩, hk, hlink, hfin, hty⟩ := hf
  have hts := C.2.2.2.2.1
  have hK := C.2.2.2.2.2.1
  have hap := va_apart (own := μ.1.cls) (D := D) (cl := xa_cl) (tys := xa_tys D) hts hin ty0 hty0 hnm hK hc
  obtain ⟨r, h1, cell, q1, q2, q3, q4⟩ := (hP.2.2.2 a _ ha).2
  have hr : r = (Cn, T, N) := Option.some.inj (h1.symm.trans hc)
  subst hr
  obtain ⟨hS, hfc, kC, hkC, hkind⟩ := hK.1 ci _ hc
  obtain ⟨cf, kf', fi, f, hi, hsl⟩ := hS kf hk
  have hlay := hts _ (hin _ (u_in_lay hk))
  unfold u_lay at hlay
  rw [if_neg (by rw [hfin]; decide)] at hlay
  have hst := (u_facts hfc hkC (u_lays hts hin hk) hi).1
  have h6 := u_store hfc hkC hkind hlay hi hty hn hfit
  refine W.putK C.1 C.2.1 (f := f) ⟨C.2.2.2.1, hts _ hlink, ⟨_, _, _, hi⟩, hst⟩ (by rw [q2]; exact h6) q1 q3 (by rw [hsl]; exact k2_hasslot (q4 kf hk)) rfl rfl hd fun H' e1 e2 e3 => ?_
  rw [hsl] at e1 ⊢
  exact kk p e s m args below meth c H' _ la C (hP.set ha ⟨_, hc, t_OB.to (V := updV (vp_V fs) kf v) ⟨_, e1, q2, q3, t_set q4 hap hk v⟩ (fun j _ => vp_updV_set hlen v j)⟩ e2 e3) (xa_locs hL (hP.2.2.2 a _ ha).1) hl
theorem xa_putF {idx ci kf : Nat} {ty : FieldType} {a : Nat} {fs : List Value} {v : Value} (hf : xa_FL μ.1.cls idx ci kf true ty) (hi0 : μ.1.name = "<init>") (hdecl : ∀ q, xa_cl[ci]? = some q → (q.2.1 kf).1 = μ.1.cls) (hd : decode μ.2.1 pc = .ok (.putfield idx, 3)) (ha : h a = some (.inr (ci, fs))) (hlen : kf < fs.length) (hn : narrow ty v = v) (hfit : fits ty v = true) (kk : xa_X l D H0 μ R Z k n (xa_u h a (.inr (ci, fs.set kf v))) sz (pc + 3) ls st) : xa_X l D H0 μ R Z k n h sz pc ls (v :: .ref a :: st) := by
  intro p e s m args below meth c H locs la C hP hL hl
  obtain ⟨⟨Cn, T, N⟩, ⟨hc, hin, ⟨ty0, hty0⟩, hnm⟩, hk, hlink, hfin, hty⟩ := hf
  have hts := C.2.2.2.2.1
  have hK := C.2.2.2.2.2.1
  have hap := va_apart (own := μ.1.cls) (D := D) (cl := xa_cl) (tys := xa_tys D) hts hin ty0 hty0 hnm hK hc
  obtain ⟨r, h1, cell, q1, q2, q3, q4⟩ := (hP.2.2.2 a _ ha).2
  have hr : r = (Cn, T, N) := Option.some.inj (h1.symm.trans hc)
  subst hr
  obtain ⟨hS, hfc, kC, hkC, hkind⟩ := hK.1 ci _ hc
  obtain ⟨cf, kf', fi, f, hi, hsl⟩ := hS kf hk
  have hlay := hts _ (hin _ (u_in_lay hk))
  unfold u_lay at hlay
  rw [if_pos hfin] at hlay
  have hst := (u_facts hfc hkC (u_lays hts hin hk) hi).1
  have hcf : m.cls = cf := by
    obtain ⟨_, _, c', _, _, _, -, -, hf', -, -, -, hown2, -⟩ := Cond.laysFinal_spec hlay
    have e1 : c' = cf := by have := hi.symm.trans hf'; simp at this; exact this.1.symm
    rw [hdecl _ hc] at hown2
    rw [← e1]; exact Option.some.inj (C.2.2.2.1.symm.trans hown2)
  have h6 := u_fits hfc hkC hkind (Or.inr hlay) hi hty hn hfit
  refine W.putFinK C.1 C.2.1 C.2.2.2.1 (hts _ hlink) hi hst hcf (C.2.2.2.2.2.2.2.2.1.trans hi0) (by rw [q2]; exact h6) q1 q3 (by rw [hsl]; exact k2_hasslot (q4 kf hk)) rfl rfl hd fun H' e1 e2 e3 => ?_
  rw [hsl] at e1 ⊢
  exact kk p e s m args below meth c H' _ la C (hP.set ha ⟨_, hc, t_OB.to (V := updV (vp_V fs) kf v) ⟨_, e1, q2, q3, t_set q4 hap hk v⟩ (fun j _ => vp_updV_set hlen v j)⟩ e2 e3) (xa_locs hL (hP.2.2.2 a _ ha).1) hl
theorem xa_iald {a N j : Nat} {f : Nat → Int32} {i : Int32} (hd : decode μ.2.1 pc = .ok (.iaload, 1)) (ha : h a = some (.inl (D.1 100, N, .inl f))) (hj : j < N) (hi : i = nI j) (hN : N < 2 ^ 31) (kk : xa_X l D H0 μ R Z k n h sz (pc + 1) ls (.int (f j) :: st)) : xa_X l D H0 μ R Z k n h sz pc ls (.int i :: .ref a :: st) := by
  intro p e s m args below meth c H locs la C hP hL hl
  subst hi
  refine va_iald C.1 C.2.1 C.2.2.2.2.2.1 (hP.one ha) 0 0 rfl rfl (vp_in_nI hj hN) hd ?_
  rw [nI_clamp (by omega)]
  exact (kk p e s m args below meth c H locs la C hP hL hl)
theorem xa_lald {a N j : Nat} {f : Nat → Int64} {i : Int32} (hd : decode μ.2.1 pc = .ok (.laload, 1)) (ha : h a = some (.inl (D.1 101, N, .inr (.inl f)))) (hj : j < N) (hi : i = nI j) (hN : N < 2 ^ 31) (kk : xa_X l D H0 μ R Z k n h sz (pc + 1) ls (.long (f j) :: st)) : xa_X l D H0 μ R Z k n h sz pc ls (.int i :: .ref a :: st) := by
  intro p e s m args below meth c H locs la C hP hL hl
  subst hi
  refine va_lald C.1 C.2.1 C.2.2.2.2.2.1 (hP.one ha) 0 1 rfl rfl (vp_in_nI hj hN) hd ?_
  rw [nI_clamp (by omega)]
  exact (kk p e s m args below meth c H locs la C hP hL hl)
theorem xa_zald {a N j : Nat} {f : Nat → Int32} {i : Int32} (hd : decode μ.2.1 pc = .ok (.baload, 1)) (ha : h a = some (.inl (D.1 102, N, .inl f))) (hj : j < N) (hi : i = nI j) (hN : N < 2 ^ 31) (kk : xa_X l D H0 μ R Z k n h sz (pc + 1) ls (.int (f j) :: st)) : xa_X l D H0 μ R Z k n h sz pc ls (.int i :: .ref a :: st) := by
  intro p e s m args below meth c H locs la C hP hL hl
  subst hi
  refine va_zald C.1 C.2.1 C.2.2.2.2.2.1 (hP.one ha) 0 2 rfl rfl (vp_in_nI hj hN) hd ?_
  rw [nI_clamp (by omega)]
  exact (kk p e s m args below meth c H locs la C hP hL hl)
theorem xa_qald {a N j : Nat} {f : Nat → Option Nat} {i : Int32} (hd : decode μ.2.1 pc = .ok (.aaload, 1)) (ha : h a = some (.inl (D.1 103, N, .inr (.inr (.inr (.inr f)))))) (hj : j < N) (hi : i = nI j) (hN : N < 2 ^ 31) (kk : xa_X l D H0 μ R Z k n h sz (pc + 1) ls (va_rf (f j) :: st)) : xa_X l D H0 μ R Z k n h sz pc ls (.int i :: .ref a :: st) := by
  intro p e s m args below meth c H locs la C hP hL hl
  subst hi
  refine va_aldq C.1 C.2.1 C.2.2.2.2.2.1 (hP.one ha) 0 3 rfl rfl (vp_in_nI hj hN) hd ?_
  rw [nI_clamp (by omega)]
  exact (kk p e s m args below meth c H locs la C hP hL hl)
theorem xa_bald {a N j : Nat} {f : Nat → Int32} {i : Int32} (hd : decode μ.2.1 pc = .ok (.baload, 1)) (ha : h a = some (.inl (D.1 104, N, .inl f))) (hj : j < N) (hi : i = nI j) (hN : N < 2 ^ 31) (kk : xa_X l D H0 μ R Z k n h sz (pc + 1) ls (.int (f j) :: st)) : xa_X l D H0 μ R Z k n h sz pc ls (.int i :: .ref a :: st) := by
  intro p e s m args below meth c H locs la C hP hL hl
  subst hi
  refine va_bald C.1 C.2.1 C.2.2.2.2.2.1 (hP.one ha) 0 4 rfl rfl (vp_in_nI hj hN) hd ?_
  rw [nI_clamp (by omega)]
  exact (kk p e s m args below meth c H locs la C hP hL hl)
theorem xa_iast {a N j : Nat} {f : Nat → Int32} {i : Int32} {x : Int32} (hd : decode μ.2.1 pc = .ok (.iastore, 1)) (ha : h a = some (.inl (D.1 100, N, .inl f))) (hj : j < N) (hi : i = nI j) (hN : N < 2 ^ 31) (kk : xa_X l D H0 μ R Z k n (xa_u h a (.inl (D.1 100, N, .inl (upd f j x)))) sz (pc + 1) ls st) : xa_X l D H0 μ R Z k n h sz pc ls (.int x :: .int i :: .ref a :: st) := by
  intro p e s m args below meth c H locs la C hP hL hl
  subst hi
  refine W.iast C.1 C.2.1 (hP.2.2.2 a _ ha).2 ((C.2.2.2.2.2.1.2 0 _ rfl).1 N (fun j => .int (f j))) (fun q => by cases q) (by show ¬ (nI j < 0 ∨ (arrV _ _ _).slots.size ≤ _); rw [arrV_size]; exact vp_in_nI hj hN) rfl rfl hd fun H1 e1 z oq => ?_
  rw [nI_clamp (show j < 2 ^ 31 by omega)] at e1 ⊢
  refine kk p e s m args below meth c H1 _ la C (hP.set ha ?_ z oq) (xa_locs hL (hP.2.2.2 a _ ha).1) hl
  show H1[a]? = some (vp_cell _ _)
  rw [e1]
  exact congrArg some (xa_up_i _ _ _ _ _)
theorem xa_last {a N j : Nat} {f : Nat → Int64} {i : Int32} {x : Int64} (hd : decode μ.2.1 pc = .ok (.lastore, 1)) (ha : h a = some (.inl (D.1 101, N, .inr (.inl f)))) (hj : j < N) (hi : i = nI j) (hN : N < 2 ^ 31) (kk : xa_X l D H0 μ R Z k n (xa_u h a (.inl (D.1 101, N, .inr (.inl (vp_updL f j x))))) sz (pc + 1) ls st) : xa_X l D H0 μ R Z k n h sz pc ls (.long x :: .int i :: .ref a :: st) := by
  intro p e s m args below meth c H locs la C hP hL hl
  subst hi
  refine W.last C.1 C.2.1 (hP.2.2.2 a _ ha).2 ((C.2.2.2.2.2.1.2 1 _ rfl).1 N (fun j => .long (f j))) (fun q => by cases q) (by show ¬ (nI j < 0 ∨ (arrV _ _ _).slots.size ≤ _); rw [arrV_size]; exact vp_in_nI hj hN) rfl rfl hd fun H1 e1 z oq => ?_
  rw [nI_clamp (show j < 2 ^ 31 by omega)] at e1 ⊢
  refine kk p e s m args below meth c H1 _ la C (hP.set ha ?_ z oq) (xa_locs hL (hP.2.2.2 a _ ha).1) hl
  show H1[a]? = some (vp_cell _ _)
  rw [e1]
  exact congrArg some (xa_up_l _ _ _ _ _)
theorem xa_zast {a N j : Nat} {f : Nat → Int32} {i : Int32} {x : Int32} (hd : decode μ.2.1 pc = .ok (.bastore, 1)) (ha : h a = some (.inl (D.1 102, N, .inl f))) (hj : j < N) (hi : i = nI j) (hN : N < 2 ^ 31) (kk : xa_X l D H0 μ R Z k n (xa_u h a (.inl (D.1 102, N, .inl (upd f j (vp_nar .boolean x))))) sz (pc + 1) ls st) : xa_X l D H0 μ R Z k n h sz pc ls (.int x :: .int i :: .ref a :: st) := by
  intro p e s m args below meth c H locs la C hP hL hl
  subst hi
  refine W.zast C.1 C.2.1 (hP.2.2.2 a _ ha).2 ((C.2.2.2.2.2.1.2 2 _ rfl).1 N (fun j => .int (f j))) (fun q => by cases q) (by show ¬ (nI j < 0 ∨ (arrV _ _ _).slots.size ≤ _); rw [arrV_size]; exact vp_in_nI hj hN) rfl rfl hd fun H1 e1 z oq => ?_
  rw [nI_clamp (show j < 2 ^ 31 by omega)] at e1 ⊢
  refine kk p e s m args below meth c H1 _ la C (hP.set ha ?_ z oq) (xa_locs hL (hP.2.2.2 a _ ha).1) hl
  show H1[a]? = some (vp_cell _ _)
  rw [e1]
  exact congrArg some (xa_up_i _ _ _ _ _)
theorem xa_bast {a N j : Nat} {f : Nat → Int32} {i : Int32} {x : Int32} (hd : decode μ.2.1 pc = .ok (.bastore, 1)) (ha : h a = some (.inl (D.1 104, N, .inl f))) (hj : j < N) (hi : i = nI j) (hN : N < 2 ^ 31) (kk : xa_X l D H0 μ R Z k n (xa_u h a (.inl (D.1 104, N, .inl (upd f j (vp_nar .byte x))))) sz (pc + 1) ls st) : xa_X l D H0 μ R Z k n h sz pc ls (.int x :: .int i :: .ref a :: st) := by
  intro p e s m args below meth c H locs la C hP hL hl
  subst hi
  refine W.bast C.1 C.2.1 (hP.2.2.2 a _ ha).2 ((C.2.2.2.2.2.1.2 4 _ rfl).1 N (fun j => .int (f j))) (fun q => by cases q) (by show ¬ (nI j < 0 ∨ (arrV _ _ _).slots.size ≤ _); rw [arrV_size]; exact vp_in_nI hj hN) rfl rfl hd fun H1 e1 z oq => ?_
  rw [nI_clamp (show j < 2 ^ 31 by omega)] at e1 ⊢
  refine kk p e s m args below meth c H1 _ la C (hP.set ha ?_ z oq) (xa_locs hL (hP.2.2.2 a _ ha).1) hl
  show H1[a]? = some (vp_cell _ _)
  rw [e1]
  exact congrArg some (xa_up_i _ _ _ _ _)
theorem xa_qastN {a N j : Nat} {f : Nat → Option Nat} {i : Int32} (hd : decode μ.2.1 pc = .ok (.aastore, 1)) (ha : h a = some (.inl (D.1 103, N, .inr (.inr (.inr (.inr f)))))) (hj : j < N) (hi : i = nI j) (hN : N < 2 ^ 31) (kk : xa_X l D H0 μ R Z k n (xa_u h a (.inl (D.1 103, N, .inr (.inr (.inr (.inr (va_up f j none))))))) sz (pc + 1) ls st) : xa_X l D H0 μ R Z k n h sz pc ls (.null :: .int i :: .ref a :: st) := by
  intro p e s m args below meth c H locs la C hP hL hl
  subst hi
  refine va_WaastN (C := xa_pos) C.1 C.2.1 (hP.2.2.2 a _ ha).2 ((C.2.2.2.2.2.1.2 3 _ rfl).1 N (fun j => va_rf (f j))) (fun q => by cases q) (by show ¬ (nI j < 0 ∨ (arrV _ _ _).slots.size ≤ _); rw [arrV_size]; exact vp_in_nI hj hN) rfl rfl hd fun H1 e1 z oq => ?_
  rw [nI_clamp (show j < 2 ^ 31 by omega)] at e1 ⊢
  refine kk p e s m args below meth c H1 _ la C (hP.set ha ?_ z oq) (xa_locs hL (hP.2.2.2 a _ ha).1) hl
  show H1[a]? = some (vp_cell _ _)
  rw [e1]
  exact congrArg some (xa_up_q _ _ _ _ none)
theorem xa_qast {a N j v : Nat} {f : Nat → Option Nat} {vs : List Value} {i : Int32} (hd : decode μ.2.1 pc = .ok (.aastore, 1)) (ha : h a = some (.inl (D.1 103, N, .inr (.inr (.inr (.inr f)))))) (hv : h v = some (.inr (xa_posN, vs))) (hj : j < N) (hi : i = nI j) (hN : N < 2 ^ 31) (kk : xa_X l D H0 μ R Z k n (xa_u h a (.inl (D.1 103, N, .inr (.inr (.inr (.inr (va_up f j (some v)))))))) sz (pc + 1) ls st) : xa_X l D H0 μ R Z k n h sz pc ls (.ref v :: .int i :: .ref a :: st) := by
  intro p e s m args below meth c H locs la C hP hL hl
  subst hi
  obtain ⟨r', hr', cellV, g1, g2, g3, -⟩ := (hP.2.2.2 v _ hv).2
  have hcls := (C.2.2.2.2.2.1.1 xa_posN _ xa_posC).2
  obtain ⟨kA, comp, k1, k2, k3, -⟩ := (C.2.2.2.2.2.1.2 3 _ rfl).2
  have hcomp : comp = D.1 xa_posN := Option.some.inj (k3.symm.trans hcls.1)
  subst hcomp
  have hcls2 := hcls
  obtain ⟨-, kC, hkC, -⟩ := hcls2
  refine W.aast C.1 C.2.1 (hP.2.2.2 a _ ha).2 (fun q h9 => by cases h9) (fun h9 => by cases h9) k1 k2 rfl hkC ⟨nI_pos (by omega), by show _ < (arrV _ _ _).slots.size; rw [arrV_size, nI_clamp (by omega)]; exact hj⟩ g1 (fun q h9 => by rw [g3] at h9; cases h9) (by rw [g2]; exact hkC) (by rw [g2]; exact va_assign hcls) rfl rfl hd fun H1 e1 z oq => ?_
  rw [nI_clamp (show j < 2 ^ 31 by omega)] at e1 ⊢
  refine kk p e s m args below meth c H1 _ la C (hP.set ha ?_ z oq) (xa_locs hL (hP.2.2.2 a _ ha).1) hl
  show H1[a]? = some (vp_cell _ _)
  rw [e1]
  exact congrArg some (xa_up_q _ _ _ _ (some v))
theorem xa_alen {a t0 : Nat} {x : vp_A} {cA : ClassId} {ty : FieldType} {v : Int32} (t0' : (xa_tys D)[t0]? = some (cA, ty)) (hd : decode μ.2.1 pc = .ok (.arraylength, 1)) (ha : h a = some (.inl (cA, x))) (hv : nI x.1 = v) (kk : xa_X l D H0 μ R Z k n h sz (pc + 1) ls (.int v :: st)) : xa_X l D H0 μ R Z k n h sz pc ls (.ref a :: st) := by
  intro p e s m args below meth c H locs la C hP hL hl
  exact va_alen C.1 C.2.1 C.2.2.2.2.2.1 (hP.one ha) 0 t0 rfl t0' hv hd (kk p e s m args below meth c H locs la C hP hL hl)
def xa_NL (own : String) (idx ci : Nat) (fs : List Value) : Prop := ∃ q : vw_C, xa_Kd ci q ∧ Cond.classLink own idx q.1 ∈ xa_ws ∧ Cond.instantiable q.1 q.2.2 ∈ xa_ws ∧ Cond.initialized q.1 ∈ xa_ws ∧ fs.length = q.2.2 ∧ ∃ ty0 : Nat → FieldType, (∀ k, k < q.2.2 → parseFieldDescriptor (q.2.1 k).2.2.1 = some (ty0 k)) ∧ ∀ j, j < q.2.2 → defaultValue (ty0 j) = vp_V fs j
theorem xa_new {idx ci : Nat} {fs : List Value} (hf : xa_NL μ.1.cls idx ci fs) (hd : decode μ.2.1 pc = .ok (.new idx, 3)) (hk : k + 1 ≤ R.cells) (hs : n + fs.length ≤ R.slots) (kk : xa_X l D H0 μ R Z (k + 1) (n + fs.length) (xa_u h sz (.inr (ci, fs))) (sz + 1) (pc + 3) ls (.ref sz :: st)) : xa_X l D H0 μ R Z k n h sz pc ls st := by
  intro p e s m args below meth c H locs la C hP hL hl
  obtain ⟨⟨Cn, T, N⟩, ⟨hc, hin, -, -⟩, hcl, hinst, hini, hlen, ty0, hty0, hfs⟩ := hf
  have hlen : fs.length = N := hlen
  rw [hlen] at hs kk
  have hts := C.2.2.2.2.1
  have hKn := C.2.2.2.2.2.1.1 ci _ hc
  refine W.newcK C.1 C.2.1 C.2.2.2.1 (hts _ hcl) (hts _ hinst) (hts _ hini) rfl hd hk hs hKn.2.1 hP.1 fun H1 kC hkC e1 z1 o1 => ?_
  exact kk p e s m args below meth c H1 locs la C (hP.push ⟨_, hc, (u_born ty0 hts hin hKn hkC e1 hty0).to hfs⟩ z1 o1) hL hl
theorem xa_newa {at0 : ArrayType} {t0 : Nat} {ty : FieldType} {N : Nat} {i : Int32} {x : vp_A} (hw : Cond.arrayClass ty ∈ xa_ws) (hty : newarray.typeOf at0 = ty) (ht : (xa_tys D)[t0]? = some (D.1 (100 + t0), ty)) (hra : ∀ U : State, ∀ cA : ClassId, va_RA U cA ty → U.vm.findClass ("[" ++ ty.toString) = some cA) (hx : ∀ cA : ClassId, vp_cell cA x = arrV cA N (fun _ => defaultValue ty)) (hd : decode μ.2.1 pc = .ok (.newarray at0, 2)) (hi : i = nI N) (hN : N < 2 ^ 31) (hby : N * componentBytes ty ≤ 536870912) (hk : k + 1 ≤ R.cells) (hs : n + N ≤ R.slots) (kk : xa_X l D H0 μ R Z (k + 1) (n + N) (xa_u h sz (.inl (D.1 (100 + t0), x))) (sz + 1) (pc + 2) ls (.ref sz :: st)) : xa_X l D H0 μ R Z k n h sz pc ls (.int i :: st) := by
  intro p e s m args below meth c H locs la C hP hL hl
  subst hi
  subst hty
  refine va_newaK C.1 C.2.1 (C.2.2.2.2.1 _ hw) rfl hd rfl (nI_pos hN) (nI_clamp hN) hby hk hs hP.1 fun H1 cA e1 z1 o1 _ hNm => ?_
  have hcA : cA = D.1 (100 + t0) := Option.some.inj (hNm.symm.trans (hra s _ (C.2.2.2.2.2.1.2 t0 _ ht).2))
  subst hcA
  refine kk p e s m args below meth c H1 locs la C (hP.push ?_ z1 o1) hL hl
  show H1[sz]? = some (vp_cell _ _)
  rw [hx]
  exact e1
theorem xa_newq {idx : Nat} {N : Nat} {i : Int32} (hcl : Cond.classLink μ.1.cls idx xa_pos ∈ xa_ws) (hov : Cond.arrayOver (.object xa_pos) ∈ xa_ws) (hd : decode μ.2.1 pc = .ok (.anewarray idx, 3)) (hi : i = nI N) (hN : N < 2 ^ 31) (hby : N * 4 ≤ 536870912) (hk : k + 1 ≤ R.cells) (hs : n + N ≤ R.slots) (kk : xa_X l D H0 μ R Z (k + 1) (n + N) (xa_u h sz (.inl (D.1 103, N, .inr (.inr (.inr (.inr (fun _ => none))))))) (sz + 1) (pc + 3) ls (.ref sz :: st)) : xa_X l D H0 μ R Z k n h sz pc ls (.int i :: st) := by
  intro p e s m args below meth c H locs la C hP hL hl
  subst hi
  have hts := C.2.2.2.2.1
  refine W.anew C.1 C.2.1 C.2.2.2.1 (hts _ hcl) (hts _ hov) rfl hd rfl (nI_pos hN) (by rw [nI_clamp hN]; exact hby) hk (by rw [nI_clamp hN]; exact hs) fun cA kA comp f1 f2 f3 f4 => ?_
  rw [nI_clamp hN, hP.1]
  obtain ⟨kA', comp', k1, k2, k3, k4⟩ := (C.2.2.2.2.2.1.2 3 _ rfl).2
  have hcA : cA = D.1 103 := Option.some.inj (f1.symm.trans k4)
  subst hcA
  refine kk p e s m args below meth c _ locs la C (hP.push ?_ (by rw [Array.size_push, hP.1]) (fun q hq => by rw [Array.getElem?_push, if_neg (by rw [hP.1]; omega)])) hL hl
  show (H.push _)[sz]? = some (vp_cell _ _)
  rw [vp_cell_q, ← hP.1, Array.getElem?_push_size, ← arrV_new]
  rfl
end XB
end
section
/-! Contracts over xa_X: xa_M says that a method returns; entry, returns and calls. -/
abbrev xa_rm (fr mc ms lo : Nat) : Room := { frames := fr, cells := mc, slots := ms, locals := lo }
abbrev xa_Qc (D : va_G) (H0 : Heap) (Q : Option Value → xa_H → Nat → Prop) : Array Value → State → Outcome → State → Prop := fun _ _ o t => ∃ (v : Option Value) (h' : xa_H) (sz' : Nat), o = .returned v ∧ Q v h' sz' ∧ xa_P D H0 h' sz' t.heap
def xa_Zr (D : va_G) (H0 : Heap) (mc ms : Nat) (Q : Option Value → xa_H → Nat → Prop) : xa_Z := fun below args s => MQ below (xa_Qc D H0 Q) args s mc ms (fun q => H0.size ≤ q)
abbrev xa_cd (μ : xa_Mu) : Cond := Cond.code μ.1 μ.2.1 μ.2.2.1 μ.2.2.2.1
abbrev xa_pc (D : va_G) (H0 : Heap) (av : List Value) (h : xa_H) (sz : Nat) : Array Value → State → Prop := va_Pc av (fun U => xa_P D H0 h sz U.heap ∧ va_K D xa_cl (xa_tys D) U ∧ xa_N H0 U)
def xa_M (l : Launch) (D : va_G) (H0 : Heap) (μ : xa_Mu) (fr lo mc ms : Nat) (av : List Value) (h : xa_H) (sz : Nat) (Q : Option Value → xa_H → Nat → Prop) : Prop :=
  Met l μ.1 (xa_cd μ :: xa_ws) (xa_rm fr mc ms lo) (xa_pc D H0 av h sz) (xa_Qc D H0 Q) mc ms (fun q => H0.size ≤ q)
theorem xa_enter {l : Launch} {D : va_G} {H0 : Heap} {μ : xa_Mu} {fr lo mc ms : Nat} {av : List Value} {h : xa_H} {sz : Nat} {Q : Option Value → xa_H → Nat → Prop} (hp : plainName μ.1.cls = true) (hh : μ.2.2.2.2 = []) (hfit : Nat.ble (lg_sl av).length μ.2.2.1 = true)
    (kk : xa_X l D H0 μ (xa_rm fr mc ms lo) (xa_Zr D H0 mc ms Q) 0 0 h sz 0 (lv_args 0 av) []) : xa_M l D H0 μ fr lo mc ms av h sz Q := by
  unfold xa_M
  refine Met.ofW (cc := μ.2.1) (maxL := μ.2.2.1) (ret := μ.2.2.2.1) hp rfl ?_
  intro p e s m args below meth c s₁ B hml hv
  obtain ⟨rfl, hP, hK, hN⟩ := hv
  have hts := atoms_spec (ws := xa_cd μ :: xa_ws) B.pre
  have hl := lv_entry av (n := μ.2.2.1) (Nat.le_of_ble_eq_true hfit)
  rw [lg_entry_eq]
  exact kk p e s m _ below meth c s.heap [] _ ⟨B.exec, B.bytes, hml, findClass_of_methodNamed B.named, fun w hw => hts w (List.mem_cons_of_mem _ hw), hK, B.returns, B.notSynchronized, (name_of_methodNamed B.named B.method).1, by rw [hh, show c.exceptionTable = #[] from Array.isEmpty_iff.mp (B.noHandlers (hts _ List.mem_cons_self))]; rfl, hN⟩ hP (fun q hq => by cases hq) hl
theorem xa_blind {D : va_G} {H0 : Heap} {h : xa_H} {sz : Nat} {av : List Value} : FrameBlind (xa_pc D H0 av h sz) := by
  intro a U g mk q
  obtain ⟨q0, qP, qK, qN⟩ := q
  exact ⟨q0, qP, va_K.moved (u := U) (U := U.calling g mk a) (Vm.Alike.refl U.vm) qK, qN.moved (u := U) (U := U.calling g mk a) (Vm.Alike.refl U.vm)⟩
theorem xa_good {μ : xa_Mu} (hc : xa_cd μ ∈ xa_ws) : GoodIn xa_ws (xa_cd μ :: xa_ws) := by
  intro w hw
  have h1 : w ∈ xa_ws := by
    rcases List.mem_cons.mp hw with hw | hw
    · rw [hw]; exact hc
    · exact hw
  exact ⟨h1, good_of_word (xa_ws_good w h1)⟩
def xa_LB (ν : xa_Mu) (np : Nat) : Prop := xa_cd ν ∈ xa_ws ∧ Cond.initialized ν.1.cls ∈ xa_ws ∧ ν.1.cls ≠ "java/lang/invoke/MethodHandle" ∧ ν.1.cls ≠ "java/lang/invoke/VarHandle" ∧ (parseMethodDescriptor ν.1.desc).map (fun d => d.parameters.length) = some np
section XC
variable {l : Launch} {D : va_G} {H0 : Heap} {μ ν : xa_Mu} {R : Room} {Z : xa_Z} {k n : Nat} {h : xa_H} {sz pc : Nat} {ls : List (Nat × Value)} {st : List Value}
theorem xa_after {p : Program} {e : Env} {s : State} {m : MethodId} {args : Array Value} {below : List Frame} {meth : Method} {c : Code} {H : Heap} {locs : List Loc} {la : Array Slot} {st0 : List Value} {mc ms : Nat} {Q : Option Value → xa_H → Nat → Prop} {a : Array Value}
    (C : xa_C D H0 μ p s m args meth c) (hL : ∀ q ∈ locs, H0.size ≤ q.base) (hl : lv_has la μ.2.2.1 ls)
    (hr : va_Run p l e R s m args below meth c H locs k n mc ms (F0 m pc la st0) st (xa_Qc D H0 Q a) (fun q => H0.size ≤ q))
    (kk : ∀ (v : Option Value) (h' : xa_H) (sz' : Nat), Q v h' sz' → xa_X l D H0 μ R Z (k + mc) (n + ms) h' sz' (pc + 3) ls (v.toList ++ st)) : W p l e R s m args below meth c H locs k n (Z below args s) (F0 m pc la st0) := by
  intro T hT X
  obtain ⟨v, st₀, t, T', L, h0, X', hL', e1, e2, ⟨v', h', sz', ho, hq, hP'⟩, go⟩ := hr T hT X
  cases ho
  obtain ⟨t2, a1, b1⟩ := kk v h' sz' hq p e s m args below meth c T'.heap (locs ++ L) la C (by rw [e1]; exact hP') (fun q hq => by
    rcases List.mem_append.mp hq with hq | hq
    · exact hL q hq
    · exact hL' q hq) hl T' rfl X'
  exact ⟨t2, go t2 a1, b1⟩
theorem xa_ireturn {mc ms : Nat} {Q : Option Value → xa_H → Nat → Prop} {v : Int32} (hd : decode μ.2.1 pc = .ok (.ireturn, 1)) (hr : μ.2.2.2.1 = some .int) (hk : k ≤ mc) (hn : n ≤ ms) (hq : Q (some (.int v)) h sz) : xa_X l D H0 μ R (xa_Zr D H0 mc ms Q) k n h sz pc ls ([.int v]) := by
  intro p e s m args below meth c H locs la C hP hL hl
  refine W.widen hk hn ?_
  exact W.iret C.1 C.2.1 (C.2.2.2.2.2.2.1.trans hr) (fun t ht hW => ⟨_, h, sz, rfl, hq, by rw [ht]; exact hP⟩) hL hd (hlocks := C.2.2.2.2.2.2.2.1)
theorem xa_zreturn {mc ms : Nat} {Q : Option Value → xa_H → Nat → Prop} {v : Int32} {ty : FieldType} (hd : decode μ.2.1 pc = .ok (.ireturn, 1)) (hr : μ.2.2.2.1 = some ty) (hv : narrow ty (.int v) = .int v) (hk : k ≤ mc) (hn : n ≤ ms) (hq : Q (some (.int v)) h sz) : xa_X l D H0 μ R (xa_Zr D H0 mc ms Q) k n h sz pc ls ([.int v]) := by
  intro p e s m args below meth c H locs la C hP hL hl
  refine W.widen hk hn ?_
  exact W.zret C.1 C.2.1 (C.2.2.2.2.2.2.1.trans hr) hv (fun t ht hW => ⟨_, h, sz, rfl, hq, by rw [ht]; exact hP⟩) hL hd (hlocks := C.2.2.2.2.2.2.2.1)
theorem xa_return {mc ms : Nat} {Q : Option Value → xa_H → Nat → Prop}  (hd : decode μ.2.1 pc = .ok (.return_, 1)) (hr : μ.2.2.2.1 = none) (hk : k ≤ mc) (hn : n ≤ ms) (hq : Q (none) h sz) : xa_X l D H0 μ R (xa_Zr D H0 mc ms Q) k n h sz pc ls ([]) := by
  intro p e s m args below meth c H locs la C hP hL hl
  refine W.widen hk hn ?_
  exact W.vret C.1 C.2.1 (C.2.2.2.2.2.2.1.trans hr) (fun t ht hW => ⟨_, h, sz, rfl, hq, by rw [ht]; exact hP⟩) hL hd (hlocks := C.2.2.2.2.2.2.2.1)
theorem xa_areturn {mc ms : Nat} {Q : Option Value → xa_H → Nat → Prop} {a : Nat} {rt : FieldType} (hd : decode μ.2.1 pc = .ok (.areturn, 1)) (hr : μ.2.2.2.1 = some rt) (hrt : (∃ n, rt = .object n) ∨ ∃ t, rt = .array t) (hk : k ≤ mc) (hn : n ≤ ms) (hq : Q (some (.ref a)) h sz) : xa_X l D H0 μ R (xa_Zr D H0 mc ms Q) k n h sz pc ls ([.ref a]) := by
  intro p e s m args below meth c H locs la C hP hL hl
  refine W.widen hk hn ?_
  exact W.aret C.1 C.2.1 (C.2.2.2.2.2.2.1.trans hr) hrt (Or.inr ⟨a, rfl⟩) (fun t ht hW => ⟨_, h, sz, rfl, hq, by rw [ht]; exact hP⟩) hL hd (hlocks := C.2.2.2.2.2.2.2.1)
theorem xa_areturnN {mc ms : Nat} {Q : Option Value → xa_H → Nat → Prop} {rt : FieldType} (hd : decode μ.2.1 pc = .ok (.areturn, 1)) (hr : μ.2.2.2.1 = some rt) (hrt : (∃ n, rt = .object n) ∨ ∃ t, rt = .array t) (hk : k ≤ mc) (hn : n ≤ ms) (hq : Q (some .null) h sz) : xa_X l D H0 μ R (xa_Zr D H0 mc ms Q) k n h sz pc ls ([.null]) := by
  intro p e s m args below meth c H locs la C hP hL hl
  refine W.widen hk hn ?_
  exact W.aret C.1 C.2.1 (C.2.2.2.2.2.2.1.trans hr) hrt (Or.inl rfl) (fun t ht hW => ⟨_, h, sz, rfl, hq, by rw [ht]; exact hP⟩) hL hd (hlocks := C.2.2.2.2.2.2.2.1)
theorem xa_areturnQ {mc ms : Nat} {Q : Option Value → xa_H → Nat → Prop} {r : Option Nat} {rt : FieldType} (hd : decode μ.2.1 pc = .ok (.areturn, 1)) (hr : μ.2.2.2.1 = some rt) (hrt : (∃ n, rt = .object n) ∨ ∃ t, rt = .array t) (hk : k ≤ mc) (hn : n ≤ ms) (hq : Q (some (va_rf r)) h sz) : xa_X l D H0 μ R (xa_Zr D H0 mc ms Q) k n h sz pc ls [va_rf r] := by
  cases r with
  | none => exact xa_areturnN hd hr hrt hk hn hq
  | some a => exact xa_areturn hd hr hrt hk hn hq
def xa_LS (own : String) (idx : Nat) (ν : xa_Mu) (np : Nat) : Prop := xa_LB ν np ∧ Cond.methodLink own idx ν.1 ∈ xa_ws ∧ Cond.static ν.1 ∈ xa_ws
theorem xa_callS {idx fr lo mc ms np : Nat} {As st0 : List Value} {Q : Option Value → xa_H → Nat → Prop} (hd : decode μ.2.1 pc = .ok (.invokestatic idx, 3)) (hLk : xa_LS μ.1.cls idx ν np) (hM : xa_M l D H0 ν fr lo mc ms As h sz Q) (hst : st0 = As.reverse ++ st) (hn : As.length = np) (hw : (st.map fun v => v.category).sum ≤ 8) (hR : fr + 1 ≤ R.frames ∧ 8 + (ν.2.2.1 + 11) + lo ≤ R.locals) (hc : k + mc ≤ R.cells) (hs : n + ms ≤ R.slots) (kk : ∀ (v : Option Value) (h' : xa_H) (sz' : Nat), Q v h' sz' → xa_X l D H0 μ R Z (k + mc) (n + ms) h' sz' (pc + 3) ls (v.toList ++ st)) : xa_X l D H0 μ R Z k n h sz pc ls st0 := by
  intro p e s m args below meth c H locs la C hP hL hl
  obtain ⟨⟨b1, b2, b3, b4, b5⟩, b6, b7⟩ := hLk
  have hts := C.2.2.2.2.1
  refine xa_after C hL hl (va_runS (As := As) (rest := st) ⟨C.1, C.2.1, C.2.2.1, C.2.2.2.1, hts⟩ hM ⟨callB_of np hts (xa_good b1) rfl rfl rfl (hts _ b2) (hts _ b6) ⟨b3, b4, b5⟩ hR, hts _ b7⟩ ⟨xa_blind, fun U hU hW => ⟨rfl, by rw [hU]; exact hP, va_K.moved hW.alike C.2.2.2.2.2.1, C.2.2.2.2.2.2.2.2.2.2.moved hW.alike⟩⟩ rfl hn hl.1 hst (lv_room hw) hd ⟨hc, hs⟩) kk
def xa_LI (own : String) (idx : Nat) (ν : xa_Mu) (np : Nat) : Prop := xa_LB ν np ∧ Cond.methodLink own idx ν.1 ∈ xa_ws ∧ Cond.instanceMethod ν.1 ∈ xa_ws ∧ ν.1.name = "<init>" ∧ ν.2.2.2.1 = none
theorem xa_callI {idx fr lo mc ms np : Nat} {As st0 : List Value} {Q : Option Value → xa_H → Nat → Prop} {b : Nat} (hd : decode μ.2.1 pc = .ok (.invokespecial idx, 3)) (hLk : xa_LI μ.1.cls idx ν np) (hM : xa_M l D H0 ν fr lo mc ms (.ref b :: As) h sz Q) (hst : st0 = As.reverse ++ .ref b :: st) (hn : As.length = np) (hw : (st.map fun v => v.category).sum ≤ 8) (hR : fr + 1 ≤ R.frames ∧ 8 + (ν.2.2.1 + 11) + lo ≤ R.locals) (hc : k + mc ≤ R.cells) (hs : n + ms ≤ R.slots) (kk : ∀ (v : Option Value) (h' : xa_H) (sz' : Nat), Q v h' sz' → xa_X l D H0 μ R Z (k + mc) (n + ms) h' sz' (pc + 3) ls (v.toList ++ st)) : xa_X l D H0 μ R Z k n h sz pc ls st0 := by
  intro p e s m args below meth c H locs la C hP hL hl
  obtain ⟨⟨b1, b2, b3, b4, b5⟩, b6, b7, b8, b9⟩ := hLk
  have hts := C.2.2.2.2.1
  obtain ⟨y, cc, nL, ret, hh⟩ := ν
  cases (show ret = none from b9)
  refine xa_after C hL hl (va_runI (As := As) (rest := st) ⟨C.1, C.2.1, C.2.2.1, C.2.2.2.1, hts⟩ hM ⟨callB_of np hts (xa_good b1) rfl rfl rfl (hts _ b2) (hts _ b6) ⟨b3, b4, b5⟩ hR, b8, hts _ b7⟩ ⟨xa_blind, fun U hU hW => ⟨rfl, by rw [hU]; exact hP, va_K.moved hW.alike C.2.2.2.2.2.1, C.2.2.2.2.2.2.2.2.2.2.moved hW.alike⟩⟩ rfl hn hl.1 hst (lv_room hw) hd ⟨hc, hs⟩) kk
theorem xa_recv {s : State} {H : Heap} {ci b : Nat} {q : vw_C} {fs : List Value} (hc : xa_cl[ci]? = some q) (hK : va_K D xa_cl (xa_tys D) s) (hP : xa_P D H0 h sz H) (hb : h b = some (.inr (ci, fs))) : ∃ cellB : Cell, H[b]? = some cellB ∧ cellB.vm.isStatics = false ∧ s.vm.findClass q.1 = some cellB.cls := by
  obtain ⟨r, h1, cell, q1, q2, q3, -⟩ := (hP.2.2.2 b _ hb).2
  exact ⟨cell, q1, by rw [q3]; rfl, by rw [q2]; exact (hK.1 ci q hc).2.1⟩
def xa_LV (own : String) (idx : Nat) (ν : xa_Mu) (ci np : Nat) : Prop := xa_LB ν np ∧ Cond.methodLink own idx ν.1 ∈ xa_ws ∧ Cond.instanceMethod ν.1 ∈ xa_ws ∧ Cond.selects ν.1.cls ν.1 ν.1 ∈ xa_ws ∧ ∃ q : vw_C, xa_cl[ci]? = some q ∧ q.1 = ν.1.cls
theorem xa_callV {idx fr lo mc ms np : Nat} {As st0 : List Value} {Q : Option Value → xa_H → Nat → Prop} {b ci : Nat} {fs : List Value} (hd : decode μ.2.1 pc = .ok (.invokevirtual idx, 3)) (hLk : xa_LV μ.1.cls idx ν ci np) (hb : h b = some (.inr (ci, fs))) (hM : xa_M l D H0 ν fr lo mc ms (.ref b :: As) h sz Q) (hst : st0 = As.reverse ++ .ref b :: st) (hn : As.length = np) (hw : (st.map fun v => v.category).sum ≤ 8) (hR : fr + 1 ≤ R.frames ∧ 8 + (ν.2.2.1 + 11) + lo ≤ R.locals) (hc : k + mc ≤ R.cells) (hs : n + ms ≤ R.slots) (kk : ∀ (v : Option Value) (h' : xa_H) (sz' : Nat), Q v h' sz' → xa_X l D H0 μ R Z (k + mc) (n + ms) h' sz' (pc + 3) ls (v.toList ++ st)) : xa_X l D H0 μ R Z k n h sz pc ls st0 := by
  intro p e s m args below meth c H locs la C hP hL hl
  obtain ⟨⟨b1, b2, b3, b4, b5⟩, b6, b7, b8, q, b9, b10⟩ := hLk
  have hts := C.2.2.2.2.1
  have hrecv := xa_recv b9 C.2.2.2.2.2.1 hP hb
  rw [b10] at hrecv
  refine xa_after C hL hl (va_runV (As := As) (rest := st) (C := ν.1.cls) ⟨C.1, C.2.1, C.2.2.1, C.2.2.2.1, hts⟩ hM ⟨callB_of np hts (xa_good b1) rfl rfl rfl (hts _ b2) (hts _ b6) ⟨b3, b4, b5⟩ hR, hts _ b7, hts _ b8⟩ ⟨xa_blind, hrecv, fun U hU hW => ⟨rfl, by rw [hU]; exact hP, va_K.moved hW.alike C.2.2.2.2.2.1, C.2.2.2.2.2.2.2.2.2.2.moved hW.alike⟩⟩ rfl hn hl.1 hst (lv_room hw) hd ⟨hc, hs⟩) kk
theorem xa_objInit {idx a : Nat} (hl1 : Cond.methodLink μ.1.cls idx Lib.objectInit ∈ xa_ws) (hl2 : Cond.instanceMethod Lib.objectInit ∈ xa_ws) (hl3 : Cond.code Lib.objectInit ⟨#[0xb1]⟩ 1 none ∈ xa_ws) (hd : decode μ.2.1 pc = .ok (.invokespecial idx, 3)) (hf : 1 ≤ R.frames) (hlo : (st.map fun v => v.category).sum + 12 ≤ R.locals) (kk : xa_X l D H0 μ R Z k n h sz (pc + 3) ls st) : xa_X l D H0 μ R Z k n h sz pc ls (.ref a :: st) := by
  intro p e s m args below meth c H locs la C hP hL hl
  have hts := C.2.2.2.2.1
  refine W.objInit C.1 C.2.1 C.2.2.2.1 (hts _ hl1) (hts _ hl2) (hts _ hl3) rfl (by rw [C.2.2.1]; exact hl.1) rfl hd hf (by show 2 * 0 + _ + 12 ≤ _; omega) ?_
  exact (kk p e s m args below meth c H locs la C hP hL hl)
end XC
end
section
/-! Methods that throw: a new exception without a message, its way through a caller, its catching. -/
theorem xa_SF.lays {H0 : Heap} {nm ds : String} {U : State} {args : Array Value} (h : xa_SF H0 nm ds U) (hq : ∀ q : Nat, q < H0.size → U.heap[q]? = H0[q]?) : (Cond.laysStatic "java/lang/Throwable" nm ds).before args U = true := by
  obtain ⟨c, k, i, f, a, cell, v, h1, h2, h3, h4, h5, h6, h7, h8, h9, h10⟩ := h
  have hc : U.heap[a]? = some cell := by rw [hq a (Array.getElem?_eq_some_iff.mp h5).1]; exact h5
  simp [Cond.before, Cond.holds, Cond.value, h1, h2, h3, h4, hc, h6, h7, h8, h9]
theorem xa_SF.isRef {H0 : Heap} {nm ds : String} {U : State} {args : Array Value} (h : xa_SF H0 nm ds U) (hq : ∀ q : Nat, q < H0.size → U.heap[q]? = H0[q]?) : (Cond.isRef (.static "java/lang/Throwable" nm ds)).before args U = true := by
  obtain ⟨c, k, i, f, a, cell, v, h1, h2, h3, h4, h5, h6, h7, h8, h9, h10, h11⟩ := h
  have hc : U.heap[a]? = some cell := by rw [hq a (Array.getElem?_eq_some_iff.mp h5).1]; exact h5
  rcases h11 with rfl | ⟨t, rfl⟩ <;> simp [Cond.before, Cond.holds, Cond.value, Term.eval, State.fieldNamed?, h2, h3, h4, hc, h6, h10]
theorem xa_SF.of {H0 : Heap} {nm ds : String} {U : State} {args : Array Value} (hU : U.heap = H0) (h : (Cond.laysStatic "java/lang/Throwable" nm ds).before args U = true) (hr : (Cond.isRef (.static "java/lang/Throwable" nm ds)).before args U = true) : xa_SF H0 nm ds U := by
  obtain ⟨c, k, i, f, a, cell, hc, hi, hst, ha, hcell, hs, hcls, hlt, hty⟩ := Cond.laysStatic_spec h
  cases hv : (Term.static "java/lang/Throwable" nm ds).eval args U none [] U with
  | none => simp [Cond.before, Cond.holds, Cond.value, hv] at hr
  | some w =>
    obtain ⟨hst', a', cell', ha', hcell', -, hslot⟩ := Term.static_spec hi hv
    cases ha.symm.trans ha'
    cases hcell.symm.trans hcell'
    refine ⟨c, k, i, f, a, cell, w, hc, hi, hst, ha, by rw [← hU]; exact hcell, hs, hcls, hlt, hty, hslot, ?_⟩
    simp only [Cond.before, Cond.holds, Cond.value, hv] at hr
    cases w <;> simp_all
section XR
variable {p : Program} {l : Launch} {e : Env} {R : Room} {s : State} {m : MethodId} {args : Array Value} {below : List Frame} {meth : Method} {c : Code} {T : State} {locs : List Loc} {cells slots : Nat}
/-- the same invocation, as if it began at the present state -/
theorem xa_rebase (X : Stand p l e R s m args below meth c T locs cells slots) (hc : cells ≤ R.cells) (hs : slots ≤ R.slots) :
    Stand p l e { frames := R.frames, cells := R.cells - cells, slots := R.slots - slots, locals := R.locals } (T.setFrames (.invoking m args :: below)) m args below meth c T [] 0 0 := by
  obtain ⟨g₀, hfr⟩ := X.frames_eq
  have hcur : T.cur < T.threads.size := State.cur_lt_of_frames hfr
  have hf' : (T.setFrames (.invoking m args :: below)).frames = .invoking m args :: below := State.frames_setFrames _ hcur
  have hm' : (T.setFrames (.invoking m args :: below)).vm.method? m = some meth := X.method'
  have hl1 := State.localsInUse_invoking X.frames X.method X.code
  have hl2 := State.localsInUse_invoking hf' hm' X.code
  refine ⟨X.admits, X.cas, X.clock, hf', ?_, ?_, hm', X.code, X.here, X.tail, State.WarmedH.refl _, (State.stackLimits_setFrames _ _ _).symm, (State.stackBytes_setFrames _ _).symm, ?_⟩
  · have hr := X.room
    have h1 := X.heapSize
    have h2 := X.used
    have h3 := X.book
    have h3' : (T.setFrames (.invoking m args :: below)).slotsTrue = true := h3
    have h4 : (T.setFrames (.invoking m args :: below)).heap.size = T.heap.size := rfl
    have h5 : (T.setFrames (.invoking m args :: below)).slotsUsed = T.slotsUsed := rfl
    simp only [State.hasRoom, Bool.and_eq_true, decide_eq_true_eq, hl1, hl2, hf', X.frames, List.length_cons, State.stackLimits_setFrames, X.limits, State.stackBytes_setFrames, X.bytes, h4, h5, h3'] at hr ⊢
    obtain ⟨⟨⟨⟨r1, r2, r3, r4, r5, r6⟩, r7⟩, r8⟩, r9⟩ := hr
    refine ⟨⟨⟨⟨r1, r2, r3, r4, r5, r6⟩, by omega⟩, by omega⟩, trivial⟩
  · have hh := X.hears
    rcases below with _ | ⟨y, r⟩
    · simp only [State.hears, hm', X.method] at hh ⊢
      exact hh
    · cases y <;> first
        | (simp only [State.hears, hm', X.method] at hh ⊢; exact hh)
        | (simp only [State.hears, State.code?_eq] at hh ⊢
           rw [show (T.setFrames _).vm = T.vm from rfl, X.warmed.alike.method?]
           exact hh)
        | rfl
  · obtain ⟨t, ht, -⟩ := State.frames_cons hf'
    obtain ⟨t0, ht0, -⟩ := State.frames_cons hfr
    have h := (State.sameButNew.refl (T.setFrames (.invoking m args :: below)) ht).setFrames T.frames (State.cur_lt_of_frames hf')
    rw [State.setFrames_setFrames, State.setFrames_self ht0] at h
    exact h
end XR
def xa_Te (D : va_G) (H0 : Heap) (mc ms : Nat) (Xn : String) (Q : xa_H → Nat → Prop) (st : State) (o : Outcome) (t : State) : Prop :=
  ∃ x : Nat, o = .threw x ∧ (∃ (h' : xa_H) (sz' : Nat), Q h' sz' ∧ xa_P D H0 h' sz' t.heap) ∧ (∃ ce : Cell, t.heap[x]? = some ce ∧ ce.vm = .none ∧ st.vm.findClass Xn = some ce.cls) ∧ st.WarmedH t.vm ∧ ∃ L : List Loc, st.sameButNew ({ t with vm := st.vm } : State) L mc ms ∧ ∀ q ∈ L, H0.size ≤ q.base
def xa_Zt (D : va_G) (H0 : Heap) (mc ms : Nat) (Xn : String) (Q : xa_H → Nat → Prop) : xa_Z := fun below _ s t => ∃ o, t.status = .running ∧ Ended t below o ∧ xa_Te D H0 mc ms Xn Q s o t
def xa_T (l : Launch) (D : va_G) (H0 : Heap) (μ : xa_Mu) (fr lo mc ms : Nat) (av : List Value) (h : xa_H) (sz : Nat) (Xn : String) (Q : xa_H → Nat → Prop) : Prop :=
  MetFree l μ.1 (headSpec (xa_cd μ :: xa_ws) (xa_rm fr mc ms lo)) (xa_pc D H0 av h sz) (fun _ _ _ _ _ => True) (fun _ st o t => xa_Te D H0 mc ms Xn Q st o t)
theorem xa_enterT {l : Launch} {D : va_G} {H0 : Heap} {μ : xa_Mu} {fr lo mc ms : Nat} {av : List Value} {h : xa_H} {sz : Nat} {Xn : String} {Q : xa_H → Nat → Prop} (hp : plainName μ.1.cls = true) (hh : μ.2.2.2.2 = []) (hfit : Nat.ble (lg_sl av).length μ.2.2.1 = true)
    (kk : xa_X l D H0 μ (xa_rm fr mc ms lo) (xa_Zt D H0 mc ms Xn Q) 0 0 h sz 0 (lv_args 0 av) []) : xa_T l D H0 μ fr lo mc ms av h sz Xn Q := by
  unfold xa_T
  refine MetFree.of_bodyS (code := μ.2.1) (maxLocals := μ.2.2.1) (ret := μ.2.2.2.1) hp ?_ ?_
  · intro args s m h0 hn
    obtain ⟨meth, c, h1, h2, h3, h4, h5, h6, -, -⟩ := Cond.code_spec hn (atoms_spec (ws := xa_cd μ :: xa_ws) h0 _ List.mem_cons_self)
    exact ⟨meth, c, h1, h2, h3, h4, h5, h6⟩
  · intro p e s m args below meth c s₁ B hml hv _
    obtain ⟨rfl, hP, hK, hN⟩ := hv
    have hts := atoms_spec (ws := xa_cd μ :: xa_ws) B.pre
    have hl := lv_entry av (n := μ.2.2.1) (Nat.le_of_ble_eq_true hfit)
    have hh0 : s₁.heap = s.heap := by rw [B.state]; rfl
    obtain ⟨t, a1, o, b1, b2, b3⟩ := kk p e s m _ below meth c s.heap [] _ ⟨B.exec, B.bytes, hml, findClass_of_methodNamed B.named, fun w hw => hts w (List.mem_cons_of_mem _ hw), hK, B.returns, B.notSynchronized, (name_of_methodNamed B.named B.method).1, by rw [hh, show c.exceptionTable = #[] from Array.isEmpty_iff.mp (B.noHandlers (hts _ List.mem_cons_self))]; rfl, hN⟩ hP (fun q hq => by cases hq) hl s₁ hh0 (Stand.of_body B)
    refine ⟨t, o, ?_, b1, b2, b3⟩
    rw [lg_entry_eq]
    exact a1
def xa_thr (own : String) (ix ic : Nat) (Xn : String) : Prop := Cond.classLink own ix Xn ∈ xa_ws ∧ Cond.initialized Xn ∈ xa_ws ∧ Bundle.fit Xn = true ∧ ∀ w ∈ Bundle.ownAtoms0 own ic Xn xa_up, w ∈ xa_ws ∨ w = Cond.laysStatic "java/lang/Throwable" "UNASSIGNED_STACK" "[Ljava/lang/StackTraceElement;" ∨ w = Cond.laysStatic "java/lang/Throwable" "SUPPRESSED_SENTINEL" "Ljava/util/List;" ∨ w = Cond.isRef (.static "java/lang/Throwable" "UNASSIGNED_STACK" "[Ljava/lang/StackTraceElement;") ∨ w = Cond.isRef (.static "java/lang/Throwable" "SUPPRESSED_SENTINEL" "Ljava/util/List;")
section XT
variable {l : Launch} {D : va_G} {H0 : Heap} {μ ν : xa_Mu} {R : Room} {Z : xa_Z} {k n : Nat} {h : xa_H} {sz pc : Nat} {ls : List (Nat × Value)} {st : List Value}
theorem xa_throw {ix ic : Nat} {Xn : String} {mc ms : Nat} {Q : xa_H → Nat → Prop} (htr : l.stackTraces = false) (hE : μ.2.2.2.2 = []) (hX : xa_thr μ.1.cls ix ic Xn)
    (d0 : decode μ.2.1 pc = .ok (.new ix, 3)) (d1 : decode μ.2.1 (pc + 3) = .ok (.dup, 1)) (d2 : decode μ.2.1 (pc + 4) = .ok (.invokespecial ic, 3)) (d3 : decode μ.2.1 (pc + 7) = .ok (.athrow, 1))
    (hk : k + 1 ≤ R.cells) (hs : n + 6 ≤ R.slots) (hkm : k + 1 ≤ mc) (hsm : n + 6 ≤ ms) (hf : 6 ≤ R.frames) (hlo : (st.map fun v => v.category).sum + 81 ≤ R.locals) (hq : ∀ sz', sz ≤ sz' → Q h sz') : xa_X l D H0 μ R (xa_Zt D H0 mc ms Xn Q) k n h sz pc ls st := by
  intro p e s m args below meth c H locs la C hP hL hl T hT X
  obtain ⟨hx1, hx2, hx3, hx4⟩ := hX
  have X0 := xa_rebase X (by omega) (by omega)
  have hW0 : s.WarmedH (T.setFrames (.invoking m args :: below)).vm := X.warmed
  have hheap0 : (T.setFrames (.invoking m args :: below)).heap = H := hT
  have hts0 : ∀ w ∈ xa_ws, w.before args (T.setFrames (.invoking m args :: below)) = true := fun w hw => word_at hW0 (good_of_word (xa_ws_good w hw)) (C.2.2.2.2.1 w hw)
  have hown0 : (T.setFrames (.invoking m args :: below)).vm.findClass μ.1.cls = some m.cls := by rw [hW0.alike.findClass]; exact C.2.2.2.1
  have hq0 : ∀ q : Nat, q < H0.size → (T.setFrames (.invoking m args :: below)).heap[q]? = H0[q]? := by rw [hheap0]; exact hP.2.2.1
  have hN0 : xa_N H0 (T.setFrames (.invoking m args :: below)) := C.2.2.2.2.2.2.2.2.2.2.moved hW0.alike
  have hat : ∀ w ∈ Bundle.ownAtoms0 μ.1.cls ic Xn xa_up, w.before args (T.setFrames (.invoking m args :: below)) = true := by
    intro w hw
    rcases hx4 w hw with h1 | rfl | rfl | rfl | rfl
    · exact hts0 w h1
    · exact hN0.1.lays hq0
    · exact hN0.2.1.lays hq0
    · exact hN0.1.isRef hq0
    · exact hN0.2.1.isRef hq0
  have htr' : e.platform.stackTraces = false := by rw [X.admits.platform]; exact htr
  have hcd : c.exceptionTable.toList = [] := by
    have h1 := C.2.2.2.2.2.2.2.2.2.1
    rw [hE] at h1
    exact List.map_eq_nil_iff.mp h1
  generalize hs' : T.setFrames (.invoking m args :: below) = s' at X0 hW0 hheap0 hts0 hown0 hat
  obtain ⟨vm₁, cX, kX, hfX, hkX, -, -, X₁, st1⟩ := X0.newCold C.1 (own := μ.1.cls) (C := Xn) (index := ix) (n := 6) hown0 (hts0 _ hx1) (hat (.instantiable Xn 6) (by simp [Bundle.ownAtoms0])) (hts0 _ hx2)
    (g := F0 m pc la st) rfl (by rw [C.2.1]; exact d0) (by show 0 + 1 ≤ R.cells - k; omega) (by show 0 + 6 ≤ R.slots - n; omega)
  generalize hV : (T.setVm vm₁).pushCell { cls := cX, slots := kX.instanceTypes.map defaultValue, vm := .none } = V at X₁ st1
  have hcellA : V.heap[T.heap.size]? = some (freshCell cX kX) := by rw [← hV]; exact State.heap_pushCell_size _ _
  have hnew : s'.heap.size ≤ T.heap.size := by rw [hheap0, hT]; exact Nat.le_refl _
  obtain ⟨U, hsteps, hrun, hend, hWU, hsame, ce, hce, Kc⟩ := X₁.ctorThrow0 C.1 htr' (own := μ.1.cls) (cls := Xn) (names := xa_up) (ic := ic) hown0 hx3 xa_up_fit hat (fun y hy => by cases hy) hfX hkX hcellA hnew
    (g := F0 m (pc + 4) la (.ref T.heap.size :: .ref T.heap.size :: st)) rfl (by rw [C.2.2.1]; exact hl.1) rfl rfl (rest := st) rfl (by rw [C.2.1]; exact d2) (by rw [C.2.1]; exact d3) (by rw [hcd]; intro x hx; cases hx) (by show 2 + 3 < R.frames; omega) (by show 2 * 0 + (1 + (st.map fun v => v.category).sum) + 80 ≤ R.locals; omega) (hlocks := C.2.2.2.2.2.2.2.1)
  have hkeep : ∀ (a : Nat) (cell : Cell), H[a]? = some cell → U.heap[a]? = some cell := fun a cell ha => State.sameButNew.old_cell (s' := { U with vm := s'.vm }) hsame (by rw [hheap0]; exact ha)
  have hsz : sz ≤ U.heap.size := by
    have h1 : s'.heap.size ≤ U.heap.size := hsame.2.1
    rw [hheap0, hP.1] at h1
    exact h1
  refine ⟨U, st1 _ ?_, .threw T.heap.size, hrun, hend, T.heap.size, rfl, ⟨h, U.heap.size, hq _ hsz, rfl, Nat.le_trans hP.2.1 hsz, fun q hq1 => ?_, fun a e' ha => ⟨(hP.2.2.2 a e' ha).1, (hP.2.2.2 a e' ha).2.kept ?_⟩⟩, ⟨ce, hce, Kc.vm, by rw [← hW0.alike.findClass]; exact Kc.cls⟩, ?_, locs, ?_, hL⟩
  · show Steps p.tables e below (V.setTop (F0 m (pc + 3) la (.ref T.heap.size :: st))) U
    jvm_step X₁.here [X₁.here.top, C.1, C.2.1, d1, Value.category]
    exact hsteps
  · have h1 : H0[q]? = some H0[q] := Array.getElem?_eq_getElem hq1
    rw [h1]
    exact hkeep q _ ((hP.2.2.1 q hq1).trans h1)
  · have hlt : a < H.size := (hP.2.2.2 a e' ha).2.lt
    have h1 : H[a]? = some H[a] := Array.getElem?_eq_getElem hlt
    show U.heap[a]? = H[a]?
    rw [h1]
    exact hkeep a _ h1
  · exact State.WarmedH.trans (t := s') hW0 hWU
  · have h2 : (T.setVm s.vm).sameButNew ({ U with vm := s.vm } : State) [] 1 6 := by
      subst hs'
      obtain ⟨e1, e2, e3, e4, e5, e6⟩ := hsame
      refine ⟨?_, e2, e3, e4, e5, e6⟩
      have e7 := congrArg (fun x : State => x.setVm s.vm) e1
      rw [State.setFrames_setFrames] at e7
      exact e7
    have h3 := X.same.trans h2
    rw [List.append_nil] at h3
    exact h3.mono hkm hsm
end XT
section XI
variable {l : Launch} {D : va_G} {H0 : Heap} {μ ν : xa_Mu} {R : Room} {Z : xa_Z} {k n : Nat} {h : xa_H} {sz pc : Nat} {ls : List (Nat × Value)} {st : List Value}
variable {p : Program} {e : Env} {s : State} {m : MethodId} {args : Array Value} {below : List Frame} {meth : Method} {c : Code} {T : State} {locs : List Loc}
/-- a callee throws: where the caller stands then -/
theorem xa_inv (X : Stand p l e R s m args below meth c T locs k n) {fr lo mc ms np : Nat} {As : List Value} {Xn : String} {Q : xa_H → Nat → Prop} (hM : xa_T l D H0 ν fr lo mc ms As h sz Xn Q) (hts : ∀ w ∈ xa_ws, w.before args s = true) (hB : xa_LB ν np) (hK : va_K D xa_cl (xa_tys D) s) (hN : xa_N H0 s)
    (hP : xa_P D H0 h sz T.heap) (hL : ∀ q ∈ locs, H0.size ≤ q.base) {mk : MethodId} (hn : T.methodNamed? ν.1 = some mk) {g : JFrame} (hg : g.method = m) (hsize : g.locals.size = c.maxLocals) {ig : Instr} {len : Nat} (hdg : decode c.code g.pc = .ok (ig, len)) (hw : 2 * g.monitorRoom + (g.stack.map fun v => v.category).sum ≤ 8)
    (hR : fr + 1 ≤ R.frames ∧ 8 + (ν.2.2.1 + 11) + lo ≤ R.locals) (hc : k + mc ≤ R.cells) (hs : n + ms ≤ R.slots) :
    ∃ (x : Nat) (T' : State) (locs' : List Loc) (h' : xa_H) (sz' : Nat), Stand p l e R s m args below meth c T' locs' (k + mc) (n + ms) ∧ (∀ q ∈ locs', H0.size ≤ q.base) ∧ Q h' sz' ∧ xa_P D H0 h' sz' T'.heap ∧ (∃ ce : Cell, T'.heap[x]? = some ce ∧ ce.vm = .none ∧ s.vm.findClass Xn = some ce.cls) ∧
      Steps p.tables e below (doInvoke e (T.setTop g) [] mk As.toArray).1 ((T'.setTop g).pushFrame (.throwing x)) := by
  have hW := X.warmed
  have hcodeT : (xa_cd ν).before As.toArray T = true := word_at hW (good_of_word (xa_ws_good _ hB.1)) (hts _ hB.1)
  have hinitT : (Cond.initialized ν.1.cls).before As.toArray T = true := word_at hW (good_of_word (xa_ws_good _ hB.2.1)) (hts _ hB.2.1)
  obtain ⟨methY, cY, hmY, hcY, -, hlY, -, -, -, -⟩ := Cond.code_spec hn hcodeT
  obtain ⟨kY, hkY, -⟩ := className_of_methodNamed hn
  have hinitY : kY.init = .initialized := Cond.initialized_spec (findClass_of_methodNamed hn) hkY hinitT
  have hAt : At T g.method c below := by rw [hg]; exact X.here
  have hpre : (headSpec (xa_cd ν :: xa_ws) (xa_rm fr mc ms lo)).pre.before As.toArray T = true := atoms_intro fun w hw => by
    rcases List.mem_cons.mp hw with hw | hw
    · rw [hw]; exact hcodeT
    · exact word_at hW (good_of_word (xa_ws_good _ hw)) (hts _ hw)
  have happ : (headSpec (xa_cd ν :: xa_ws) (xa_rm fr mc ms lo)).appliesLoose ν.1 e.platform (T.calling g mk As.toArray) = true :=
    Spec.appliesLoose_calling (g := g) hAt hdg hn hkY hinitY (X.room_calling (g := g) (R' := xa_rm fr mc ms lo) hsize hmY hcY hR.1 (by rw [hlY]; have := hR.2; show _ + _ + _ + lo ≤ _; omega) hc hs) hpre
  obtain ⟨mid, hmid⟩ := hAt.above
  have hfr : (T.setTop g).frames = (.java g :: mid) ++ below := by rw [State.frames_setTop' g hAt.top, hmid]; rfl
  obtain ⟨o, s₂, hsteps, -, hend, hq⟩ := Steps.callFree hM p X.admits X.cas X.clock (acts := []) hfr happ ⟨rfl, hP, va_K.moved hW.alike hK, hN.moved hW.alike⟩ trivial
  obtain ⟨x, rfl, ⟨h', sz', hQ, hP'⟩, ⟨ce, hce, hcv, hcc⟩, hW₂, L, ⟨e2, q2, q3, q4, q5, q6⟩, hL'⟩ := hq
  rw [State.frames_setTop' g hAt.top] at hend
  have hf₂ : s₂.frames = .throwing x :: .java g :: T.frames.tail := hend
  have hW' : T.WarmedH s₂.vm := hW₂
  obtain ⟨g₀, hr⟩ := X.frames_eq
  obtain ⟨t0, ht0, -⟩ := State.frames_cons hr
  have e3 := congrArg (fun z : State => z.setVm s₂.vm) e2
  have hr' : (({ T with heap := s₂.heap, slotsUsed := s₂.slotsUsed } : State).setVm s₂.vm).frames = .java g₀ :: below := hr
  have hs₂ : s₂ = ((({ T with heap := s₂.heap, slotsUsed := s₂.slotsUsed } : State).setVm s₂.vm).setTop g).pushFrame (.throwing x) := by
    refine Eq.trans (b := (({ (T.calling g mk As.toArray).setFrames s₂.frames with heap := s₂.heap, slotsUsed := s₂.slotsUsed } : State).setVm s₂.vm)) e3 ?_
    rw [hf₂, State.calling_eq hAt.top, State.setFrames_setFrames, State.pushFrame, State.frames_setTop _ hr', State.setTop_of_frames _ hr', State.setFrames_setFrames, hr]
    rfl
  have hsame : T.sameButNew ({ T with heap := s₂.heap, slotsUsed := s₂.slotsUsed } : State) L mc ms := by
    refine ⟨?_, q2, q3, q4, q5, q6⟩
    show ({ T with heap := s₂.heap, slotsUsed := s₂.slotsUsed } : State) = { T.setFrames T.frames with heap := s₂.heap, slotsUsed := s₂.slotsUsed }
    rw [State.setFrames_self ht0]
  refine ⟨x, ({ T with heap := s₂.heap, slotsUsed := s₂.slotsUsed } : State).setVm s₂.vm, locs ++ L, h', sz',
    ⟨X.admits, X.cas, X.clock, X.frames, X.room, X.hears, X.method, X.code, (X.here.setHeapUsed s₂.heap s₂.slotsUsed).setVm hW'.alike, X.tail, State.WarmedH.trans hW hW', X.limits, X.bytes, X.same.trans (hsame.setVm s.vm)⟩,
    fun q hq => (List.mem_append.mp hq).elim (hL q) (hL' q), hQ, hP', ⟨ce, hce, hcv, ?_⟩, ?_⟩
  · have h1 : T.vm.findClass Xn = some ce.cls := hcc
    rw [← hW.alike.findClass]
    exact h1
  · rw [← hs₂]
    exact hsteps
end XI
section XJ
variable {l : Launch} {D : va_G} {H0 : Heap} {μ ν : xa_Mu} {R : Room} {Z : xa_Z} {k n : Nat} {h : xa_H} {sz pc : Nat} {ls : List (Nat × Value)} {st : List Value}
/-- the call's own step: where the callee begins -/
theorem xa_goV {p : Program} {e : Env} {s : State} {m : MethodId} {args : Array Value} {below : List Frame} {meth : Method} {c : Code} {T : State} {locs : List Loc} {la : Array Slot} {idx ci np b : Nat} {As st0 fs : List Value} (C : xa_C D H0 μ p s m args meth c) (X : Stand p l e R s m args below meth c T locs k n) (hP : xa_P D H0 h sz T.heap)
    (hd : decode μ.2.1 pc = .ok (.invokevirtual idx, 3)) (hLk : xa_LV μ.1.cls idx ν ci np) (hb : h b = some (.inr (ci, fs))) (hst : st0 = As.reverse ++ .ref b :: st) (hn : As.length = np) :
    ∃ (mk : MethodId) (vm₁ : Vm), Stand p l e R s m args below meth c (T.setVm vm₁) locs k n ∧ (T.setVm vm₁).methodNamed? ν.1 = some mk ∧ ∀ target, Steps p.tables e below (doInvoke e ((T.setVm vm₁).setTop (F0 m pc la st)) [] mk (Value.ref b :: As).toArray).1 target → Steps p.tables e below (T.setTop (F0 m pc la st0)) target := by
  obtain ⟨⟨b1, b2, b3, b4, b5⟩, b6, b7, b8, q, b9, b10⟩ := hLk
  have hts := C.2.2.2.2.1
  obtain ⟨cellB, hcB, hoB, hclB⟩ := xa_recv b9 C.2.2.2.2.2.1 hP hb
  rw [b10] at hclB
  obtain ⟨mk, methM, hnamed, hmethM, hstM, habM⟩ := Cond.instanceMethod_spec (hts _ b7)
  obtain ⟨methM', cM, hmethM', -, -, -, -, -, -, hsigM⟩ := Cond.code_spec hnamed (hts _ b1)
  cases hmethM.symm.trans hmethM'
  obtain ⟨c2, r2, m2, q1, q2, q3, q4, kP, hkP, hkPi⟩ := Cond.selects_spec (hts _ b8)
  cases hclB.symm.trans q1
  cases (State.methodFound?_of_named hnamed ⟨b3, b4⟩).symm.trans q2
  cases hnamed.symm.trans q3
  have hselP : selectMethod e.platform s.vm cellB.cls mk = .method mk := by rw [Launch.admits_selectMethod X.admits]; exact q4
  have hlen : As.length = methM.sig.parameters.length := by
    rw [hsigM] at b5
    exact hn.trans (Option.some.inj b5).symm
  obtain ⟨vm₁, X₁, hstep₁⟩ := X.invokevirtual C.1 C.2.2.2.1 (hts _ b6) hnamed hmethM hstM hkP hkPi ⟨b3, b4⟩ (a := b) (cell := cellB) hcB (fun z h9 => by rw [h9] at hoB; cases hoB) hselP hmethM habM hkP hkPi (g := F0 m pc la st0) rfl (argsL := As) (rest := st) hlen hst (by rw [C.2.1]; exact hd)
  exact ⟨mk, vm₁, X₁, X₁.named hnamed, fun target hs => hstep₁ target fun acts => by rw [doInvoke_state]; exact hs⟩
theorem xa_goS {p : Program} {e : Env} {s : State} {m : MethodId} {args : Array Value} {below : List Frame} {meth : Method} {c : Code} {T : State} {locs : List Loc} {la : Array Slot} {idx np : Nat} {As st0 : List Value} (C : xa_C D H0 μ p s m args meth c) (X : Stand p l e R s m args below meth c T locs k n)
    (hd : decode μ.2.1 pc = .ok (.invokestatic idx, 3)) (hLk : xa_LS μ.1.cls idx ν np) (hst : st0 = As.reverse ++ st) (hn : As.length = np) :
    ∃ (mk : MethodId) (vm₁ : Vm), Stand p l e R s m args below meth c (T.setVm vm₁) locs k n ∧ (T.setVm vm₁).methodNamed? ν.1 = some mk ∧ ∀ target, Steps p.tables e below (doInvoke e ((T.setVm vm₁).setTop (F0 m pc la st)) [] mk As.toArray).1 target → Steps p.tables e below (T.setTop (F0 m pc la st0)) target := by
  obtain ⟨⟨b1, b2, b3, b4, b5⟩, b6, b7⟩ := hLk
  have hts := C.2.2.2.2.1
  obtain ⟨mk, hnamed⟩ := Cond.code_named (hts _ b1)
  obtain ⟨methM, cM, hmethM, -, -, -, -, -, -, hsigM⟩ := Cond.code_spec hnamed (hts _ b1)
  have hstatic : methM.isStatic = true := Cond.static_spec hnamed hmethM (hts _ b7)
  obtain ⟨kP, hkP, -⟩ := className_of_methodNamed hnamed
  have hinitP : kP.init = .initialized := Cond.initialized_spec (findClass_of_methodNamed hnamed) hkP (hts _ b2)
  have hlen : As.length = methM.sig.parameters.length := by
    rw [hsigM] at b5
    exact hn.trans (Option.some.inj b5).symm
  obtain ⟨vm₁, X₁, hstep₁⟩ := X.invokestatic C.1 C.2.2.2.1 (hts _ b6) hnamed hmethM hstatic hkP hinitP ⟨b3, b4⟩ (g := F0 m pc la st0) rfl (argsL := As) (rest := st) hlen hst (by rw [C.2.1]; exact hd)
  exact ⟨mk, vm₁, X₁, X₁.named hnamed, fun target hs => hstep₁ target fun acts => by rw [doInvoke_state]; exact hs⟩
theorem xa_thru {p : Program} {e : Env} {s : State} {m : MethodId} {args : Array Value} {below : List Frame} {meth : Method} {c : Code} {T0 T' : State} {locs : List Loc} {la : Array Slot} {st0 : List Value} {Xn : String} {Q : xa_H → Nat → Prop} {mc ms k' n' x sz' : Nat} {h' : xa_H} (C : xa_C D H0 μ p s m args meth c) (hE : μ.2.2.2.2 = [])
    (X' : Stand p l e R s m args below meth c T' locs k' n') (hL : ∀ q ∈ locs, H0.size ≤ q.base) (hQ : Q h' sz') (hP' : xa_P D H0 h' sz' T'.heap) (hce : ∃ ce : Cell, T'.heap[x]? = some ce ∧ ce.vm = .none ∧ s.vm.findClass Xn = some ce.cls) (hk : k' ≤ mc) (hn : n' ≤ ms)
    (steps : Steps p.tables e below (T0.setTop (F0 m pc la st0)) ((T'.setTop (F0 m pc la st)).pushFrame (.throwing x))) : ∃ t, Steps p.tables e below (T0.setTop (F0 m pc la st0)) t ∧ xa_Zt D H0 mc ms Xn Q below args s t := by
  have hcd : c.exceptionTable.toList = [] := by
    have h1 := C.2.2.2.2.2.2.2.2.2.1
    rw [hE] at h1
    exact List.map_eq_nil_iff.mp h1
  obtain ⟨l1, l2, l3, l4, l5⟩ := X'.leaveThrown x (g := F0 m pc la st) rfl rfl rfl (by rw [hcd]; intro y hy; cases hy) (hlocks := C.2.2.2.2.2.2.2.1)
  exact ⟨T'.setFrames (.throwing x :: below), steps.trans l1, .threw x, l2, l3, x, rfl, ⟨h', sz', hQ, hP'⟩, hce, l4, locs, l5.mono hk hn, hL⟩
theorem xa_callVT {idx fr lo mc ms np ci b mc' ms' : Nat} {As st0 fs : List Value} {Xn : String} {Q Q' : xa_H → Nat → Prop} (hd : decode μ.2.1 pc = .ok (.invokevirtual idx, 3)) (hE : μ.2.2.2.2 = []) (hLk : xa_LV μ.1.cls idx ν ci np) (hb : h b = some (.inr (ci, fs))) (hM : xa_T l D H0 ν fr lo mc ms (.ref b :: As) h sz Xn Q) (hst : st0 = As.reverse ++ .ref b :: st)
    (hn : As.length = np) (hw : (st.map fun v => v.category).sum ≤ 8) (hR : fr + 1 ≤ R.frames ∧ 8 + (ν.2.2.1 + 11) + lo ≤ R.locals) (hc : k + mc ≤ R.cells) (hs : n + ms ≤ R.slots) (hkm : k + mc ≤ mc') (hsm : n + ms ≤ ms') (hq : ∀ h' sz', Q h' sz' → Q' h' sz') : xa_X l D H0 μ R (xa_Zt D H0 mc' ms' Xn Q') k n h sz pc ls st0 := by
  intro p e s m args below meth c H locs la C hP hL hl T hT X
  have hP0 : xa_P D H0 h sz T.heap := by rw [hT]; exact hP
  obtain ⟨mk, vm₁, X₁, hnm, go⟩ := xa_goV (la := la) (st := st) C X hP0 hd hLk hb hst hn
  obtain ⟨x, T', locs', h', sz', X', hL', hQ, hP', hce, steps⟩ := xa_inv X₁ hM C.2.2.2.2.1 hLk.1 C.2.2.2.2.2.1 C.2.2.2.2.2.2.2.2.2.2 hP0 hL hnm (g := F0 m pc la st) rfl (by rw [C.2.2.1]; exact hl.1) (by rw [C.2.1]; exact hd) (lv_room hw) hR hc hs
  exact xa_thru C hE X' hL' (hq _ _ hQ) hP' hce hkm hsm (go _ steps)
theorem xa_callST {idx fr lo mc ms np mc' ms' : Nat} {As st0 : List Value} {Xn : String} {Q Q' : xa_H → Nat → Prop} (hd : decode μ.2.1 pc = .ok (.invokestatic idx, 3)) (hE : μ.2.2.2.2 = []) (hLk : xa_LS μ.1.cls idx ν np) (hM : xa_T l D H0 ν fr lo mc ms As h sz Xn Q) (hst : st0 = As.reverse ++ st)
    (hn : As.length = np) (hw : (st.map fun v => v.category).sum ≤ 8) (hR : fr + 1 ≤ R.frames ∧ 8 + (ν.2.2.1 + 11) + lo ≤ R.locals) (hc : k + mc ≤ R.cells) (hs : n + ms ≤ R.slots) (hkm : k + mc ≤ mc') (hsm : n + ms ≤ ms') (hq : ∀ h' sz', Q h' sz' → Q' h' sz') : xa_X l D H0 μ R (xa_Zt D H0 mc' ms' Xn Q') k n h sz pc ls st0 := by
  intro p e s m args below meth c H locs la C hP hL hl T hT X
  have hP0 : xa_P D H0 h sz T.heap := by rw [hT]; exact hP
  obtain ⟨mk, vm₁, X₁, hnm, go⟩ := xa_goS (la := la) (st := st) C X hd hLk hst hn
  obtain ⟨x, T', locs', h', sz', X', hL', hQ, hP', hce, steps⟩ := xa_inv X₁ hM C.2.2.2.2.1 hLk.1 C.2.2.2.2.2.1 C.2.2.2.2.2.2.2.2.2.2 hP0 hL hnm (g := F0 m pc la st) rfl (by rw [C.2.2.1]; exact hl.1) (by rw [C.2.1]; exact hd) (lv_room hw) hR hc hs
  exact xa_thru C hE X' hL' (hq _ _ hQ) hP' hce hkm hsm (go _ steps)
end XJ
end
section
/-! An exception that a callee throws is caught: the handlers' kinds may be unresolved still. -/
theorem xa_fg {E : CtlPost} {e : Env} {d : Bool} {acts : List Action} {u : State} {f : JFrame} {a : Addr} {Q : Handler → Pre} {y : ExceptionTableEntry} {t : List ExceptionTableEntry} {c : ClassId} {vm' : Vm} {cell : Cell} (hx : covers y f.pc = true) (h0 : y.catchType ≠ 0)
    (hg : (Jvm.resolveClass f.method.cls y.catchType).Gives e.toSetting u.vm (.ok c) vm') (hsz : vm'.classes.size ≤ u.vm.classes.size) (hcell : u.heap[a]? = some cell) (hobj : ∀ k, cell.vm ≠ .statics k) (hk : ∃ k, vm'.classes[cell.cls]? = some k) (hc : ∃ k, vm'.classes[c]? = some k) :
    wp (findHandler.go f a (y :: t)) Q E e d acts u ↔ if vm'.assignable cell.cls c = true then Q (.found y.handlerPc) d acts (u.setVm vm') else wp (findHandler.go f a t) Q E e d acts (u.setVm vm') := by
  simp only [covers] at hx
  obtain ⟨ha, ht⟩ := hg.op (op := VmOp.resolveClass f.method.cls y.catchType) rfl
  cases hfit : vm'.assignable cell.cls c <;> simp [findHandler.go, hx, h0, ha, ht, hsz, hcell, hobj, hk, hc, hfit, VmOp.dirties, VmOp.acts]
section XK
variable {l : Launch} {D : va_G} {H0 : Heap} {μ ν : xa_Mu} {R : Room} {Z : xa_Z} {k n : Nat} {h : xa_H} {sz pc : Nat} {ls : List (Nat × Value)} {st : List Value}
variable {p : Program} {e : Env} {s : State} {m : MethodId} {args : Array Value} {below : List Frame} {meth : Method} {c : Code} {T : State} {locs : List Loc}
/-- one entry of the table, its kind resolved or not -/
theorem xa_ent (hpl : e.platform.magicAccessors = ({} : Platform).magicAccessors) (hown : s.vm.findClass μ.1.cls = some m.cls) {w : Vm} (hW : s.WarmedH w) {ct : Nat} {Y : String} (hl : (Cond.classLink μ.1.cls ct Y).before args s = true) :
    ∃ cY, s.vm.findClass Y = some cY ∧ (Jvm.resolveClass m.cls ct).Gives e.toSetting w (.ok cY) (w.noted m.cls ct (.cls cY)) ∧ s.WarmedH (w.noted m.cls ct (.cls cY)) := by
  obtain ⟨cY, hf, hlk⟩ := Cond.classLink_spec hown hl e.platform hpl
  obtain ⟨dk, _, _, _, hd, _, _, _, _, _, _, hres⟩ := hlk.here
  exact ⟨cY, hf, resolveClass_links e.toSetting (hW.classLinks hlk), hW.noted hd hres (State.rightAt_cls hlk)⟩
theorem xa_srch {x : Nat} {g : JFrame} {Xn : String} {ce : Cell} {en : ExceptionTableEntry} {rest : List ExceptionTableEntry} (hpl : e.platform.magicAccessors = ({} : Platform).magicAccessors) (hown : s.vm.findClass μ.1.cls = some m.cls) (hg : g.method = m) (hcell : T.heap[x]? = some ce) (hcv : ce.vm = .none) (hcc : s.vm.findClass Xn = some ce.cls) (hself : s.vm.assignable ce.cls ce.cls = true)
    (hen : covers en g.pc = true ∧ en.catchType ≠ 0 ∧ (Cond.classLink μ.1.cls en.catchType Xn).before args s = true) :
    ∀ (pre : List ExceptionTableEntry), (∀ y ∈ pre, covers y g.pc = true ∧ y.catchType ≠ 0 ∧ ∃ Y, (Cond.classLink μ.1.cls y.catchType Y).before args s = true ∧ va_Nc Xn Y s) → ∀ w, s.WarmedH w →
      ∃ w', s.WarmedH w' ∧ ∀ (Q : Handler → Pre) (E : CtlPost) (d : Bool) (acts : List Action), wp (findHandler.go g x (pre ++ en :: rest)) Q E e d acts (((T.setVm w).setTop g).pushFrame (.throwing x)) ↔ Q (.found en.handlerPc) d acts (((T.setVm w').setTop g).pushFrame (.throwing x)) := by
  have hobj : ∀ k, ce.vm ≠ .statics k := fun k h9 => by rw [hcv] at h9; cases h9
  have hcls : ∀ {C : String} {cC : ClassId} {w : Vm}, s.WarmedH w → s.vm.findClass C = some cC → ∃ k, w.classes[cC]? = some k := fun hW hf => by
    obtain ⟨k, hk⟩ := Vm.classAt_of_findClass hf
    obtain ⟨k', hk', -⟩ := hW.alike.2.2 _ _ hk
    exact ⟨k', hk'⟩
  intro pre
  induction pre with
  | nil =>
    intro _ w hW
    obtain ⟨cY, hf, hgv, hW'⟩ := xa_ent (e := e) hpl hown hW hen.2.2
    cases hcc.symm.trans hf
    refine ⟨_, hW', fun Q E d acts => ?_⟩
    have hh := xa_fg (Q := Q) (E := E) (d := d) (acts := acts) (e := e) (u := ((T.setVm w).setTop g).pushFrame (.throwing x)) (t := rest) (vm' := w.noted m.cls en.catchType (.cls ce.cls)) (cell := ce) hen.1 hen.2.1 (by rw [hg]; exact hgv) (Nat.le_of_eq (Vm.size_note _ _ _ _)) hcell hobj (hcls hW' hcc) (hcls hW' hcc)
    rw [if_pos ((hW'.alike.assignable _ _).trans hself)] at hh
    exact hh
  | cons y t ih =>
    intro hpre w hW
    obtain ⟨h1, h2, Y, hl, cX, tY, q1, q2, q3⟩ := hpre y List.mem_cons_self
    cases hcc.symm.trans q1
    obtain ⟨cY, hf, hgv, hW'⟩ := xa_ent (e := e) hpl hown hW hl
    cases q2.symm.trans hf
    obtain ⟨w', hw', hs⟩ := ih (fun z hz => hpre z (List.mem_cons_of_mem _ hz)) _ hW'
    refine ⟨w', hw', fun Q E d acts => ?_⟩
    have hh := xa_fg (Q := Q) (E := E) (d := d) (acts := acts) (e := e) (u := ((T.setVm w).setTop g).pushFrame (.throwing x)) (t := t ++ en :: rest) (vm' := w.noted m.cls y.catchType (.cls tY)) (cell := ce) h1 h2 (by rw [hg]; exact hgv) (Nat.le_of_eq (Vm.size_note _ _ _ _)) hcell hobj (hcls hW' hcc) (hcls hW' q2)
    rw [if_neg (fun z => Bool.false_ne_true (((hW'.alike.assignable _ _).trans q3).symm.trans z))] at hh
    exact hh.trans (hs Q E d acts)
/-- the step that catches -/
theorem xa_caught {x tgt : Nat} {g : JFrame} {w w' : Vm} {target : State} (hAt : At (T.setVm w) g.method c below) (hAt' : At (T.setVm w') g.method c below) (hm : w.method? g.method = some meth) (hc : meth.code = some c)
    (hf : ∀ (Q : Handler → Pre) (E : CtlPost) (d : Bool) (acts : List Action), wp (findHandler.go g x c.exceptionTable.toList) Q E e d acts (((T.setVm w).setTop g).pushFrame (.throwing x)) ↔ Q (.found tgt) d acts (((T.setVm w').setTop g).pushFrame (.throwing x)))
    (hrest : Steps p.tables e below ((T.setVm w').setTop { g with pc := tgt, stack := [.ref x] }) target) : Steps p.tables e below (((T.setVm w).setTop g).pushFrame (.throwing x)) target := by
  have hfind : ∀ (Q : Handler → Pre) (E : CtlPost) (d : Bool) (acts : List Action), wp (findHandler g x) Q E e d acts (((T.setVm w).setTop g).pushFrame (.throwing x)) ↔ Q (.found tgt) d acts (((T.setVm w').setTop g).pushFrame (.throwing x)) := fun Q E d acts => by
    rw [W.findHandler_eq (meth := meth) (code := c) hm hc]
    exact hf Q E d acts
  have hstep : (stepThrowing e (((T.setVm w).setTop g).pushFrame (.throwing x)) x (.java g :: (T.setVm w).frames.tail)).Is ((((T.setVm w').setTop g).pushFrame (.throwing x)).setFrames (.java { g with pc := tgt, stack := [.ref x] } :: (T.setVm w).frames.tail)) [] := by
    simp only [stepThrowing, searchFrame, vmDo]
    generalize hr : Sem.go _ e false [] (((T.setVm w).setTop g).pushFrame (.throwing x)) = res
    obtain ⟨as, rfl, ha⟩ := Sem.eq_ok_of hr (a := Handler.found tgt) (s' := ((T.setVm w').setTop g).pushFrame (.throwing x)) (acts' := []) (by simp [hfind _ _ _ _])
    exact ⟨rfl, ha⟩
  obtain ⟨hgo, hwi⟩ := hAt.throwing x
  refine Steps.head hgo hwi ?_
  rw [stepThread_throwing (frames_entered hAt.top _), hstep.1]
  obtain ⟨g₀, hg0⟩ := Option.isSome_iff_exists.mp hAt'.top
  obtain ⟨r, hr⟩ := State.topJava?_eq_some.mp hg0
  have hr2 : (T.setVm w).frames = .java g₀ :: r := hr
  rw [State.pushFrame, State.setFrames_setFrames, State.setTop_of_frames _ hr, State.setFrames_setFrames, hr2]
  rw [State.setTop_of_frames _ hr] at hrest
  exact hrest
end XK
def xa_cat (H0 : Heap) (μ : xa_Mu) (pc : Nat) (Xn : String) (tgt : Nat) : Prop := Cond.castable Xn Xn ∈ xa_ws ∧ ∃ (pre : List (Nat × Nat × Nat × Nat)) (en : Nat × Nat × Nat × Nat) (rest : List (Nat × Nat × Nat × Nat)), μ.2.2.2.2 = pre ++ en :: rest ∧ en.2.2.1 = tgt ∧ (decide (en.1 ≤ pc) && decide (pc < en.2.1)) = true ∧ en.2.2.2 ≠ 0 ∧ Cond.classLink μ.1.cls en.2.2.2 Xn ∈ xa_ws ∧
  ∀ y ∈ pre, (decide (y.1 ≤ pc) && decide (pc < y.2.1)) = true ∧ y.2.2.2 ≠ 0 ∧ ∃ Y, Cond.classLink μ.1.cls y.2.2.2 Y ∈ xa_ws ∧ ∀ U, xa_N H0 U → va_Nc Xn Y U
section XL
variable {l : Launch} {D : va_G} {H0 : Heap} {μ ν : xa_Mu} {R : Room} {Z : xa_Z} {k n : Nat} {h : xa_H} {sz pc : Nat} {ls : List (Nat × Value)} {st : List Value}
theorem xa_callVC {idx fr lo mc ms np ci b tgt : Nat} {As st0 fs : List Value} {Xn : String} {Q : xa_H → Nat → Prop} (hd : decode μ.2.1 pc = .ok (.invokevirtual idx, 3)) (hcat : xa_cat H0 μ pc Xn tgt) (hLk : xa_LV μ.1.cls idx ν ci np) (hb : h b = some (.inr (ci, fs))) (hM : xa_T l D H0 ν fr lo mc ms (.ref b :: As) h sz Xn Q) (hst : st0 = As.reverse ++ .ref b :: st)
    (hn : As.length = np) (hw : (st.map fun v => v.category).sum ≤ 8) (hR : fr + 1 ≤ R.frames ∧ 8 + (ν.2.2.1 + 11) + lo ≤ R.locals) (hc : k + mc ≤ R.cells) (hs : n + ms ≤ R.slots) (kk : ∀ (x : Nat) (h' : xa_H) (sz' : Nat), Q h' sz' → xa_X l D H0 μ R Z (k + mc) (n + ms) h' sz' tgt ls [.ref x]) : xa_X l D H0 μ R Z k n h sz pc ls st0 := by
  intro p e s m args below meth c H locs la C hP hL hl T hT X
  have hP0 : xa_P D H0 h sz T.heap := by rw [hT]; exact hP
  obtain ⟨mk, vm₁, X₁, hnm, go⟩ := xa_goV (la := la) (st := st) C X hP0 hd hLk hb hst hn
  obtain ⟨x, T', locs', h', sz', X', hL', hQ, hP', ⟨ce, hce, hcv, hcc⟩, steps⟩ := xa_inv X₁ hM C.2.2.2.2.1 hLk.1 C.2.2.2.2.2.1 C.2.2.2.2.2.2.2.2.2.2 hP0 hL hnm (g := F0 m pc la st) rfl (by rw [C.2.2.1]; exact hl.1) (by rw [C.2.1]; exact hd) (lv_room hw) hR hc hs
  obtain ⟨hcast, pre, en, rest, htab, htgt, hcov, hct, hcl, hpre⟩ := hcat
  have hts := C.2.2.2.2.1
  have hpl : e.platform.magicAccessors = ({} : Platform).magicAccessors := by rw [X.admits.platform]
  have hself : s.vm.assignable ce.cls ce.cls = true := by
    obtain ⟨c3, c4, hc3, hc4, hasg⟩ := Cond.castable_spec (hts _ hcast)
    cases hcc.symm.trans hc3
    cases hcc.symm.trans hc4
    exact hasg
  have htb := C.2.2.2.2.2.2.2.2.2.1
  rw [htab] at htb
  obtain ⟨pre', r1, e1, e2, e3⟩ := List.map_eq_append_iff.mp htb
  obtain ⟨en', rest', e4, e5, e6⟩ := List.map_eq_cons_iff.mp e3
  subst e5
  obtain ⟨w', hw', hsr⟩ := xa_srch (μ := μ) (args := args) (T := T') (g := F0 m pc la st) (x := x) (en := en') (rest := rest') hpl C.2.2.2.1 rfl hce hcv hcc hself ⟨hcov, hct, hts _ hcl⟩ pre' (fun y hy => by
    have h1 := hpre _ (by rw [← e2]; exact List.mem_map.mpr ⟨y, hy, rfl⟩)
    obtain ⟨a1, a2, Y, a3, a4⟩ := h1
    exact ⟨a1, a2, Y, hts _ a3, a4 s C.2.2.2.2.2.2.2.2.2.2⟩) T'.vm X'.warmed
  have X2 := X'.noted hw'
  obtain ⟨t2, b1, b2⟩ := kk x h' sz' hQ p e s m args below meth c T'.heap locs' la C hP' hL' hl (T'.setVm w') rfl X2
  refine ⟨t2, go _ (steps.trans ?_), b2⟩
  refine xa_caught (T := T') (w := T'.vm) (w' := w') (g := F0 m pc la st) (meth := meth) (c := c) (tgt := tgt) X'.here X2.here X'.method' X'.code (fun Q E d acts => ?_) b1
  rw [e1, e4, ← htgt]
  exact hsr Q E d acts
end XL
end
