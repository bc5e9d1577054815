section
-- ===== PART A: goes FIRST, ahead of the names: the tables' words, and 'selects' of the private methods out of them =====
/-- a private method of a class that the tables say can be made, by its rows of tables_1 -/
def lw_okq (q : MethodName × Nat) : Prop := (q.1.cls ≠ "java/lang/invoke/MethodHandle" ∧ q.1.cls ≠ "java/lang/invoke/VarHandle") ∧ Cond.instantiable q.1.cls q.2 ∈ tables_1 ∧ Cond.privateMethod q.1 ∈ tables_1 ∧ Cond.instanceMethod q.1 ∈ tables_1
theorem lw_p0 : lw_okq (⟨"ProcessorHouse", "thingAt", "(I)LProcessorHouse$Thing;"⟩, 4) := ⟨⟨by decide +kernel, by decide +kernel⟩, List.mem_of_getElem? (i := 23) (by decide +kernel), List.mem_of_getElem? (i := 50) (by decide +kernel), List.mem_of_getElem? (i := 51) (by decide +kernel)⟩
theorem lw_p1 : lw_okq (⟨"java/lang/Throwable", "fillInStackTrace", "(I)Ljava/lang/Throwable;"⟩, 6) := ⟨⟨by decide +kernel, by decide +kernel⟩, List.mem_of_getElem? (i := 113) (by decide +kernel), List.mem_of_getElem? (i := 111) (by decide +kernel), List.mem_of_getElem? (i := 112) (by decide +kernel)⟩
theorem lw_p2 : lw_okq (⟨"ProcessorHouse", "admit", "(LProcessorHouse$Thing;)I"⟩, 4) := ⟨⟨by decide +kernel, by decide +kernel⟩, List.mem_of_getElem? (i := 23) (by decide +kernel), List.mem_of_getElem? (i := 165) (by decide +kernel), List.mem_of_getElem? (i := 166) (by decide +kernel)⟩
theorem lw_p3 : lw_okq (⟨"ProcessorHouse", "refuse", "(I)V"⟩, 4) := ⟨⟨by decide +kernel, by decide +kernel⟩, List.mem_of_getElem? (i := 23) (by decide +kernel), List.mem_of_getElem? (i := 169) (by decide +kernel), List.mem_of_getElem? (i := 170) (by decide +kernel)⟩
theorem lw_p4 : lw_okq (⟨"ProcessorHouse", "machineAt", "(I)LProcessorHouse$Machine;"⟩, 4) := ⟨⟨by decide +kernel, by decide +kernel⟩, List.mem_of_getElem? (i := 23) (by decide +kernel), List.mem_of_getElem? (i := 198) (by decide +kernel), List.mem_of_getElem? (i := 199) (by decide +kernel)⟩
theorem lw_p5 : lw_okq (⟨"ProcessorHouse", "livingAt", "(I)LProcessorHouse$Thing;"⟩, 4) := ⟨⟨by decide +kernel, by decide +kernel⟩, List.mem_of_getElem? (i := 23) (by decide +kernel), List.mem_of_getElem? (i := 202) (by decide +kernel), List.mem_of_getElem? (i := 203) (by decide +kernel)⟩
theorem lw_p6 : lw_okq (⟨"ProcessorHouse", "programAt", "(I)LProcessorHouse$Program;"⟩, 4) := ⟨⟨by decide +kernel, by decide +kernel⟩, List.mem_of_getElem? (i := 23) (by decide +kernel), List.mem_of_getElem? (i := 240) (by decide +kernel), List.mem_of_getElem? (i := 241) (by decide +kernel)⟩
theorem lw_p7 : lw_okq (⟨"ProcessorHouse", "refuseIfUsed", "(LProcessorHouse$Thing;)V"⟩, 4) := ⟨⟨by decide +kernel, by decide +kernel⟩, List.mem_of_getElem? (i := 23) (by decide +kernel), List.mem_of_getElem? (i := 245) (by decide +kernel), List.mem_of_getElem? (i := 246) (by decide +kernel)⟩
theorem lw_p8 : lw_okq (⟨"ProcessorHouse", "refuseIfEmpty", "(LProcessorHouse$Program;)V"⟩, 4) := ⟨⟨by decide +kernel, by decide +kernel⟩, List.mem_of_getElem? (i := 23) (by decide +kernel), List.mem_of_getElem? (i := 336) (by decide +kernel), List.mem_of_getElem? (i := 337) (by decide +kernel)⟩
theorem lw_p9 : lw_okq (⟨"ProcessorHouse", "runAt", "(I)LProcessorHouse$Run;"⟩, 4) := ⟨⟨by decide +kernel, by decide +kernel⟩, List.mem_of_getElem? (i := 23) (by decide +kernel), List.mem_of_getElem? (i := 381) (by decide +kernel), List.mem_of_getElem? (i := 382) (by decide +kernel)⟩
theorem lw_p10 : lw_okq (⟨"ProcessorHouse$Run", "perform", "(LProcessorHouse$Word;JJ)V"⟩, 7) := ⟨⟨by decide +kernel, by decide +kernel⟩, List.mem_of_getElem? (i := 340) (by decide +kernel), List.mem_of_getElem? (i := 400) (by decide +kernel), List.mem_of_getElem? (i := 401) (by decide +kernel)⟩
theorem lw_p11 : lw_okq (⟨"ProcessorHouse", "coreAt", "(I)LProcessorHouse$Core;"⟩, 4) := ⟨⟨by decide +kernel, by decide +kernel⟩, List.mem_of_getElem? (i := 23) (by decide +kernel), List.mem_of_getElem? (i := 483) (by decide +kernel), List.mem_of_getElem? (i := 484) (by decide +kernel)⟩
theorem lw_p12 : lw_okq (⟨"ProcessorHouse", "refuseIfApart", "(LProcessorHouse$Machine;LProcessorHouse$Machine;)V"⟩, 4) := ⟨⟨by decide +kernel, by decide +kernel⟩, List.mem_of_getElem? (i := 23) (by decide +kernel), List.mem_of_getElem? (i := 495) (by decide +kernel), List.mem_of_getElem? (i := 496) (by decide +kernel)⟩
theorem lw_p13 : lw_okq (⟨"ProcessorHouse", "simAt", "(I)LProcessorHouse$Sim;"⟩, 4) := ⟨⟨by decide +kernel, by decide +kernel⟩, List.mem_of_getElem? (i := 23) (by decide +kernel), List.mem_of_getElem? (i := 548) (by decide +kernel), List.mem_of_getElem? (i := 549) (by decide +kernel)⟩
theorem lw_p14 : lw_okq (⟨"ProcessorHouse$Sim", "entryOf", "(LProcessorHouse$Word;)I"⟩, 11) := ⟨⟨by decide +kernel, by decide +kernel⟩, List.mem_of_getElem? (i := 499) (by decide +kernel), List.mem_of_getElem? (i := 559) (by decide +kernel), List.mem_of_getElem? (i := 560) (by decide +kernel)⟩
theorem lw_p15 : lw_okq (⟨"ProcessorHouse$Sim", "enter", "(LProcessorHouse$Word;)V"⟩, 11) := ⟨⟨by decide +kernel, by decide +kernel⟩, List.mem_of_getElem? (i := 499) (by decide +kernel), List.mem_of_getElem? (i := 575) (by decide +kernel), List.mem_of_getElem? (i := 576) (by decide +kernel)⟩
def lw_privs_1 : List (MethodName × Nat) := [(⟨"ProcessorHouse", "thingAt", "(I)LProcessorHouse$Thing;"⟩, 4), (⟨"java/lang/Throwable", "fillInStackTrace", "(I)Ljava/lang/Throwable;"⟩, 6), (⟨"ProcessorHouse", "admit", "(LProcessorHouse$Thing;)I"⟩, 4), (⟨"ProcessorHouse", "refuse", "(I)V"⟩, 4), (⟨"ProcessorHouse", "machineAt", "(I)LProcessorHouse$Machine;"⟩, 4), (⟨"ProcessorHouse", "livingAt", "(I)LProcessorHouse$Thing;"⟩, 4), (⟨"ProcessorHouse", "programAt", "(I)LProcessorHouse$Program;"⟩, 4), (⟨"ProcessorHouse", "refuseIfUsed", "(LProcessorHouse$Thing;)V"⟩, 4), (⟨"ProcessorHouse", "refuseIfEmpty", "(LProcessorHouse$Program;)V"⟩, 4), (⟨"ProcessorHouse", "runAt", "(I)LProcessorHouse$Run;"⟩, 4), (⟨"ProcessorHouse$Run", "perform", "(LProcessorHouse$Word;JJ)V"⟩, 7), (⟨"ProcessorHouse", "coreAt", "(I)LProcessorHouse$Core;"⟩, 4), (⟨"ProcessorHouse", "refuseIfApart", "(LProcessorHouse$Machine;LProcessorHouse$Machine;)V"⟩, 4), (⟨"ProcessorHouse", "simAt", "(I)LProcessorHouse$Sim;"⟩, 4), (⟨"ProcessorHouse$Sim", "entryOf", "(LProcessorHouse$Word;)I"⟩, 11), (⟨"ProcessorHouse$Sim", "enter", "(LProcessorHouse$Word;)V"⟩, 11)]
theorem lw_r1 : ∀ q ∈ lw_privs_1, lw_okq q := List.forall_mem_cons.mpr ⟨lw_p0, List.forall_mem_cons.mpr ⟨lw_p1, List.forall_mem_cons.mpr ⟨lw_p2, List.forall_mem_cons.mpr ⟨lw_p3, List.forall_mem_cons.mpr ⟨lw_p4, List.forall_mem_cons.mpr ⟨lw_p5, List.forall_mem_cons.mpr ⟨lw_p6, List.forall_mem_cons.mpr ⟨lw_p7, List.forall_mem_cons.mpr ⟨lw_p8, List.forall_mem_cons.mpr ⟨lw_p9, List.forall_mem_cons.mpr ⟨lw_p10, List.forall_mem_cons.mpr ⟨lw_p11, List.forall_mem_cons.mpr ⟨lw_p12, List.forall_mem_cons.mpr ⟨lw_p13, List.forall_mem_cons.mpr ⟨lw_p14, List.forall_mem_cons.mpr ⟨lw_p15, fun _ h => absurd h List.not_mem_nil⟩⟩⟩⟩⟩⟩⟩⟩⟩⟩⟩⟩⟩⟩⟩⟩
theorem lw_p16 : lw_okq (⟨"ProcessorHouse", "shownAt", "(I)LProcessorHouse$Run;"⟩, 4) := ⟨⟨by decide +kernel, by decide +kernel⟩, List.mem_of_getElem? (i := 23) (by decide +kernel), List.mem_of_getElem? (i := 592) (by decide +kernel), List.mem_of_getElem? (i := 593) (by decide +kernel)⟩
theorem lw_p17 : lw_okq (⟨"ProcessorHouse", "pairAt", "(I)LProcessorHouse$Pair;"⟩, 4) := ⟨⟨by decide +kernel, by decide +kernel⟩, List.mem_of_getElem? (i := 23) (by decide +kernel), List.mem_of_getElem? (i := 683) (by decide +kernel), List.mem_of_getElem? (i := 684) (by decide +kernel)⟩
theorem lw_p18 : lw_okq (⟨"ProcessorHouse", "refuseIfTooLarge", "(LProcessorHouse$Pair;)V"⟩, 4) := ⟨⟨by decide +kernel, by decide +kernel⟩, List.mem_of_getElem? (i := 23) (by decide +kernel), List.mem_of_getElem? (i := 688) (by decide +kernel), List.mem_of_getElem? (i := 689) (by decide +kernel)⟩
theorem lw_p19 : lw_okq (⟨"ProcessorHouse$Explorer", "keepTrial", "()V"⟩, 10) := ⟨⟨by decide +kernel, by decide +kernel⟩, List.mem_of_getElem? (i := 692) (by decide +kernel), List.mem_of_getElem? (i := 740) (by decide +kernel), List.mem_of_getElem? (i := 741) (by decide +kernel)⟩
theorem lw_p20 : lw_okq (⟨"ProcessorHouse$Explorer", "mixed", "()I"⟩, 10) := ⟨⟨by decide +kernel, by decide +kernel⟩, List.mem_of_getElem? (i := 692) (by decide +kernel), List.mem_of_getElem? (i := 744) (by decide +kernel), List.mem_of_getElem? (i := 745) (by decide +kernel)⟩
theorem lw_p21 : lw_okq (⟨"ProcessorHouse$Explorer", "putTrial", "(I)V"⟩, 10) := ⟨⟨by decide +kernel, by decide +kernel⟩, List.mem_of_getElem? (i := 692) (by decide +kernel), List.mem_of_getElem? (i := 749) (by decide +kernel), List.mem_of_getElem? (i := 750) (by decide +kernel)⟩
theorem lw_p22 : lw_okq (⟨"ProcessorHouse$Explorer", "isTrial", "(I)Z"⟩, 10) := ⟨⟨by decide +kernel, by decide +kernel⟩, List.mem_of_getElem? (i := 692) (by decide +kernel), List.mem_of_getElem? (i := 756) (by decide +kernel), List.mem_of_getElem? (i := 757) (by decide +kernel)⟩
theorem lw_p23 : lw_okq (⟨"ProcessorHouse$Explorer", "goOnFrom", "(I)V"⟩, 10) := ⟨⟨by decide +kernel, by decide +kernel⟩, List.mem_of_getElem? (i := 692) (by decide +kernel), List.mem_of_getElem? (i := 760) (by decide +kernel), List.mem_of_getElem? (i := 761) (by decide +kernel)⟩
theorem lw_p24 : lw_okq (⟨"ProcessorHouse$Explorer", "tryWord", "(II)Z"⟩, 10) := ⟨⟨by decide +kernel, by decide +kernel⟩, List.mem_of_getElem? (i := 692) (by decide +kernel), List.mem_of_getElem? (i := 764) (by decide +kernel), List.mem_of_getElem? (i := 765) (by decide +kernel)⟩
theorem lw_p25 : lw_okq (⟨"ProcessorHouse$Explorer", "takeTrial", "(I)V"⟩, 10) := ⟨⟨by decide +kernel, by decide +kernel⟩, List.mem_of_getElem? (i := 692) (by decide +kernel), List.mem_of_getElem? (i := 768) (by decide +kernel), List.mem_of_getElem? (i := 769) (by decide +kernel)⟩
theorem lw_p26 : lw_okq (⟨"ProcessorHouse$Explorer", "rowIsFull", "(I)Z"⟩, 10) := ⟨⟨by decide +kernel, by decide +kernel⟩, List.mem_of_getElem? (i := 692) (by decide +kernel), List.mem_of_getElem? (i := 777) (by decide +kernel), List.mem_of_getElem? (i := 778) (by decide +kernel)⟩
theorem lw_p27 : lw_okq (⟨"ProcessorHouse$Explorer", "perform", "(LProcessorHouse$Word;IJJ)V"⟩, 10) := ⟨⟨by decide +kernel, by decide +kernel⟩, List.mem_of_getElem? (i := 692) (by decide +kernel), List.mem_of_getElem? (i := 782) (by decide +kernel), List.mem_of_getElem? (i := 783) (by decide +kernel)⟩
theorem lw_p28 : lw_okq (⟨"ProcessorHouse$Explorer", "loaded", "(II)J"⟩, 10) := ⟨⟨by decide +kernel, by decide +kernel⟩, List.mem_of_getElem? (i := 692) (by decide +kernel), List.mem_of_getElem? (i := 790) (by decide +kernel), List.mem_of_getElem? (i := 791) (by decide +kernel)⟩
theorem lw_p29 : lw_okq (⟨"ProcessorHouse$Explorer", "putInRow", "(IIJ)V"⟩, 10) := ⟨⟨by decide +kernel, by decide +kernel⟩, List.mem_of_getElem? (i := 692) (by decide +kernel), List.mem_of_getElem? (i := 794) (by decide +kernel), List.mem_of_getElem? (i := 795) (by decide +kernel)⟩
theorem lw_p30 : lw_okq (⟨"ProcessorHouse$Explorer", "tryStore", "(II)Z"⟩, 10) := ⟨⟨by decide +kernel, by decide +kernel⟩, List.mem_of_getElem? (i := 692) (by decide +kernel), List.mem_of_getElem? (i := 803) (by decide +kernel), List.mem_of_getElem? (i := 804) (by decide +kernel)⟩
theorem lw_p31 : lw_okq (⟨"ProcessorHouse$Explorer", "isEnd", "(I)Z"⟩, 10) := ⟨⟨by decide +kernel, by decide +kernel⟩, List.mem_of_getElem? (i := 692) (by decide +kernel), List.mem_of_getElem? (i := 808) (by decide +kernel), List.mem_of_getElem? (i := 809) (by decide +kernel)⟩
def lw_privs_2 : List (MethodName × Nat) := [(⟨"ProcessorHouse", "shownAt", "(I)LProcessorHouse$Run;"⟩, 4), (⟨"ProcessorHouse", "pairAt", "(I)LProcessorHouse$Pair;"⟩, 4), (⟨"ProcessorHouse", "refuseIfTooLarge", "(LProcessorHouse$Pair;)V"⟩, 4), (⟨"ProcessorHouse$Explorer", "keepTrial", "()V"⟩, 10), (⟨"ProcessorHouse$Explorer", "mixed", "()I"⟩, 10), (⟨"ProcessorHouse$Explorer", "putTrial", "(I)V"⟩, 10), (⟨"ProcessorHouse$Explorer", "isTrial", "(I)Z"⟩, 10), (⟨"ProcessorHouse$Explorer", "goOnFrom", "(I)V"⟩, 10), (⟨"ProcessorHouse$Explorer", "tryWord", "(II)Z"⟩, 10), (⟨"ProcessorHouse$Explorer", "takeTrial", "(I)V"⟩, 10), (⟨"ProcessorHouse$Explorer", "rowIsFull", "(I)Z"⟩, 10), (⟨"ProcessorHouse$Explorer", "perform", "(LProcessorHouse$Word;IJJ)V"⟩, 10), (⟨"ProcessorHouse$Explorer", "loaded", "(II)J"⟩, 10), (⟨"ProcessorHouse$Explorer", "putInRow", "(IIJ)V"⟩, 10), (⟨"ProcessorHouse$Explorer", "tryStore", "(II)Z"⟩, 10), (⟨"ProcessorHouse$Explorer", "isEnd", "(I)Z"⟩, 10)]
theorem lw_r2 : ∀ q ∈ lw_privs_2, lw_okq q := List.forall_mem_cons.mpr ⟨lw_p16, List.forall_mem_cons.mpr ⟨lw_p17, List.forall_mem_cons.mpr ⟨lw_p18, List.forall_mem_cons.mpr ⟨lw_p19, List.forall_mem_cons.mpr ⟨lw_p20, List.forall_mem_cons.mpr ⟨lw_p21, List.forall_mem_cons.mpr ⟨lw_p22, List.forall_mem_cons.mpr ⟨lw_p23, List.forall_mem_cons.mpr ⟨lw_p24, List.forall_mem_cons.mpr ⟨lw_p25, List.forall_mem_cons.mpr ⟨lw_p26, List.forall_mem_cons.mpr ⟨lw_p27, List.forall_mem_cons.mpr ⟨lw_p28, List.forall_mem_cons.mpr ⟨lw_p29, List.forall_mem_cons.mpr ⟨lw_p30, List.forall_mem_cons.mpr ⟨lw_p31, fun _ h => absurd h List.not_mem_nil⟩⟩⟩⟩⟩⟩⟩⟩⟩⟩⟩⟩⟩⟩⟩⟩
theorem lw_p32 : lw_okq (⟨"ProcessorHouse$Explorer", "insertEnd", "(I)V"⟩, 10) := ⟨⟨by decide +kernel, by decide +kernel⟩, List.mem_of_getElem? (i := 692) (by decide +kernel), List.mem_of_getElem? (i := 813) (by decide +kernel), List.mem_of_getElem? (i := 814) (by decide +kernel)⟩
theorem lw_p33 : lw_okq (⟨"ProcessorHouse$Explorer", "endIsBefore", "(II)Z"⟩, 10) := ⟨⟨by decide +kernel, by decide +kernel⟩, List.mem_of_getElem? (i := 692) (by decide +kernel), List.mem_of_getElem? (i := 817) (by decide +kernel), List.mem_of_getElem? (i := 818) (by decide +kernel)⟩
theorem lw_p34 : lw_okq (⟨"ProcessorHouse$Explorer", "tell", "()V"⟩, 10) := ⟨⟨by decide +kernel, by decide +kernel⟩, List.mem_of_getElem? (i := 692) (by decide +kernel), List.mem_of_getElem? (i := 825) (by decide +kernel), List.mem_of_getElem? (i := 826) (by decide +kernel)⟩
theorem lw_p35 : lw_okq (⟨"ProcessorHouseModel", "fail", "(I)I"⟩, 42) := ⟨⟨by decide +kernel, by decide +kernel⟩, List.mem_of_getElem? (i := 861) (by decide +kernel), List.mem_of_getElem? (i := 1005) (by decide +kernel), List.mem_of_getElem? (i := 1006) (by decide +kernel)⟩
theorem lw_p36 : lw_okq (⟨"ProcessorHouseModel", "isFull", "(I)Z"⟩, 42) := ⟨⟨by decide +kernel, by decide +kernel⟩, List.mem_of_getElem? (i := 861) (by decide +kernel), List.mem_of_getElem? (i := 1009) (by decide +kernel), List.mem_of_getElem? (i := 1010) (by decide +kernel)⟩
theorem lw_p37 : lw_okq (⟨"ProcessorHouseModel", "refuse", "(II)I"⟩, 42) := ⟨⟨by decide +kernel, by decide +kernel⟩, List.mem_of_getElem? (i := 861) (by decide +kernel), List.mem_of_getElem? (i := 1013) (by decide +kernel), List.mem_of_getElem? (i := 1014) (by decide +kernel)⟩
theorem lw_p38 : lw_okq (⟨"ProcessorHouseModel", "add", "(III)I"⟩, 42) := ⟨⟨by decide +kernel, by decide +kernel⟩, List.mem_of_getElem? (i := 861) (by decide +kernel), List.mem_of_getElem? (i := 1017) (by decide +kernel), List.mem_of_getElem? (i := 1018) (by decide +kernel)⟩
theorem lw_p39 : lw_okq (⟨"ProcessorHouseModel", "isOf", "(III)Z"⟩, 42) := ⟨⟨by decide +kernel, by decide +kernel⟩, List.mem_of_getElem? (i := 861) (by decide +kernel), List.mem_of_getElem? (i := 1025) (by decide +kernel), List.mem_of_getElem? (i := 1026) (by decide +kernel)⟩
theorem lw_p40 : lw_okq (⟨"ProcessorHouseModel", "isThere", "(I)Z"⟩, 42) := ⟨⟨by decide +kernel, by decide +kernel⟩, List.mem_of_getElem? (i := 861) (by decide +kernel), List.mem_of_getElem? (i := 1029) (by decide +kernel), List.mem_of_getElem? (i := 1030) (by decide +kernel)⟩
theorem lw_p41 : lw_okq (⟨"ProcessorHouseModel", "isUsed", "(I)Z"⟩, 42) := ⟨⟨by decide +kernel, by decide +kernel⟩, List.mem_of_getElem? (i := 861) (by decide +kernel), List.mem_of_getElem? (i := 1037) (by decide +kernel), List.mem_of_getElem? (i := 1038) (by decide +kernel)⟩
theorem lw_p42 : lw_okq (⟨"ProcessorHouseModel", "setCore", "(IIIII)V"⟩, 42) := ⟨⟨by decide +kernel, by decide +kernel⟩, List.mem_of_getElem? (i := 861) (by decide +kernel), List.mem_of_getElem? (i := 1048) (by decide +kernel), List.mem_of_getElem? (i := 1049) (by decide +kernel)⟩
theorem lw_p43 : lw_okq (⟨"ProcessorHouseModel", "begin", "(I)V"⟩, 42) := ⟨⟨by decide +kernel, by decide +kernel⟩, List.mem_of_getElem? (i := 861) (by decide +kernel), List.mem_of_getElem? (i := 1060) (by decide +kernel), List.mem_of_getElem? (i := 1061) (by decide +kernel)⟩
theorem lw_p44 : lw_okq (⟨"ProcessorHouseModel", "doWord", "(II)V"⟩, 42) := ⟨⟨by decide +kernel, by decide +kernel⟩, List.mem_of_getElem? (i := 861) (by decide +kernel), List.mem_of_getElem? (i := 1068) (by decide +kernel), List.mem_of_getElem? (i := 1069) (by decide +kernel)⟩
theorem lw_p45 : lw_okq (⟨"ProcessorHouseModel", "wordOf", "(II)I"⟩, 42) := ⟨⟨by decide +kernel, by decide +kernel⟩, List.mem_of_getElem? (i := 861) (by decide +kernel), List.mem_of_getElem? (i := 1072) (by decide +kernel), List.mem_of_getElem? (i := 1073) (by decide +kernel)⟩
theorem lw_p46 : lw_okq (⟨"ProcessorHouseModel", "goes", "(II)Z"⟩, 42) := ⟨⟨by decide +kernel, by decide +kernel⟩, List.mem_of_getElem? (i := 861) (by decide +kernel), List.mem_of_getElem? (i := 1076) (by decide +kernel), List.mem_of_getElem? (i := 1077) (by decide +kernel)⟩
theorem lw_p47 : lw_okq (⟨"ProcessorHouseModel", "modulo", "(II)I"⟩, 42) := ⟨⟨by decide +kernel, by decide +kernel⟩, List.mem_of_getElem? (i := 861) (by decide +kernel), List.mem_of_getElem? (i := 1080) (by decide +kernel), List.mem_of_getElem? (i := 1081) (by decide +kernel)⟩
def lw_privs_3 : List (MethodName × Nat) := [(⟨"ProcessorHouse$Explorer", "insertEnd", "(I)V"⟩, 10), (⟨"ProcessorHouse$Explorer", "endIsBefore", "(II)Z"⟩, 10), (⟨"ProcessorHouse$Explorer", "tell", "()V"⟩, 10), (⟨"ProcessorHouseModel", "fail", "(I)I"⟩, 42), (⟨"ProcessorHouseModel", "isFull", "(I)Z"⟩, 42), (⟨"ProcessorHouseModel", "refuse", "(II)I"⟩, 42), (⟨"ProcessorHouseModel", "add", "(III)I"⟩, 42), (⟨"ProcessorHouseModel", "isOf", "(III)Z"⟩, 42), (⟨"ProcessorHouseModel", "isThere", "(I)Z"⟩, 42), (⟨"ProcessorHouseModel", "isUsed", "(I)Z"⟩, 42), (⟨"ProcessorHouseModel", "setCore", "(IIIII)V"⟩, 42), (⟨"ProcessorHouseModel", "begin", "(I)V"⟩, 42), (⟨"ProcessorHouseModel", "doWord", "(II)V"⟩, 42), (⟨"ProcessorHouseModel", "wordOf", "(II)I"⟩, 42), (⟨"ProcessorHouseModel", "goes", "(II)Z"⟩, 42), (⟨"ProcessorHouseModel", "modulo", "(II)I"⟩, 42)]
theorem lw_r3 : ∀ q ∈ lw_privs_3, lw_okq q := List.forall_mem_cons.mpr ⟨lw_p32, List.forall_mem_cons.mpr ⟨lw_p33, List.forall_mem_cons.mpr ⟨lw_p34, List.forall_mem_cons.mpr ⟨lw_p35, List.forall_mem_cons.mpr ⟨lw_p36, List.forall_mem_cons.mpr ⟨lw_p37, List.forall_mem_cons.mpr ⟨lw_p38, List.forall_mem_cons.mpr ⟨lw_p39, List.forall_mem_cons.mpr ⟨lw_p40, List.forall_mem_cons.mpr ⟨lw_p41, List.forall_mem_cons.mpr ⟨lw_p42, List.forall_mem_cons.mpr ⟨lw_p43, List.forall_mem_cons.mpr ⟨lw_p44, List.forall_mem_cons.mpr ⟨lw_p45, List.forall_mem_cons.mpr ⟨lw_p46, List.forall_mem_cons.mpr ⟨lw_p47, fun _ h => absurd h List.not_mem_nil⟩⟩⟩⟩⟩⟩⟩⟩⟩⟩⟩⟩⟩⟩⟩⟩
theorem lw_p48 : lw_okq (⟨"ProcessorHouseModel", "cut", "(IJ)J"⟩, 42) := ⟨⟨by decide +kernel, by decide +kernel⟩, List.mem_of_getElem? (i := 861) (by decide +kernel), List.mem_of_getElem? (i := 1084) (by decide +kernel), List.mem_of_getElem? (i := 1085) (by decide +kernel)⟩
theorem lw_p49 : lw_okq (⟨"ProcessorHouseModel", "enterAll", "(II)V"⟩, 42) := ⟨⟨by decide +kernel, by decide +kernel⟩, List.mem_of_getElem? (i := 861) (by decide +kernel), List.mem_of_getElem? (i := 1096) (by decide +kernel), List.mem_of_getElem? (i := 1097) (by decide +kernel)⟩
theorem lw_p50 : lw_okq (⟨"ProcessorHouseModel", "lose", "(IIZ)V"⟩, 42) := ⟨⟨by decide +kernel, by decide +kernel⟩, List.mem_of_getElem? (i := 861) (by decide +kernel), List.mem_of_getElem? (i := 1100) (by decide +kernel), List.mem_of_getElem? (i := 1101) (by decide +kernel)⟩
theorem lw_p51 : lw_okq (⟨"ProcessorHouseModel", "enter", "(I)V"⟩, 42) := ⟨⟨by decide +kernel, by decide +kernel⟩, List.mem_of_getElem? (i := 861) (by decide +kernel), List.mem_of_getElem? (i := 1104) (by decide +kernel), List.mem_of_getElem? (i := 1105) (by decide +kernel)⟩
theorem lw_p52 : lw_okq (⟨"ProcessorHouseModel", "writes", "(I)Z"⟩, 42) := ⟨⟨by decide +kernel, by decide +kernel⟩, List.mem_of_getElem? (i := 861) (by decide +kernel), List.mem_of_getElem? (i := 1108) (by decide +kernel), List.mem_of_getElem? (i := 1109) (by decide +kernel)⟩
theorem lw_p53 : lw_okq (⟨"ProcessorHouseModel", "reads", "(I)I"⟩, 42) := ⟨⟨by decide +kernel, by decide +kernel⟩, List.mem_of_getElem? (i := 861) (by decide +kernel), List.mem_of_getElem? (i := 1112) (by decide +kernel), List.mem_of_getElem? (i := 1113) (by decide +kernel)⟩
theorem lw_p54 : lw_okq (⟨"ProcessorHouseModel", "readyAt", "(II)I"⟩, 42) := ⟨⟨by decide +kernel, by decide +kernel⟩, List.mem_of_getElem? (i := 861) (by decide +kernel), List.mem_of_getElem? (i := 1116) (by decide +kernel), List.mem_of_getElem? (i := 1117) (by decide +kernel)⟩
theorem lw_p55 : lw_okq (⟨"ProcessorHouseModel", "leaveAll", "(II)V"⟩, 42) := ⟨⟨by decide +kernel, by decide +kernel⟩, List.mem_of_getElem? (i := 861) (by decide +kernel), List.mem_of_getElem? (i := 1120) (by decide +kernel), List.mem_of_getElem? (i := 1121) (by decide +kernel)⟩
theorem lw_p56 : lw_okq (⟨"ProcessorHouseModel", "isRunning", "(I)Z"⟩, 42) := ⟨⟨by decide +kernel, by decide +kernel⟩, List.mem_of_getElem? (i := 861) (by decide +kernel), List.mem_of_getElem? (i := 1128) (by decide +kernel), List.mem_of_getElem? (i := 1129) (by decide +kernel)⟩
theorem lw_p57 : lw_okq (⟨"ProcessorHouseModel", "programOf", "(I)I"⟩, 42) := ⟨⟨by decide +kernel, by decide +kernel⟩, List.mem_of_getElem? (i := 861) (by decide +kernel), List.mem_of_getElem? (i := 1136) (by decide +kernel), List.mem_of_getElem? (i := 1137) (by decide +kernel)⟩
theorem lw_p58 : lw_okq (⟨"ProcessorHouseModel", "isSmall", "(I)Z"⟩, 42) := ⟨⟨by decide +kernel, by decide +kernel⟩, List.mem_of_getElem? (i := 861) (by decide +kernel), List.mem_of_getElem? (i := 1152) (by decide +kernel), List.mem_of_getElem? (i := 1153) (by decide +kernel)⟩
theorem lw_p59 : lw_okq (⟨"ProcessorHouseModel", "lookThrough", "(I)V"⟩, 42) := ⟨⟨by decide +kernel, by decide +kernel⟩, List.mem_of_getElem? (i := 861) (by decide +kernel), List.mem_of_getElem? (i := 1156) (by decide +kernel), List.mem_of_getElem? (i := 1157) (by decide +kernel)⟩
theorem lw_p60 : lw_okq (⟨"ProcessorHouseModel", "keep", "()V"⟩, 42) := ⟨⟨by decide +kernel, by decide +kernel⟩, List.mem_of_getElem? (i := 861) (by decide +kernel), List.mem_of_getElem? (i := 1160) (by decide +kernel), List.mem_of_getElem? (i := 1161) (by decide +kernel)⟩
theorem lw_p61 : lw_okq (⟨"ProcessorHouseModel", "chainOf", "()I"⟩, 42) := ⟨⟨by decide +kernel, by decide +kernel⟩, List.mem_of_getElem? (i := 861) (by decide +kernel), List.mem_of_getElem? (i := 1164) (by decide +kernel), List.mem_of_getElem? (i := 1165) (by decide +kernel)⟩
theorem lw_p62 : lw_okq (⟨"ProcessorHouseModel", "isKept", "(I)Z"⟩, 42) := ⟨⟨by decide +kernel, by decide +kernel⟩, List.mem_of_getElem? (i := 861) (by decide +kernel), List.mem_of_getElem? (i := 1171) (by decide +kernel), List.mem_of_getElem? (i := 1172) (by decide +kernel)⟩
theorem lw_p63 : lw_okq (⟨"ProcessorHouseModel", "goFrom", "(II)V"⟩, 42) := ⟨⟨by decide +kernel, by decide +kernel⟩, List.mem_of_getElem? (i := 861) (by decide +kernel), List.mem_of_getElem? (i := 1175) (by decide +kernel), List.mem_of_getElem? (i := 1176) (by decide +kernel)⟩
def lw_privs_4 : List (MethodName × Nat) := [(⟨"ProcessorHouseModel", "cut", "(IJ)J"⟩, 42), (⟨"ProcessorHouseModel", "enterAll", "(II)V"⟩, 42), (⟨"ProcessorHouseModel", "lose", "(IIZ)V"⟩, 42), (⟨"ProcessorHouseModel", "enter", "(I)V"⟩, 42), (⟨"ProcessorHouseModel", "writes", "(I)Z"⟩, 42), (⟨"ProcessorHouseModel", "reads", "(I)I"⟩, 42), (⟨"ProcessorHouseModel", "readyAt", "(II)I"⟩, 42), (⟨"ProcessorHouseModel", "leaveAll", "(II)V"⟩, 42), (⟨"ProcessorHouseModel", "isRunning", "(I)Z"⟩, 42), (⟨"ProcessorHouseModel", "programOf", "(I)I"⟩, 42), (⟨"ProcessorHouseModel", "isSmall", "(I)Z"⟩, 42), (⟨"ProcessorHouseModel", "lookThrough", "(I)V"⟩, 42), (⟨"ProcessorHouseModel", "keep", "()V"⟩, 42), (⟨"ProcessorHouseModel", "chainOf", "()I"⟩, 42), (⟨"ProcessorHouseModel", "isKept", "(I)Z"⟩, 42), (⟨"ProcessorHouseModel", "goFrom", "(II)V"⟩, 42)]
theorem lw_r4 : ∀ q ∈ lw_privs_4, lw_okq q := List.forall_mem_cons.mpr ⟨lw_p48, List.forall_mem_cons.mpr ⟨lw_p49, List.forall_mem_cons.mpr ⟨lw_p50, List.forall_mem_cons.mpr ⟨lw_p51, List.forall_mem_cons.mpr ⟨lw_p52, List.forall_mem_cons.mpr ⟨lw_p53, List.forall_mem_cons.mpr ⟨lw_p54, List.forall_mem_cons.mpr ⟨lw_p55, List.forall_mem_cons.mpr ⟨lw_p56, List.forall_mem_cons.mpr ⟨lw_p57, List.forall_mem_cons.mpr ⟨lw_p58, List.forall_mem_cons.mpr ⟨lw_p59, List.forall_mem_cons.mpr ⟨lw_p60, List.forall_mem_cons.mpr ⟨lw_p61, List.forall_mem_cons.mpr ⟨lw_p62, List.forall_mem_cons.mpr ⟨lw_p63, fun _ h => absurd h List.not_mem_nil⟩⟩⟩⟩⟩⟩⟩⟩⟩⟩⟩⟩⟩⟩⟩⟩
theorem lw_p64 : lw_okq (⟨"ProcessorHouseModel", "open", "(I)V"⟩, 42) := ⟨⟨by decide +kernel, by decide +kernel⟩, List.mem_of_getElem? (i := 861) (by decide +kernel), List.mem_of_getElem? (i := 1179) (by decide +kernel), List.mem_of_getElem? (i := 1180) (by decide +kernel)⟩
theorem lw_p65 : lw_okq (⟨"ProcessorHouseModel", "doOf", "(II)Z"⟩, 42) := ⟨⟨by decide +kernel, by decide +kernel⟩, List.mem_of_getElem? (i := 861) (by decide +kernel), List.mem_of_getElem? (i := 1183) (by decide +kernel), List.mem_of_getElem? (i := 1184) (by decide +kernel)⟩
theorem lw_p66 : lw_okq (⟨"ProcessorHouseModel", "programAt", "(II)I"⟩, 42) := ⟨⟨by decide +kernel, by decide +kernel⟩, List.mem_of_getElem? (i := 861) (by decide +kernel), List.mem_of_getElem? (i := 1187) (by decide +kernel), List.mem_of_getElem? (i := 1188) (by decide +kernel)⟩
theorem lw_p67 : lw_okq (⟨"ProcessorHouseModel", "seen", "(II)J"⟩, 42) := ⟨⟨by decide +kernel, by decide +kernel⟩, List.mem_of_getElem? (i := 861) (by decide +kernel), List.mem_of_getElem? (i := 1191) (by decide +kernel), List.mem_of_getElem? (i := 1192) (by decide +kernel)⟩
theorem lw_p68 : lw_okq (⟨"ProcessorHouseModel", "letGo", "(I)Z"⟩, 42) := ⟨⟨by decide +kernel, by decide +kernel⟩, List.mem_of_getElem? (i := 861) (by decide +kernel), List.mem_of_getElem? (i := 1195) (by decide +kernel), List.mem_of_getElem? (i := 1196) (by decide +kernel)⟩
theorem lw_p69 : lw_okq (⟨"ProcessorHouseModel", "isEnd", "(I)Z"⟩, 42) := ⟨⟨by decide +kernel, by decide +kernel⟩, List.mem_of_getElem? (i := 861) (by decide +kernel), List.mem_of_getElem? (i := 1199) (by decide +kernel), List.mem_of_getElem? (i := 1200) (by decide +kernel)⟩
theorem lw_p70 : lw_okq (⟨"ProcessorHouseModel", "addEnd", "(I)V"⟩, 42) := ⟨⟨by decide +kernel, by decide +kernel⟩, List.mem_of_getElem? (i := 861) (by decide +kernel), List.mem_of_getElem? (i := 1203) (by decide +kernel), List.mem_of_getElem? (i := 1204) (by decide +kernel)⟩
theorem lw_p71 : lw_okq (⟨"ProcessorHouseModel", "isBefore", "(II)Z"⟩, 42) := ⟨⟨by decide +kernel, by decide +kernel⟩, List.mem_of_getElem? (i := 861) (by decide +kernel), List.mem_of_getElem? (i := 1207) (by decide +kernel), List.mem_of_getElem? (i := 1208) (by decide +kernel)⟩
def lw_privs_5 : List (MethodName × Nat) := [(⟨"ProcessorHouseModel", "open", "(I)V"⟩, 42), (⟨"ProcessorHouseModel", "doOf", "(II)Z"⟩, 42), (⟨"ProcessorHouseModel", "programAt", "(II)I"⟩, 42), (⟨"ProcessorHouseModel", "seen", "(II)J"⟩, 42), (⟨"ProcessorHouseModel", "letGo", "(I)Z"⟩, 42), (⟨"ProcessorHouseModel", "isEnd", "(I)Z"⟩, 42), (⟨"ProcessorHouseModel", "addEnd", "(I)V"⟩, 42), (⟨"ProcessorHouseModel", "isBefore", "(II)Z"⟩, 42)]
theorem lw_r5 : ∀ q ∈ lw_privs_5, lw_okq q := List.forall_mem_cons.mpr ⟨lw_p64, List.forall_mem_cons.mpr ⟨lw_p65, List.forall_mem_cons.mpr ⟨lw_p66, List.forall_mem_cons.mpr ⟨lw_p67, List.forall_mem_cons.mpr ⟨lw_p68, List.forall_mem_cons.mpr ⟨lw_p69, List.forall_mem_cons.mpr ⟨lw_p70, List.forall_mem_cons.mpr ⟨lw_p71, fun _ h => absurd h List.not_mem_nil⟩⟩⟩⟩⟩⟩⟩⟩
def lw_privs : List (MethodName × Nat) := lw_privs_1 ++ (lw_privs_2 ++ (lw_privs_3 ++ (lw_privs_4 ++ (lw_privs_5))))
def lw_tbl : List Cond := k2_sels lw_privs ++ tables_1
theorem lw_privs_ok : ∀ q ∈ lw_privs, lw_okq q := by
  show ∀ q ∈ lw_privs_1 ++ (lw_privs_2 ++ (lw_privs_3 ++ (lw_privs_4 ++ (lw_privs_5)))), lw_okq q
  exact List.forall_mem_append.mpr ⟨lw_r1, List.forall_mem_append.mpr ⟨lw_r2, List.forall_mem_append.mpr ⟨lw_r3, List.forall_mem_append.mpr ⟨lw_r4, lw_r5⟩⟩⟩⟩
end
section
/-! Catching by name where the table's rows are not resolved yet: each row that covers the place is linked on the way. -/
section ZC
/-- a row that names a class that is linked: taken, or passed by -/
theorem zc_link {e : Env} {f : JFrame} {a : Addr} {Q : Handler → Pre} {E : CtlPost} {d : Bool} {acts : List Action} {s : State} {x : ExceptionTableEntry} {t : List ExceptionTableEntry} {c : ClassId} {cell : Cell} (hx : covers x f.pc = true) (h0 : x.catchType ≠ 0)
    (hl : s.vm.ClassLinks e.platform f.method.cls x.catchType c) (hcell : s.heap[a]? = some cell) (hobj : ∀ k, cell.vm ≠ .statics k) (hk : ∃ k, s.vm.classes[cell.cls]? = some k) (hc : ∃ k, s.vm.classes[c]? = some k) :
    wp (findHandler.go f a (x :: t)) Q E e d acts s ↔ (if s.vm.assignable cell.cls c = true then Q (.found x.handlerPc) d acts (s.setVm (s.vm.noted f.method.cls x.catchType (.cls c)))
      else wp (findHandler.go f a t) Q E e d acts (s.setVm (s.vm.noted f.method.cls x.catchType (.cls c)))) := by
  have hal : s.vm.Alike (s.vm.noted f.method.cls x.catchType (.cls c)) := (Vm.Alike.refl s.vm).noted _ _ _
  obtain ⟨g1, g2⟩ := (resolveClass_links e.toSetting hl).op (op := VmOp.resolveClass f.method.cls x.catchType) rfl
  obtain ⟨k1, e1⟩ := hk
  obtain ⟨k2, e2⟩ := hc
  obtain ⟨k1', e1', -⟩ := hal.2.2 _ _ e1
  obtain ⟨k2', e2', -⟩ := hal.2.2 _ _ e2
  simp only [covers] at hx
  by_cases ha : s.vm.assignable cell.cls c = true
  · have hb : (s.vm.noted f.method.cls x.catchType (.cls c)).assignable cell.cls c = true := by rw [hal.assignable]; exact ha
    rw [if_pos ha]
    simp [findHandler.go, hx, h0, g1, g2, hcell, hobj, e1', e2', hb, VmOp.dirties, VmOp.acts]
  · have hb : (s.vm.noted f.method.cls x.catchType (.cls c)).assignable cell.cls c = false := by rw [hal.assignable]; simpa using ha
    rw [if_neg ha]
    simp [findHandler.go, hx, h0, g1, g2, hcell, hobj, e1', e2', hb, VmOp.dirties, VmOp.acts]
/-- a row that doesn't take an object of the class k at pc -/
def zc_past (pl : Platform) (s : State) (d : ClassId) (pc : Nat) (k : ClassId) (x : ExceptionTableEntry) : Prop :=
  covers x pc = false ∨ (x.catchType ≠ 0 ∧ ∃ c, s.vm.ClassLinks pl d x.catchType c ∧ s.vm.assignable k c = false)
theorem zc_find {e : Env} {s : State} {f : JFrame} {a : Addr} {cell : Cell} (hobj : ∀ k, cell.vm ≠ .statics k) (hk : ∃ k, s.vm.classes[cell.cls]? = some k) (x : ExceptionTableEntry) (suf : List ExceptionTableEntry) (hx : covers x f.pc = true)
    (h0 : x.catchType ≠ 0) {c : ClassId} (hl : s.vm.ClassLinks e.platform f.method.cls x.catchType c) (ha : s.vm.assignable cell.cls c = true) :
    ∀ (pre : List ExceptionTableEntry) (U : State), s.WarmedH U.vm → U.heap[a]? = some cell → (∀ z ∈ pre, zc_past e.platform s f.method.cls f.pc cell.cls z) →
      ∃ vm', s.WarmedH vm' ∧ ∀ (Q : Handler → Pre) (E : CtlPost) (d : Bool) (acts : List Action), wp (findHandler.go f a (pre ++ x :: suf)) Q E e d acts U ↔ Q (.found x.handlerPc) d acts (U.setVm vm') := by
  obtain ⟨k0, hk0⟩ := hk
  have note : ∀ (z : ExceptionTableEntry) (c : ClassId) (U : State), s.WarmedH U.vm → s.vm.ClassLinks e.platform f.method.cls z.catchType c → s.WarmedH (U.vm.noted f.method.cls z.catchType (.cls c)) ∧ U.vm.ClassLinks e.platform f.method.cls z.catchType c ∧ ∃ k, U.vm.classes[c]? = some k := by
    intro z c U hW hz
    obtain ⟨dk, _, _, kt, hd, _, _, _, _, hkt, _, hopen⟩ := hz.here
    obtain ⟨kt', hkt', -⟩ := hW.alike.2.2 _ _ hkt
    exact ⟨hW.noted hd hopen (State.rightAt_cls hz), hW.classLinks hz, kt', hkt'⟩
  intro pre
  induction pre with
  | nil =>
    intro U hW hcell _
    obtain ⟨k0', hk0', -⟩ := hW.alike.2.2 _ _ hk0
    obtain ⟨n1, n2, n3⟩ := note x c U hW hl
    refine ⟨_, n1, fun Q E d acts => ?_⟩
    rw [List.nil_append, zc_link hx h0 n2 hcell hobj ⟨k0', hk0'⟩ n3, if_pos (by rw [hW.alike.assignable]; exact ha)]
  | cons z zs ih =>
    intro U hW hcell hp
    obtain ⟨k0', hk0', -⟩ := hW.alike.2.2 _ _ hk0
    have hp' : ∀ y ∈ zs, zc_past e.platform s f.method.cls f.pc cell.cls y := fun y hy => hp y (List.mem_cons_of_mem _ hy)
    cases hcov : covers z f.pc with
    | false =>
      obtain ⟨vm', w1, w2⟩ := ih U hW hcell hp'
      refine ⟨vm', w1, fun Q E d acts => ?_⟩
      rw [List.cons_append, Jvm.W.findHandler_go_skip hcov]
      exact w2 Q E d acts
    | true =>
      rcases hp z List.mem_cons_self with h | ⟨z0, cz, hz, hno⟩
      · rw [hcov] at h; cases h
      · obtain ⟨n1, n2, n3⟩ := note z cz U hW hz
        obtain ⟨vm', w1, w2⟩ := ih (U.setVm (U.vm.noted f.method.cls z.catchType (.cls cz))) n1 hcell hp'
        refine ⟨vm', w1, fun Q E d acts => ?_⟩
        rw [List.cons_append, zc_link hcov z0 n2 hcell hobj ⟨k0', hk0'⟩ n3, if_neg (by rw [hW.alike.assignable, hno]; decide)]
        exact w2 Q E d acts
theorem zc_frames (u : State) (w : Vm) (F G : List Frame) : ((u.setFrames F).setVm w).setFrames G = (u.setVm w).setFrames G := by
  rw [show (u.setFrames F).setVm w = (u.setVm w).setFrames F from rfl, State.setFrames_setFrames]
variable {p : Program} {l : Launch} {e : Env} {R : Room} {s : State} {m : MethodId} {args : Array Value} {below : List Frame} {meth : Method} {c : Code} {T : State} {locs : List Loc} {cells slots : Nat}
theorem zc_caught (X : Stand p l e R s m args below meth c T locs cells slots) (a : Addr) {g : JFrame} (hg : g.method = m) {cell : Cell} (hcell : T.heap[a]? = some cell) (hobj : ∀ k, cell.vm ≠ .statics k) (hk : ∃ k, s.vm.classes[cell.cls]? = some k)
    (pre : List ExceptionTableEntry) (x : ExceptionTableEntry) (suf : List ExceptionTableEntry) (hsplit : c.exceptionTable.toList = pre ++ x :: suf) (hpast : ∀ z ∈ pre, zc_past e.platform s m.cls g.pc cell.cls z) (hx : covers x g.pc = true) (h0 : x.catchType ≠ 0)
    {cT : ClassId} (hl : s.vm.ClassLinks e.platform m.cls x.catchType cT) (ha : s.vm.assignable cell.cls cT = true) :
    ∃ vm', Stand p l e R s m args below meth c (T.setVm vm') locs cells slots ∧ Steps p.tables e below ((T.setTop g).pushFrame (.throwing a)) ((T.setVm vm').setTop { g with pc := x.handlerPc, stack := [.ref a] }) := by
  subst hg
  obtain ⟨vm', hW', hq⟩ := zc_find (e := e) (f := g) (a := a) hobj hk x suf hx h0 hl ha pre ((T.setTop g).pushFrame (.throwing a)) X.warmed hcell hpast
  refine ⟨vm', X.noted hW', ?_⟩
  have h : At T g.method c below := X.here
  obtain ⟨hgo, hw⟩ := h.throwing a
  refine Steps.head hgo hw ?_
  have hst : (stepThrowing e ((T.setTop g).pushFrame (.throwing a)) a (.java g :: T.frames.tail)).Is ((((T.setTop g).pushFrame (.throwing a)).setVm vm').setFrames (.java { g with pc := x.handlerPc, stack := [.ref a] } :: T.frames.tail)) [] := by
    simp only [stepThrowing, searchFrame, vmDo]
    generalize hr : Sem.go _ e false [] ((T.setTop g).pushFrame (.throwing a)) = res
    have hf : ∀ (Q : Handler → Pre) (E : CtlPost) (d : Bool) (acts : List Action), wp (findHandler g a) Q E e d acts ((T.setTop g).pushFrame (.throwing a)) ↔ Q (.found x.handlerPc) d acts (((T.setTop g).pushFrame (.throwing a)).setVm vm') := fun Q E d acts => by
      rw [Jvm.W.findHandler_eq (s := (T.setTop g).pushFrame (.throwing a)) (f := g) (meth := meth) (code := c) X.method' X.code, hsplit]
      exact hq Q E d acts
    obtain ⟨as, rfl, h9⟩ := Sem.eq_ok_of hr (a := Handler.found x.handlerPc) (s' := ((T.setTop g).pushFrame (.throwing a)).setVm vm') (acts' := []) (by simp [hf _ _ _ _])
    exact ⟨rfl, h9⟩
  rw [stepThread_throwing (frames_entered h.top _), hst.1]
  obtain ⟨g₀, hg0⟩ := Option.isSome_iff_exists.mp h.top
  obtain ⟨r, hr⟩ := State.topJava?_eq_some.mp hg0
  have hr' : (T.setVm vm').frames = .java g₀ :: r := hr
  rw [hr, List.tail_cons, State.pushFrame, zc_frames, State.setTop_of_frames _ hr, zc_frames, State.setTop_of_frames _ hr']
  exact Steps.refl _
end ZC
end
section
/-! ===== BEGIN words of one list among another's, by their places ===== -/
theorem goodIn_r {big : List Cond} (ws : List Cond) (ps : List Nat) (hp : ws = ps.filterMap (fun i => big[i]?)) (h : ws.all goodWord = true) : GoodIn big ws := by
  intro w hw
  have h1 := List.all_eq_true.mp h w hw
  rw [hp] at hw
  obtain ⟨i, -, hi⟩ := List.mem_filterMap.mp hw
  have hm : w ∈ big := by first | exact List.mem_of_getElem? hi | exact List.getElem?_mem hi
  exact ⟨hm, good_of_word h1⟩
theorem goodIn_app {big a b : List Cond} (ha : GoodIn big a) (hb : GoodIn big b) : GoodIn big (a ++ b) := fun w h => (List.mem_append.mp h).elim (ha w) (hb w)
theorem goodIn_ca {big a b : List Cond} {c : Cond} (ha : GoodIn big (c :: a)) (hb : GoodIn big b) : GoodIn big (c :: (a ++ b)) := fun w h => (List.mem_cons.mp h).elim (fun e => ha w (List.mem_cons.mpr (Or.inl e))) (fun h => (List.mem_append.mp h).elim (fun h => ha w (List.mem_cons.mpr (Or.inr h))) (hb w))
theorem goodIn_sub {big ws : List Cond} (hm : ∀ w ∈ ws, w ∈ big) (h : ws.all goodWord = true) : GoodIn big ws := fun w hw => ⟨hm w hw, good_of_word (List.all_eq_true.mp h w hw)⟩
/-! ===== END ===== -/

/-! ===== BEGIN exceptions that leave a method, and their catching by the caller (launches without stack traces) ===== -/
section VXA
/-! The laws vx_back, vx_callV, vx_callS, vx_callSW, vx_throw0, vx_throwS follow proofs of the library, with one case more: JvmDerived/Free/Laws.lean (Back.of_free), Shelf42/LK1.lean (callV, callS), Shelf/KitTraced.lean (throwNew0V, throwNewS). -/
/-- where a method has thrown q: the class by its name, the cell, what was written, the world -/
def vx_T (XC : String → State → State → Prop) (st : State) (q : Addr) (t : State) (mc ms : Nat) (free : Addr → Prop) : Prop :=
  ∃ (E : String) (ce : Cell) (L : List Loc), XC E st t ∧ t.heap[q]? = some ce ∧ ce.vm = .none ∧ st.vm.findClass E = some ce.cls ∧ st.WarmedH t.vm ∧ st.sameButNew ({ t with vm := st.vm } : State) L mc ms ∧ ∀ z ∈ L, free z.base
def vx_Q (Qc : Array Value → State → Outcome → State → Prop) (XC : String → State → State → Prop) (mc ms : Nat) (free : Addr → Prop) : Array Value → State → Outcome → State → Prop := fun a st o t =>
  (Qc a st o t ∧ ∃ L, FrameEnd st o t L mc ms ∧ ∀ q ∈ L, free q.base) ∨ ∃ q, o = .threw q ∧ vx_T XC st q t mc ms free
/-- a callee that returns or throws -/
def vx_Met (l : Launch) (y : MethodName) (ws : List Cond) (rm : Room) (Pc : Array Value → State → Prop) (Qc : Array Value → State → Outcome → State → Prop) (XC : String → State → State → Prop) (mc ms : Nat) (free : Addr → Prop) : Prop :=
  MetFree l y (headSpec ws rm) Pc (fun _ _ _ _ _ => True) (vx_Q Qc XC mc ms free)
def vx_Post (XC : String → State → State → Prop) (mc ms : Nat) (free : Addr → Prop) : Pt → Array Value → Addr → Pt → Prop := fun A a q B =>
  ∃ (g : JFrame) (mk : MethodId) (t : State) (L : List Loc) (E : String) (ce : Cell), B.U.heap = t.heap ∧ B.U.vm = t.vm ∧ XC E (A.U.calling g mk a) t ∧ t.heap[q]? = some ce ∧ ce.vm = .none ∧ A.U.vm.findClass E = some ce.cls ∧ B.locs = A.locs ++ L ∧ (∀ z ∈ L, free z.base) ∧ B.cells = A.cells + mc ∧ B.slots = A.slots + ms
def vx_Back (l : Launch) (R : Room) (p : Program) (e : Env) (below : List Frame) (s : State) (sargs : Array Value) (y : MethodName) (len W9 : Nat)
    (Pre : Pt → Array Value → Prop) (Post : Pt → Array Value → Option Value → Pt → Prop) (PostX : Pt → Array Value → Addr → Pt → Prop) : Prop :=
  ∀ (m : MethodId) (meth : Method) (c : Code) (A : Pt) (g : JFrame) (ig : Instr) (mk : MethodId) (a : Array Value),
    Stand p l e R s m sargs below meth c A.U A.locs A.cells A.slots → g.method = m → g.locals.size = c.maxLocals → decode c.code g.pc = .ok (ig, len) →
    2 * g.monitorRoom + (g.stack.map fun v => v.category).sum ≤ W9 → A.U.methodNamed? y = some mk → Pre A a →
    (∃ (v : Option Value) (B : Pt), Stand p l e R s m sargs below meth c B.U B.locs B.cells B.slots ∧ Post A a v B ∧
      Steps p.tables e below (doInvoke e (A.U.setTop g) [] mk a).1 (B.U.setTop { g with pc := g.pc + len, stack := v.toList ++ g.stack })) ∨
    (∃ (q : Addr) (B : Pt), Stand p l e R s m sargs below meth c B.U B.locs B.cells B.slots ∧ PostX A a q B ∧
      Steps p.tables e below (doInvoke e (A.U.setTop g) [] mk a).1 ((B.U.setTop g).pushFrame (.throwing q)))
section Payer
variable {l : Launch} {R : Room} {p : Program} {e : Env} {below : List Frame} {s : State} {sargs : Array Value} {y : MethodName} {len W9 : Nat}
theorem vx_back {ws : List Cond} {rm : Room} {Pc : Array Value → State → Prop} {Qc : Array Value → State → Outcome → State → Prop} {XC : String → State → State → Prop} {mc ms : Nat} {free : Addr → Prop} {bytes : ByteArray} {maxL : Nat} {ret : Option FieldType}
    (hM : vx_Met l y ws rm Pc Qc XC mc ms free) (hblind : FrameBlind Pc) (hrc : rm.cells = mc) (hrs : rm.slots = ms)
    (hframes : rm.frames + 1 ≤ R.frames) (hlocals : W9 + (maxL + 11) + rm.locals ≤ R.locals)
    (hws : ∀ w ∈ ws, ∀ a' U, s.WarmedH U.vm → w.before a' U = true) (hcode : Cond.code y bytes maxL ret ∈ ws) (hinit : ∀ a' U, s.WarmedH U.vm → (Cond.initialized y.cls).before a' U = true) :
    vx_Back l R p e below s sargs y len W9 (PreOf R mc ms Pc) (PostOf Qc mc ms free) (vx_Post XC mc ms free) := by
  intro m meth c A g ig mk a X hg hsize hdg hW hn hp
  have h1 : (headSpec ws rm).pre.before a A.U = true := atoms_intro fun w hw => hws w hw _ _ X.warmed
  have h2 : (Cond.code y bytes maxL ret).before a A.U = true := hws _ hcode _ _ X.warmed
  have h3 : (Cond.initialized y.cls).before a A.U = true := hinit _ _ X.warmed
  have h4 : A.cells + (headSpec ws rm).room.cells ≤ R.cells := by rw [show (headSpec ws rm).room.cells = mc from hrc]; exact hp.1
  have h5 : A.slots + (headSpec ws rm).room.slots ≤ R.slots := by rw [show (headSpec ws rm).room.slots = ms from hrs]; exact hp.2.1
  have hPc : Pc a (A.U.calling g mk a) := hblind _ _ _ _ hp.2.2
  obtain ⟨U, Ls, c0, s0⟩ := A
  dsimp only [Pt.U, Pt.locs, Pt.cells, Pt.slots] at h1 h2 h3 h4 h5 X hn hPc ⊢
  obtain ⟨methY, cY, hmY, hcY, -, hlY, -, -, -, -⟩ := Cond.code_spec hn h2
  obtain ⟨kY, hkY, -⟩ := className_of_methodNamed hn
  have hinitY : kY.init = .initialized := Cond.initialized_spec (findClass_of_methodNamed hn) hkY h3
  have h : At U g.method c below := by rw [hg]; exact X.here
  have hlocals9 : W9 + (maxL + 11) + (headSpec ws rm).room.locals ≤ R.locals := hlocals
  have happ : (headSpec ws rm).appliesLoose y e.platform (U.calling g mk a) = true :=
    Spec.appliesLoose_calling (g := g) h hdg hn hkY hinitY
      (X.room_calling (g := g) (R' := (headSpec ws rm).room) hsize hmY hcY hframes (by rw [hlY]; omega) h4 h5) h1
  obtain ⟨mid, hmid⟩ := h.above
  have hfr : (U.setTop g).frames = (.java g :: mid) ++ below := by rw [State.frames_setTop' g h.top, hmid]; rfl
  obtain ⟨o, s₂, hsteps, -, hend, hq⟩ := Steps.callFree hM p X.admits X.cas X.clock (acts := []) hfr happ hPc trivial
  have hq' : vx_Q Qc XC mc ms free a (U.calling g mk a) o s₂ := hq
  rw [State.frames_setTop' g h.top] at hend
  obtain ⟨g₀, hg0⟩ := Option.isSome_iff_exists.mp h.top
  obtain ⟨r, hr⟩ := State.topJava?_eq_some.mp hg0
  have hr' : (({ U with heap := s₂.heap, slotsUsed := s₂.slotsUsed } : State).setVm s₂.vm).frames = .java g₀ :: r := hr
  rcases hq' with ⟨hqc, L, hfe, hL⟩ | ⟨q, rfl, E, ce, L, hx, hce, hcv, hcl, hW₂, hsm, hL⟩
  · obtain ⟨⟨v, rfl⟩, hW₂, e2, q2, q3, q4, q5, q6⟩ := id hfe
    have e3 : s₂ = ({ (U.calling g mk a).setFrames s₂.frames with heap := s₂.heap, slotsUsed := s₂.slotsUsed } : State).setVm s₂.vm := by
      have : s₂ = ({ s₂ with vm := (U.calling g mk a).vm } : State).setVm s₂.vm := rfl
      rw [e2] at this
      exact this
    obtain ⟨c₂, i₂, len₂, hc₂, hd₂, hf₂⟩ := hend
    have hW' : U.WarmedH s₂.vm := hW₂
    have hcc : c₂ = c := by
      have h1 : s₂.code? g.method = U.code? g.method := by
        rw [State.code?_eq, State.code?_eq, hW'.alike.method?]
      exact Option.some.inj (hc₂.symm.trans (h1.trans h.code))
    subst hcc
    have hlen : len₂ = len := by rw [hdg] at hd₂; cases hd₂; rfl
    subst hlen
    have hs₂ : s₂ = (({ U with heap := s₂.heap, slotsUsed := s₂.slotsUsed } : State).setVm s₂.vm).setTop { g with pc := g.pc + len₂, stack := v.toList ++ g.stack } := by
      refine e3.trans ?_
      rw [hf₂, State.calling_eq h.top, State.setFrames_setFrames, State.setTop_of_frames _ hr', hr]
      rfl
    have hsame : U.sameButNew ({ U with heap := s₂.heap, slotsUsed := s₂.slotsUsed } : State) L mc ms := by
      refine ⟨?_, q2, q3, q4, q5, q6⟩
      obtain ⟨t, ht, -⟩ := State.frames_cons hr
      show ({ U with heap := s₂.heap, slotsUsed := s₂.slotsUsed } : State) = { U.setFrames U.frames with heap := s₂.heap, slotsUsed := s₂.slotsUsed }
      rw [State.setFrames_self ht]
    subst hg
    refine Or.inl ⟨v, ⟨(({ U with heap := s₂.heap, slotsUsed := s₂.slotsUsed } : State).setVm s₂.vm), Ls ++ L, c0 + mc, s0 + ms⟩,
      ⟨X.admits, X.cas, X.clock, X.frames, X.room, X.hears, X.method, X.code, (X.here.setHeapUsed s₂.heap s₂.slotsUsed).setVm hW'.alike, X.tail, State.WarmedH.trans X.warmed hW', X.limits, X.bytes, X.same.trans (hsame.setVm s.vm)⟩,
      ⟨g, mk, s₂, L, rfl, rfl, hqc, rfl, hL, rfl, rfl⟩, ?_⟩
    show Steps p.tables e below _ ((({ U with heap := s₂.heap, slotsUsed := s₂.slotsUsed } : State).setVm s₂.vm).setTop { g with pc := g.pc + len₂, stack := v.toList ++ g.stack })
    rw [← hs₂]
    exact hsteps
  · obtain ⟨e2, q2, q3, q4, q5, q6⟩ := id hsm
    have e3 : s₂ = ({ (U.calling g mk a).setFrames s₂.frames with heap := s₂.heap, slotsUsed := s₂.slotsUsed } : State).setVm s₂.vm := by
      have : s₂ = ({ s₂ with vm := (U.calling g mk a).vm } : State).setVm s₂.vm := rfl
      rw [e2] at this
      exact this
    have hf₂ : s₂.frames = .throwing q :: .java g :: U.frames.tail := hend
    have hW' : U.WarmedH s₂.vm := hW₂
    have hs₂ : s₂ = ((({ U with heap := s₂.heap, slotsUsed := s₂.slotsUsed } : State).setVm s₂.vm).setTop g).pushFrame (.throwing q) := by
      refine e3.trans ?_
      rw [hf₂, State.calling_eq h.top, State.setFrames_setFrames, State.pushFrame, State.frames_setTop _ hr', State.setTop_of_frames _ hr', State.setFrames_setFrames, hr]
      rfl
    have hsame : U.sameButNew ({ U with heap := s₂.heap, slotsUsed := s₂.slotsUsed } : State) L mc ms := by
      refine ⟨?_, q2, q3, q4, q5, q6⟩
      obtain ⟨t, ht, -⟩ := State.frames_cons hr
      show ({ U with heap := s₂.heap, slotsUsed := s₂.slotsUsed } : State) = { U.setFrames U.frames with heap := s₂.heap, slotsUsed := s₂.slotsUsed }
      rw [State.setFrames_self ht]
    subst hg
    refine Or.inr ⟨q, ⟨(({ U with heap := s₂.heap, slotsUsed := s₂.slotsUsed } : State).setVm s₂.vm), Ls ++ L, c0 + mc, s0 + ms⟩,
      ⟨X.admits, X.cas, X.clock, X.frames, X.room, X.hears, X.method, X.code, (X.here.setHeapUsed s₂.heap s₂.slotsUsed).setVm hW'.alike, X.tail, State.WarmedH.trans X.warmed hW', X.limits, X.bytes, X.same.trans (hsame.setVm s.vm)⟩,
      ⟨g, mk, s₂, L, E, ce, rfl, rfl, hx, hce, hcv, hcl, rfl, hL, rfl, rfl⟩, ?_⟩
    show Steps p.tables e below _ (((({ U with heap := s₂.heap, slotsUsed := s₂.slotsUsed } : State).setVm s₂.vm).setTop g).pushFrame (.throwing q))
    rw [← hs₂]
    exact hsteps
end Payer
section Calls
variable {p : Program} {l : Launch} {e : Env} {R : Room} {s : State} {m : MethodId} {args : Array Value} {below : List Frame} {meth : Method} {c : Code} {T : State} {locs : List Loc} {cells slots : Nat}
theorem vx_callV (X : Stand p l e R s m args below meth c T locs cells slots) (hexec : p.tables.exec = Jvm.exec) {own C : String} {index : Nat} {y : MethodName} {bytes : ByteArray} {maxL : Nat} {ret : Option FieldType}
    (hown : s.vm.findClass own = some m.cls) (hlink : (Cond.methodLink own index y).before args s = true) (hinst : (Cond.instanceMethod y).before args s = true) (hsel : (Cond.selects C y y).before args s = true)
    (hcode : (Cond.code y bytes maxL ret).before args s = true) (hy : y.cls ≠ "java/lang/invoke/MethodHandle" ∧ y.cls ≠ "java/lang/invoke/VarHandle")
    {W9 : Nat} {Pre : Pt → Array Value → Prop} {Post : Pt → Array Value → Option Value → Pt → Prop} {PostX : Pt → Array Value → Addr → Pt → Prop} (hK : vx_Back l R p e below s args y 3 W9 Pre Post PostX)
    {b : Addr} {cellB : Cell} (hcell : T.heap[b]? = some cellB) (hobj : cellB.vm.isStatics = false) (hcls : s.vm.findClass C = some cellB.cls)
    {g : JFrame} (hg : g.method = m) (hsize : g.locals.size = c.maxLocals) {argsL rest : List Value} (hlen : ∀ sig, parseMethodDescriptor y.desc = some sig → argsL.length = sig.parameters.length)
    (hstack : g.stack = argsL.reverse ++ .ref b :: rest) (hW : 2 * g.monitorRoom + (rest.map fun v => v.category).sum ≤ W9) (hdg : decode c.code g.pc = .ok (.invokevirtual index, 3))
    (hpre : ∀ vm₁, s.WarmedH vm₁ → Pre ⟨T.setVm vm₁, locs, cells, slots⟩ (Value.ref b :: argsL).toArray) :
    (∃ (v : Option Value) (vm₁ : Vm) (B : Pt), s.WarmedH vm₁ ∧ Stand p l e R s m args below meth c B.U B.locs B.cells B.slots ∧ Post ⟨T.setVm vm₁, locs, cells, slots⟩ (Value.ref b :: argsL).toArray v B ∧
      ∀ target, Steps p.tables e below (B.U.setTop { g with pc := g.pc + 3, stack := v.toList ++ rest }) target → Steps p.tables e below (T.setTop g) target) ∨
    (∃ (q : Addr) (vm₁ : Vm) (B : Pt), s.WarmedH vm₁ ∧ Stand p l e R s m args below meth c B.U B.locs B.cells B.slots ∧ PostX ⟨T.setVm vm₁, locs, cells, slots⟩ (Value.ref b :: argsL).toArray q B ∧
      Steps p.tables e below (T.setTop g) ((B.U.setTop { g with stack := rest }).pushFrame (.throwing q))) := by
  obtain ⟨mk, methM, hnamed, hmethM, hstM, habM⟩ := Cond.instanceMethod_spec hinst
  obtain ⟨methM', cM, hmethM', -, -, -, -, -, -, hsigM⟩ := Cond.code_spec hnamed hcode
  cases hmethM.symm.trans hmethM'
  obtain ⟨c2, r2, m2, q1, q2, q3, q4, kP, hkP, hkPi⟩ := Cond.selects_spec hsel
  cases hcls.symm.trans q1
  cases (State.methodFound?_of_named hnamed hy).symm.trans q2
  cases hnamed.symm.trans q3
  have hselP : selectMethod e.platform s.vm cellB.cls mk = .method mk := by rw [Launch.admits_selectMethod X.admits]; exact q4
  obtain ⟨vm₁, X₁, hstep₁⟩ := X.invokevirtual hexec hown hlink hnamed hmethM hstM hkP hkPi hy (a := b) (cell := cellB) hcell
    (fun z h => by rw [h] at hobj; cases hobj) hselP hmethM habM hkP hkPi (g := g) hg (argsL := argsL) (rest := rest) (hlen _ hsigM) hstack hdg
  rcases hK m meth c ⟨T.setVm vm₁, locs, cells, slots⟩ { g with stack := rest } (.invokevirtual index) mk (Value.ref b :: argsL).toArray X₁ hg hsize hdg hW (X₁.named hnamed) (hpre vm₁ X₁.warmed) with ⟨v, B, X', hpost, hsteps⟩ | ⟨q, B, X', hpost, hsteps⟩
  · exact Or.inl ⟨v, vm₁, B, X₁.warmed, X', hpost, fun target h => hstep₁ _ fun acts => by rw [doInvoke_state]; exact hsteps.trans h⟩
  · exact Or.inr ⟨q, vm₁, B, X₁.warmed, X', hpost, hstep₁ _ fun acts => by rw [doInvoke_state]; exact hsteps⟩
theorem vx_callS (X : Stand p l e R s m args below meth c T locs cells slots) (hexec : p.tables.exec = Jvm.exec) {own : String} {index : Nat} {y : MethodName} {bytes : ByteArray} {maxL : Nat} {ret : Option FieldType}
    (hown : s.vm.findClass own = some m.cls) (hlink : (Cond.methodLink own index y).before args s = true) (hstat : (Cond.static y).before args s = true) (hinit : (Cond.initialized y.cls).before args s = true)
    (hcode : (Cond.code y bytes maxL ret).before args s = true) (hy : y.cls ≠ "java/lang/invoke/MethodHandle" ∧ y.cls ≠ "java/lang/invoke/VarHandle")
    {W9 : Nat} {Pre : Pt → Array Value → Prop} {Post : Pt → Array Value → Option Value → Pt → Prop} {PostX : Pt → Array Value → Addr → Pt → Prop} (hK : vx_Back l R p e below s args y 3 W9 Pre Post PostX)
    {g : JFrame} (hg : g.method = m) (hsize : g.locals.size = c.maxLocals) {argsL rest : List Value} (hlen : ∀ sig, parseMethodDescriptor y.desc = some sig → argsL.length = sig.parameters.length)
    (hstack : g.stack = argsL.reverse ++ rest) (hW : 2 * g.monitorRoom + (rest.map fun v => v.category).sum ≤ W9) (hdg : decode c.code g.pc = .ok (.invokestatic index, 3))
    (hpre : ∀ vm₁, s.WarmedH vm₁ → Pre ⟨T.setVm vm₁, locs, cells, slots⟩ argsL.toArray) :
    (∃ (v : Option Value) (vm₁ : Vm) (B : Pt), s.WarmedH vm₁ ∧ Stand p l e R s m args below meth c B.U B.locs B.cells B.slots ∧ Post ⟨T.setVm vm₁, locs, cells, slots⟩ argsL.toArray v B ∧
      ∀ target, Steps p.tables e below (B.U.setTop { g with pc := g.pc + 3, stack := v.toList ++ rest }) target → Steps p.tables e below (T.setTop g) target) ∨
    (∃ (q : Addr) (vm₁ : Vm) (B : Pt), s.WarmedH vm₁ ∧ Stand p l e R s m args below meth c B.U B.locs B.cells B.slots ∧ PostX ⟨T.setVm vm₁, locs, cells, slots⟩ argsL.toArray q B ∧
      Steps p.tables e below (T.setTop g) ((B.U.setTop { g with stack := rest }).pushFrame (.throwing q))) := by
  obtain ⟨mk, hnamed⟩ := Cond.code_named hcode
  obtain ⟨methM, cM, hmethM, -, -, -, -, -, -, hsigM⟩ := Cond.code_spec hnamed hcode
  have hstatic : methM.isStatic = true := Cond.static_spec hnamed hmethM hstat
  obtain ⟨kP, hkP, -⟩ := className_of_methodNamed hnamed
  have hinitP : kP.init = .initialized := Cond.initialized_spec (findClass_of_methodNamed hnamed) hkP hinit
  obtain ⟨vm₁, X₁, hstep₁⟩ := X.invokestatic hexec hown hlink hnamed hmethM hstatic hkP hinitP hy (g := g) hg (argsL := argsL) (rest := rest) (hlen _ hsigM) hstack hdg
  rcases hK m meth c ⟨T.setVm vm₁, locs, cells, slots⟩ { g with stack := rest } (.invokestatic index) mk argsL.toArray X₁ hg hsize hdg hW (X₁.named hnamed) (hpre vm₁ X₁.warmed) with ⟨v, B, X', hpost, hsteps⟩ | ⟨q, B, X', hpost, hsteps⟩
  · exact Or.inl ⟨v, vm₁, B, X₁.warmed, X', hpost, fun target h => hstep₁ _ fun acts => by rw [doInvoke_state]; exact hsteps.trans h⟩
  · exact Or.inr ⟨q, vm₁, B, X₁.warmed, X', hpost, hstep₁ _ fun acts => by rw [doInvoke_state]; exact hsteps⟩
end Calls
theorem vx_cls {s : State} {T : State} {vm₁ : Vm} {E : String} {k : ClassId} (hW : s.WarmedH vm₁) (h : (T.setVm vm₁).vm.findClass E = some k) : s.vm.findClass E = some k := by
  have h1 : vm₁.findClass E = some k := h
  rw [hW.alike.findClass] at h1
  exact h1
/-- the method's frame g, with q thrown over it -/
def vx_W (p : Program) (l : Launch) (e : Env) (R : Room) (s : State) (m : MethodId) (args : Array Value) (below : List Frame) (meth : Method) (c : Code) (H : Heap) (locs : List Loc) (cells slots : Nat) (Q : State → Prop) (g : JFrame) (q : Addr) : Prop :=
  ∀ T : State, T.heap = H → Stand p l e R s m args below meth c T locs cells slots → ∃ t, Steps p.tables e below ((T.setTop g).pushFrame (.throwing q)) t ∧ Q t
def vx_Run (p : Program) (l : Launch) (e : Env) (R : Room) (s : State) (m : MethodId) (args : Array Value) (below : List Frame) (meth : Method) (c : Code) (H : Heap) (locs : List Loc) (cells slots mc ms : Nat) (g : JFrame) (rest : List Value) (Qa : State → Outcome → State → Prop) (XC : String → State → State → Prop) (free : Addr → Prop) : Prop :=
  ∀ T : State, T.heap = H → Stand p l e R s m args below meth c T locs cells slots →
    (∃ (v : Option Value) (st₀ t T' : State) (L : List Loc), st₀.heap = H ∧ Stand p l e R s m args below meth c T' (locs ++ L) (cells + mc) (slots + ms) ∧ (∀ q ∈ L, free q.base) ∧ T'.heap = t.heap ∧ T'.vm = t.vm ∧ Qa st₀ (.returned v) t ∧
      Goes p e below T g T' { g with pc := g.pc + 3, stack := v.toList ++ rest }) ∨
    (∃ (q : Addr) (st₀ t T' : State) (L : List Loc) (E : String) (ce : Cell), st₀.heap = H ∧ Stand p l e R s m args below meth c T' (locs ++ L) (cells + mc) (slots + ms) ∧ (∀ z ∈ L, free z.base) ∧ T'.heap = t.heap ∧ T'.vm = t.vm ∧ XC E st₀ t ∧ t.heap[q]? = some ce ∧ ce.vm = .none ∧ s.vm.findClass E = some ce.cls ∧
      Steps p.tables e below (T.setTop g) ((T'.setTop { g with stack := rest }).pushFrame (.throwing q)))
def vx_X {S : Type} (px : S → Prop) (B : String → S → State → Prop) (A : Nat → Prop) : String → State → State → Prop := fun E st t => ∃ u : S, px u ∧ B E u t ∧ va_F A st t
section Runs
variable {p : Program} {l : Launch} {e : Env} {R : Room} {s : State} {m : MethodId} {args : Array Value} {below : List Frame} {meth : Method} {c : Code} {H : Heap} {locs : List Loc} {cells slots : Nat}
variable {y : MethodName} {bytes cc : ByteArray} {maxL nL mc ms n index : Nat} {ret : Option FieldType} {ws : List Cond} {rm : Room} {Pc : Array Value → State → Prop} {Qc : Array Value → State → Outcome → State → Prop} {XC : String → State → State → Prop} {free : Addr → Prop} {Ts : List Cond} {own C : String} {b : Addr} {As rest : List Value} {g : JFrame}
theorem vx_callBack (cb : CallB R s args own index y bytes maxL ret ws rm mc ms n) (hM : vx_Met l y ws rm Pc Qc XC mc ms free) (hbl : FrameBlind Pc) : vx_Back l R p e below s args y 3 8 (PreOf R mc ms Pc) (PostOf Qc mc ms free) (vx_Post XC mc ms free) := by
  obtain ⟨hrc, hrs, hfr, hlo, hws, hcw, -, hini, -⟩ := cb
  exact vx_back (bytes := bytes) (maxL := maxL) (ret := ret) hM hbl hrc hrs hfr hlo hws hcw (fun a' U hW => word_at hW (Or.inl (by first | rfl | simp [Cond.onTables, Cond.keeps, Cond.steady])) hini)
theorem vx_runV (S : CallFix p m c cc nL s args Ts own) (hM : vx_Met l y ws rm Pc Qc XC mc ms free) (cw : CallW R s args own C index y bytes maxL ret ws rm mc ms n) (hp : PreV s H C b Pc As)
    (hg : g.method = m) (hn : As.length = n) (hsize : g.locals.size = nL) (hstack : g.stack = As.reverse ++ .ref b :: rest) (hW : 2 * g.monitorRoom + (rest.map fun v => v.category).sum ≤ 8) (hdg : decode cc g.pc = .ok (.invokevirtual index, 3)) (hf : cells + mc ≤ R.cells ∧ slots + ms ≤ R.slots) :
    vx_Run p l e R s m args below meth c H locs cells slots mc ms g rest (Qc (Value.ref b :: As).toArray) XC free := by
  have hK : vx_Back l R p e below s args y 3 8 (PreOf R mc ms Pc) (PostOf Qc mc ms free) (vx_Post XC mc ms free) := vx_callBack cw.1 hM hp.1
  obtain ⟨⟨-, -, -, -, -, -, hcode, -, hy, hlen, hl⟩, hin, hse⟩ := cw
  obtain ⟨hx, hb, hml, ho, -⟩ := S
  obtain ⟨-, ⟨cellB, hcB, hoB, hclB⟩, hPc⟩ := hp
  intro T hT X
  rcases vx_callV X hx (C := C) (bytes := bytes) (maxL := maxL) (ret := ret) ho hl hin hse hcode hy hK (by rw [hT]; exact hcB) hoB hclB hg (hsize.trans hml.symm) (argsL := As) (rest := rest) (fun sig h => hn.trans (hlen sig h)) hstack hW (by rw [hb]; exact hdg)
    (fun vm₁ hW₁ => ⟨hf.1, hf.2, hPc (T.setVm vm₁) hT hW₁⟩) with ⟨v, vm₁, ⟨U', l2, c2, s2⟩, hW₁, X', ⟨g', mk, t, L, e1, e2, hq, h1, hL, h2, h3⟩, st⟩ | ⟨q, vm₁, ⟨U', l2, c2, s2⟩, hW₁, X', ⟨g', mk, t, L, E, ce, e1, e2, hq, hce, hcv, hcl, h1, hL, h2, h3⟩, st⟩
  · dsimp only [Pt.U, Pt.locs, Pt.cells, Pt.slots] at X' e1 e2 h1 h2 h3 st
    subst h1; subst h2; subst h3
    exact Or.inl ⟨v, (T.setVm vm₁).calling g' mk (Value.ref b :: As).toArray, t, U', L, hT, X', hL, e1, e2, hq, st⟩
  · dsimp only [Pt.U, Pt.locs, Pt.cells, Pt.slots] at X' e1 e2 h1 h2 h3 st hcl
    subst h1; subst h2; subst h3
    exact Or.inr ⟨q, (T.setVm vm₁).calling g' mk (Value.ref b :: As).toArray, t, U', L, E, ce, hT, X', hL, e1, e2, hq, hce, hcv, vx_cls hW₁ hcl, st⟩
theorem vx_runS (S : CallFix p m c cc nL s args Ts own) (hM : vx_Met l y ws rm Pc Qc XC mc ms free) (cw : CallB R s args own index y bytes maxL ret ws rm mc ms n ∧ (Cond.static y).before args s = true) (hp : PreS s H Pc As)
    (hg : g.method = m) (hn : As.length = n) (hsize : g.locals.size = nL) (hstack : g.stack = As.reverse ++ rest) (hW : 2 * g.monitorRoom + (rest.map fun v => v.category).sum ≤ 8) (hdg : decode cc g.pc = .ok (.invokestatic index, 3)) (hf : cells + mc ≤ R.cells ∧ slots + ms ≤ R.slots) :
    vx_Run p l e R s m args below meth c H locs cells slots mc ms g rest (Qc As.toArray) XC free := by
  have hK : vx_Back l R p e below s args y 3 8 (PreOf R mc ms Pc) (PostOf Qc mc ms free) (vx_Post XC mc ms free) := vx_callBack cw.1 hM hp.1
  obtain ⟨⟨-, -, -, -, -, -, hcode, hini, hy, hlen, hl⟩, hstt⟩ := cw
  obtain ⟨hx, hb, hml, ho, -⟩ := S
  intro T hT X
  rcases vx_callS X hx (bytes := bytes) (maxL := maxL) (ret := ret) ho hl hstt hini hcode hy hK hg (hsize.trans hml.symm) (argsL := As) (rest := rest) (fun sig h => hn.trans (hlen sig h)) hstack hW (by rw [hb]; exact hdg)
    (fun vm₁ hW₁ => ⟨hf.1, hf.2, hp.2 (T.setVm vm₁) hT hW₁⟩) with ⟨v, vm₁, ⟨U', l2, c2, s2⟩, hW₁, X', ⟨g', mk, t, L, e1, e2, hq, h1, hL, h2, h3⟩, st⟩ | ⟨q, vm₁, ⟨U', l2, c2, s2⟩, hW₁, X', ⟨g', mk, t, L, E, ce, e1, e2, hq, hce, hcv, hcl, h1, hL, h2, h3⟩, st⟩
  · dsimp only [Pt.U, Pt.locs, Pt.cells, Pt.slots] at X' e1 e2 h1 h2 h3 st
    subst h1; subst h2; subst h3
    exact Or.inl ⟨v, (T.setVm vm₁).calling g' mk As.toArray, t, U', L, hT, X', hL, e1, e2, hq, st⟩
  · dsimp only [Pt.U, Pt.locs, Pt.cells, Pt.slots] at X' e1 e2 h1 h2 h3 st hcl
    subst h1; subst h2; subst h3
    exact Or.inr ⟨q, (T.setVm vm₁).calling g' mk As.toArray, t, U', L, E, ce, hT, X', hL, e1, e2, hq, hce, hcv, vx_cls hW₁ hcl, st⟩
end Runs
section Rows
variable {p : Program} {l : Launch} {e : Env} {R : Room} {s : State} {m : MethodId} {args : Array Value} {below : List Frame} {meth : Method} {c : Code} {H : Heap} {locs : List Loc} {cells slots : Nat} {Q : State → Prop}
variable {mc ms : Nat} {free : Addr → Prop} {A0 A1 : Nat → Prop} {H0 : Heap} {a : Array Value} {pc : Nat} {ls : Array Slot} {st0 rest : List Value}
theorem vx_keep {st₀ t T' : State} {L : List Loc} (h0 : st₀.heap = H) (e1 : T'.heap = t.heap) (hS : va_S A0 H0 H locs) (hA : ∀ q, q < H.size → A1 q → A0 q) (hf : ∀ q, free q → A0 q) (hL : ∀ q ∈ L, free q.base) (hF : va_F A1 st₀ t) :
    H.size ≤ T'.heap.size ∧ (∀ q : Nat, q < H.size → ¬ A1 q → T'.heap[q]? = H[q]?) ∧ va_S A0 H0 T'.heap (locs ++ L) := by
  obtain ⟨hz, hk⟩ := hF
  rw [h0] at hz hk
  exact ⟨by rw [e1]; exact hz, fun q h1 h2 => by rw [e1]; exact hk q h1 h2,
    ⟨Nat.le_trans hS.1 (by rw [e1]; exact hz), fun q h1 h2 => by rw [e1, hk q (Nat.lt_of_lt_of_le h1 hS.1) (fun z => h2 (hA q (Nat.lt_of_lt_of_le h1 hS.1) z))]; exact hS.2.1 q h1 h2, fun q hq => by
      rcases List.mem_append.mp hq with h | h
      · exact hS.2.2 q h
      · exact hf _ (hL q h)⟩⟩
theorem vx_calli {S SX : Type} {post : Int32 → S → Prop} {px : SX → Prop} {B : S → State → Prop} {BX : String → SX → State → Prop} {AX : Nat → Prop} (hr : vx_Run p l e R s m args below meth c H locs cells slots mc ms (F0 m pc ls st0) rest (va_Qi post B A1 a) (vx_X px BX AX) free) (hS : va_S A0 H0 H locs) (hA : ∀ q, q < H.size → A1 q → A0 q) (hf : ∀ q, free q → A0 q) (hAX : ∀ q, q < H.size → AX q → A0 q)
    (kx : ∀ (E : String) (ce : Cell) (q9 : Addr) (u : SX) (t : State) (H1 : Heap) (locs1 : List Loc), t.heap = H1 → s.vm.Alike t.vm → px u → BX E u t → H.size ≤ H1.size → (∀ q : Nat, q < H.size → ¬ AX q → H1[q]? = H[q]?) → va_S A0 H0 H1 locs1 → H1[q9]? = some ce → ce.vm = .none → s.vm.findClass E = some ce.cls → vx_W p l e R s m args below meth c H1 locs1 (cells + mc) (slots + ms) Q (F0 m pc ls rest) q9)
    (kk : ∀ (r : Int32) (u : S) (t : State) (H1 : Heap) (locs1 : List Loc), t.heap = H1 → s.vm.Alike t.vm → post r u → B u t → H.size ≤ H1.size → (∀ q : Nat, q < H.size → ¬ A1 q → H1[q]? = H[q]?) → va_S A0 H0 H1 locs1 → W p l e R s m args below meth c H1 locs1 (cells + mc) (slots + ms) Q (F0 m (pc + 3) ls (.int r :: rest))) : W p l e R s m args below meth c H locs cells slots Q (F0 m pc ls st0) := by
  intro T hT X
  rcases hr T hT X with ⟨v, st₀, t, T', L, h0, X', hL, e1, e2, ⟨⟨r, u, hv, hp, hb⟩, hF⟩, st⟩ | ⟨q, st₀, t, T', L, E, ce, h0, X', hL, e1, e2, ⟨u, hp, hb, hF⟩, hce, hcv, hcl, st⟩
  · cases hv
    obtain ⟨k1, k2, k3⟩ := vx_keep h0 e1 hS hA hf hL hF
    obtain ⟨t2, a1, b1⟩ := kk r u t T'.heap (locs ++ L) e1.symm (by rw [← e2]; exact X'.warmed.alike) hp hb k1 k2 k3 T' rfl X'
    exact ⟨t2, st t2 a1, b1⟩
  · obtain ⟨k1, k2, k3⟩ := vx_keep h0 e1 hS hAX hf hL hF
    obtain ⟨t2, a1, b1⟩ := kx E ce q u t T'.heap (locs ++ L) e1.symm (by rw [← e2]; exact X'.warmed.alike) hp hb k1 k2 k3 (by rw [e1]; exact hce) hcv hcl T' rfl X'
    exact ⟨t2, st.trans a1, b1⟩
theorem vx_calll {S SX : Type} {post : Int64 → S → Prop} {px : SX → Prop} {B : S → State → Prop} {BX : String → SX → State → Prop} {AX : Nat → Prop} (hr : vx_Run p l e R s m args below meth c H locs cells slots mc ms (F0 m pc ls st0) rest (va_Ql post B A1 a) (vx_X px BX AX) free) (hS : va_S A0 H0 H locs) (hA : ∀ q, q < H.size → A1 q → A0 q) (hf : ∀ q, free q → A0 q) (hAX : ∀ q, q < H.size → AX q → A0 q)
    (kx : ∀ (E : String) (ce : Cell) (q9 : Addr) (u : SX) (t : State) (H1 : Heap) (locs1 : List Loc), t.heap = H1 → s.vm.Alike t.vm → px u → BX E u t → H.size ≤ H1.size → (∀ q : Nat, q < H.size → ¬ AX q → H1[q]? = H[q]?) → va_S A0 H0 H1 locs1 → H1[q9]? = some ce → ce.vm = .none → s.vm.findClass E = some ce.cls → vx_W p l e R s m args below meth c H1 locs1 (cells + mc) (slots + ms) Q (F0 m pc ls rest) q9)
    (kk : ∀ (r : Int64) (u : S) (t : State) (H1 : Heap) (locs1 : List Loc), t.heap = H1 → s.vm.Alike t.vm → post r u → B u t → H.size ≤ H1.size → (∀ q : Nat, q < H.size → ¬ A1 q → H1[q]? = H[q]?) → va_S A0 H0 H1 locs1 → W p l e R s m args below meth c H1 locs1 (cells + mc) (slots + ms) Q (F0 m (pc + 3) ls (.long r :: rest))) : W p l e R s m args below meth c H locs cells slots Q (F0 m pc ls st0) := by
  intro T hT X
  rcases hr T hT X with ⟨v, st₀, t, T', L, h0, X', hL, e1, e2, ⟨⟨r, u, hv, hp, hb⟩, hF⟩, st⟩ | ⟨q, st₀, t, T', L, E, ce, h0, X', hL, e1, e2, ⟨u, hp, hb, hF⟩, hce, hcv, hcl, st⟩
  · cases hv
    obtain ⟨k1, k2, k3⟩ := vx_keep h0 e1 hS hA hf hL hF
    obtain ⟨t2, a1, b1⟩ := kk r u t T'.heap (locs ++ L) e1.symm (by rw [← e2]; exact X'.warmed.alike) hp hb k1 k2 k3 T' rfl X'
    exact ⟨t2, st t2 a1, b1⟩
  · obtain ⟨k1, k2, k3⟩ := vx_keep h0 e1 hS hAX hf hL hF
    obtain ⟨t2, a1, b1⟩ := kx E ce q u t T'.heap (locs ++ L) e1.symm (by rw [← e2]; exact X'.warmed.alike) hp hb k1 k2 k3 (by rw [e1]; exact hce) hcv hcl T' rfl X'
    exact ⟨t2, st.trans a1, b1⟩
theorem vx_callf {S SX : Type} {post : UInt32 → S → Prop} {px : SX → Prop} {B : S → State → Prop} {BX : String → SX → State → Prop} {AX : Nat → Prop} (hr : vx_Run p l e R s m args below meth c H locs cells slots mc ms (F0 m pc ls st0) rest (va_Qf post B A1 a) (vx_X px BX AX) free) (hS : va_S A0 H0 H locs) (hA : ∀ q, q < H.size → A1 q → A0 q) (hf : ∀ q, free q → A0 q) (hAX : ∀ q, q < H.size → AX q → A0 q)
    (kx : ∀ (E : String) (ce : Cell) (q9 : Addr) (u : SX) (t : State) (H1 : Heap) (locs1 : List Loc), t.heap = H1 → s.vm.Alike t.vm → px u → BX E u t → H.size ≤ H1.size → (∀ q : Nat, q < H.size → ¬ AX q → H1[q]? = H[q]?) → va_S A0 H0 H1 locs1 → H1[q9]? = some ce → ce.vm = .none → s.vm.findClass E = some ce.cls → vx_W p l e R s m args below meth c H1 locs1 (cells + mc) (slots + ms) Q (F0 m pc ls rest) q9)
    (kk : ∀ (r : UInt32) (u : S) (t : State) (H1 : Heap) (locs1 : List Loc), t.heap = H1 → s.vm.Alike t.vm → post r u → B u t → H.size ≤ H1.size → (∀ q : Nat, q < H.size → ¬ A1 q → H1[q]? = H[q]?) → va_S A0 H0 H1 locs1 → W p l e R s m args below meth c H1 locs1 (cells + mc) (slots + ms) Q (F0 m (pc + 3) ls (.float r :: rest))) : W p l e R s m args below meth c H locs cells slots Q (F0 m pc ls st0) := by
  intro T hT X
  rcases hr T hT X with ⟨v, st₀, t, T', L, h0, X', hL, e1, e2, ⟨⟨r, u, hv, hp, hb⟩, hF⟩, st⟩ | ⟨q, st₀, t, T', L, E, ce, h0, X', hL, e1, e2, ⟨u, hp, hb, hF⟩, hce, hcv, hcl, st⟩
  · cases hv
    obtain ⟨k1, k2, k3⟩ := vx_keep h0 e1 hS hA hf hL hF
    obtain ⟨t2, a1, b1⟩ := kk r u t T'.heap (locs ++ L) e1.symm (by rw [← e2]; exact X'.warmed.alike) hp hb k1 k2 k3 T' rfl X'
    exact ⟨t2, st t2 a1, b1⟩
  · obtain ⟨k1, k2, k3⟩ := vx_keep h0 e1 hS hAX hf hL hF
    obtain ⟨t2, a1, b1⟩ := kx E ce q u t T'.heap (locs ++ L) e1.symm (by rw [← e2]; exact X'.warmed.alike) hp hb k1 k2 k3 (by rw [e1]; exact hce) hcv hcl T' rfl X'
    exact ⟨t2, st.trans a1, b1⟩
theorem vx_calld {S SX : Type} {post : UInt64 → S → Prop} {px : SX → Prop} {B : S → State → Prop} {BX : String → SX → State → Prop} {AX : Nat → Prop} (hr : vx_Run p l e R s m args below meth c H locs cells slots mc ms (F0 m pc ls st0) rest (va_Qd post B A1 a) (vx_X px BX AX) free) (hS : va_S A0 H0 H locs) (hA : ∀ q, q < H.size → A1 q → A0 q) (hf : ∀ q, free q → A0 q) (hAX : ∀ q, q < H.size → AX q → A0 q)
    (kx : ∀ (E : String) (ce : Cell) (q9 : Addr) (u : SX) (t : State) (H1 : Heap) (locs1 : List Loc), t.heap = H1 → s.vm.Alike t.vm → px u → BX E u t → H.size ≤ H1.size → (∀ q : Nat, q < H.size → ¬ AX q → H1[q]? = H[q]?) → va_S A0 H0 H1 locs1 → H1[q9]? = some ce → ce.vm = .none → s.vm.findClass E = some ce.cls → vx_W p l e R s m args below meth c H1 locs1 (cells + mc) (slots + ms) Q (F0 m pc ls rest) q9)
    (kk : ∀ (r : UInt64) (u : S) (t : State) (H1 : Heap) (locs1 : List Loc), t.heap = H1 → s.vm.Alike t.vm → post r u → B u t → H.size ≤ H1.size → (∀ q : Nat, q < H.size → ¬ A1 q → H1[q]? = H[q]?) → va_S A0 H0 H1 locs1 → W p l e R s m args below meth c H1 locs1 (cells + mc) (slots + ms) Q (F0 m (pc + 3) ls (.double r :: rest))) : W p l e R s m args below meth c H locs cells slots Q (F0 m pc ls st0) := by
  intro T hT X
  rcases hr T hT X with ⟨v, st₀, t, T', L, h0, X', hL, e1, e2, ⟨⟨r, u, hv, hp, hb⟩, hF⟩, st⟩ | ⟨q, st₀, t, T', L, E, ce, h0, X', hL, e1, e2, ⟨u, hp, hb, hF⟩, hce, hcv, hcl, st⟩
  · cases hv
    obtain ⟨k1, k2, k3⟩ := vx_keep h0 e1 hS hA hf hL hF
    obtain ⟨t2, a1, b1⟩ := kk r u t T'.heap (locs ++ L) e1.symm (by rw [← e2]; exact X'.warmed.alike) hp hb k1 k2 k3 T' rfl X'
    exact ⟨t2, st t2 a1, b1⟩
  · obtain ⟨k1, k2, k3⟩ := vx_keep h0 e1 hS hAX hf hL hF
    obtain ⟨t2, a1, b1⟩ := kx E ce q u t T'.heap (locs ++ L) e1.symm (by rw [← e2]; exact X'.warmed.alike) hp hb k1 k2 k3 (by rw [e1]; exact hce) hcv hcl T' rfl X'
    exact ⟨t2, st.trans a1, b1⟩
theorem vx_callv {S SX : Type} {post : S → Prop} {px : SX → Prop} {B : S → State → Prop} {BX : String → SX → State → Prop} {AX : Nat → Prop} (hr : vx_Run p l e R s m args below meth c H locs cells slots mc ms (F0 m pc ls st0) rest (va_Qv post B A1 a) (vx_X px BX AX) free) (hS : va_S A0 H0 H locs) (hA : ∀ q, q < H.size → A1 q → A0 q) (hf : ∀ q, free q → A0 q) (hAX : ∀ q, q < H.size → AX q → A0 q)
    (kx : ∀ (E : String) (ce : Cell) (q9 : Addr) (u : SX) (t : State) (H1 : Heap) (locs1 : List Loc), t.heap = H1 → s.vm.Alike t.vm → px u → BX E u t → H.size ≤ H1.size → (∀ q : Nat, q < H.size → ¬ AX q → H1[q]? = H[q]?) → va_S A0 H0 H1 locs1 → H1[q9]? = some ce → ce.vm = .none → s.vm.findClass E = some ce.cls → vx_W p l e R s m args below meth c H1 locs1 (cells + mc) (slots + ms) Q (F0 m pc ls rest) q9)
    (kk : ∀ (u : S) (t : State) (H1 : Heap) (locs1 : List Loc), t.heap = H1 → s.vm.Alike t.vm → post u → B u t → H.size ≤ H1.size → (∀ q : Nat, q < H.size → ¬ A1 q → H1[q]? = H[q]?) → va_S A0 H0 H1 locs1 → W p l e R s m args below meth c H1 locs1 (cells + mc) (slots + ms) Q (F0 m (pc + 3) ls (rest))) : W p l e R s m args below meth c H locs cells slots Q (F0 m pc ls st0) := by
  intro T hT X
  rcases hr T hT X with ⟨v, st₀, t, T', L, h0, X', hL, e1, e2, ⟨⟨u, hv, hp, hb⟩, hF⟩, st⟩ | ⟨q, st₀, t, T', L, E, ce, h0, X', hL, e1, e2, ⟨u, hp, hb, hF⟩, hce, hcv, hcl, st⟩
  · cases hv
    obtain ⟨k1, k2, k3⟩ := vx_keep h0 e1 hS hA hf hL hF
    obtain ⟨t2, a1, b1⟩ := kk u t T'.heap (locs ++ L) e1.symm (by rw [← e2]; exact X'.warmed.alike) hp hb k1 k2 k3 T' rfl X'
    exact ⟨t2, st t2 a1, b1⟩
  · obtain ⟨k1, k2, k3⟩ := vx_keep h0 e1 hS hAX hf hL hF
    obtain ⟨t2, a1, b1⟩ := kx E ce q u t T'.heap (locs ++ L) e1.symm (by rw [← e2]; exact X'.warmed.alike) hp hb k1 k2 k3 (by rw [e1]; exact hce) hcv hcl T' rfl X'
    exact ⟨t2, st.trans a1, b1⟩
/-- caught by the row x of this method's table; the rows ahead don't take it -/
theorem vx_catch {own name : String} {E : String} {ce : Cell} {q : Addr} (hown : s.vm.findClass own = some m.cls) (pre : List ExceptionTableEntry) (x : ExceptionTableEntry) (suf : List ExceptionTableEntry) (hsplit : c.exceptionTable.toList = pre ++ x :: suf)
    (hpass : ∀ z ∈ pre, covers z pc = false ∨ (z.catchType ≠ 0 ∧ ∃ nm : String, (Cond.classLink own z.catchType nm).before args s = true ∧ va_Nc E nm s)) (hx : covers x pc = true) (h0 : x.catchType ≠ 0)
    (hlink : (Cond.classLink own x.catchType name).before args s = true) (hcast : (Cond.castable E name).before args s = true) (hcell : H[q]? = some ce) (hv : ce.vm = .none) (hcl : s.vm.findClass E = some ce.cls)
    (kk : W p l e R s m args below meth c H locs cells slots Q (F0 m x.handlerPc ls [.ref q])) : vx_W p l e R s m args below meth c H locs cells slots Q (F0 m pc ls rest) q := by
  intro T hT X
  have hpl : e.platform.magicAccessors = ({} : Platform).magicAccessors := by rw [X.admits.platform]
  obtain ⟨c3, c4, hc3, hc4, hasg⟩ := Cond.castable_spec hcast
  cases Option.some.inj (hc3.symm.trans hcl)
  obtain ⟨c5, hc5, hcl5⟩ := Cond.classLink_spec hown hlink e.platform hpl
  cases Option.some.inj (hc4.symm.trans hc5)
  obtain ⟨vm', X', st⟩ := zc_caught X q (g := F0 m pc ls rest) rfl (by rw [hT]; exact hcell) (fun k h => by rw [hv] at h; cases h) (by obtain ⟨k9, h9, -⟩ := Vm.findClass_spec hcl; exact ⟨k9, h9⟩) pre x suf hsplit
    (fun z hz => by
      rcases hpass z hz with h | ⟨hz0, nm, hl1, hn1⟩
      · exact Or.inl h
      · obtain ⟨c6, hc6, hcl6⟩ := Cond.classLink_spec hown hl1 e.platform hpl
        obtain ⟨a8, b8, h1, h2, h3⟩ := hn1
        cases Option.some.inj (h1.symm.trans hcl)
        cases Option.some.inj (h2.symm.trans hc6)
        exact Or.inr ⟨hz0, _, hcl6, h3⟩) hx h0 hcl5 hasg
  obtain ⟨t, a1, b1⟩ := kk (T.setVm vm') hT X'
  exact ⟨t, st.trans a1, b1⟩
end Rows
section Ends
variable {p : Program} {l : Launch} {e : Env} {R : Room} {s : State} {m : MethodId} {args : Array Value} {below : List Frame} {meth : Method} {c : Code} {H : Heap} {locs : List Loc} {cells slots : Nat} {Q : State → Prop}
variable {mc ms : Nat} {free : Addr → Prop} {A0 A1 : Nat → Prop} {H0 : Heap} {a : Array Value} {ls : Array Slot} {st0 rest : List Value}
variable {Qc : Array Value → State → Outcome → State → Prop} {XC : String → State → State → Prop}
/-- what a body that may throw owes at its end -/
def vx_MQ (below : List Frame) (Qc : Array Value → State → Outcome → State → Prop) (XC : String → State → State → Prop) (a : Array Value) (s : State) (mc ms : Nat) (free : Addr → Prop) : State → Prop := fun t =>
  ∃ o, t.status = .running ∧ Ended t below o ∧ vx_Q Qc XC mc ms free a s o t
theorem vx_ret {g : JFrame} {mc ms : Nat} (k : W p l e R s m args below meth c H locs cells slots (MQ below Qc args s mc ms free) g) : W p l e R s m args below meth c H locs cells slots (vx_MQ below Qc XC args s mc ms free) g := by
  intro T hT X
  obtain ⟨t, a1, o, b1, b2, b3, b4⟩ := k T hT X
  exact ⟨t, a1, o, b1, b2, Or.inl ⟨b3, b4⟩⟩
/-- not caught here: it goes on to the caller -/
theorem vx_widen {g : JFrame} {q : Addr} {k n : Nat} (h1 : cells ≤ k) (h2 : slots ≤ n) (kk : vx_W p l e R s m args below meth c H locs k n Q g q) : vx_W p l e R s m args below meth c H locs cells slots Q g q := fun T hT X => kk T hT (stand_widen X h1 h2)
theorem vx_out {pc : Nat} {E : String} {ce : Cell} {q : Addr} {mc ms : Nat} (hout : ∀ x ∈ c.exceptionTable.toList, covers x pc = false) (hlocks : meth.locks = false) (hcell : H[q]? = some ce) (hv : ce.vm = .none) (hcl : s.vm.findClass E = some ce.cls)
    (hx : ∀ t : State, t.heap = H → s.vm.Alike t.vm → XC E s t) (hf : ∀ z ∈ locs, free z.base) (hc : cells ≤ mc) (hs : slots ≤ ms) :
    vx_W p l e R s m args below meth c H locs cells slots (vx_MQ below Qc XC args s mc ms free) (F0 m pc ls rest) q := by
  intro T hT X
  obtain ⟨st1, hrun, hend, hW, hsm⟩ := X.leaveThrown q (g := F0 m pc ls rest) rfl rfl rfl hout hlocks
  have hcell9 : (T.setFrames (.throwing q :: below)).heap[q]? = some ce := by
    show T.heap[q]? = some ce
    rw [hT]; exact hcell
  exact ⟨_, st1, .threw q, hrun, hend, Or.inr ⟨q, rfl, E, ce, locs, hx _ hT hW.alike, hcell9, hv, hcl, hW, hsm.mono hc hs, hf⟩⟩
theorem vx_frame {U : State} {k n : Nat} (h : s.sameButNew ({ U with vm := s.vm } : State) locs k n) : s.heap.size ≤ U.heap.size ∧ ∀ q : Nat, q < s.heap.size → (∀ z ∈ locs, z.base ≠ q) → U.heap[q]? = s.heap[q]? := by
  obtain ⟨-, h2, -, -, -, h6⟩ := h
  refine ⟨h2, fun q hq hz => ?_⟩
  obtain ⟨c9, e1, e2, e3, e4⟩ := h6 q _ (Array.getElem?_eq_getElem hq)
  have hs : c9.slots = (s.heap[q]).slots := Array.ext_getElem? fun i => e4 i fun hm => hz _ hm rfl
  have h9 : c9 = s.heap[q] := by
    rw [hs] at e2
    exact e2
  have e5 : U.heap[q]? = some c9 := e1
  rw [e5, h9, Array.getElem?_eq_getElem hq]
/-- the words of a throw but the four that speak of the heap -/
def vx_no (w : Cond) : Bool := decide (w ≠ .isRef (.static Bundle.tN "UNASSIGNED_STACK" Bundle.steD)) && decide (w ≠ .isRef (.static Bundle.tN "SUPPRESSED_SENTINEL" Bundle.listD)) && decide (w ≠ .laysStatic Bundle.tN "UNASSIGNED_STACK" Bundle.steD) && decide (w ≠ .laysStatic Bundle.tN "SUPPRESSED_SENTINEL" Bundle.listD)
def vx_at0 (own : String) (ic : Nat) (X : String) (names : List String) : List Cond := (Bundle.ownAtoms0 own ic X names).filter vx_no
def vx_atS (own : String) (ic : Nat) (X : String) (names : List String) : List Cond := (Bundle.ownAtoms own ic X names).filter vx_no
/-- a word that the tables alone decide, or a good one -/
def vx_ot (w : Cond) : Bool := w.onTables || goodWord w
theorem vx_ot_at {args a' : Array Value} {s U : State} {w : Cond} (hW : s.WarmedH U.vm) (hvm : s.vm = U.vm) (hg : vx_ot w = true) (h : w.before args s = true) : w.before a' U = true := by
  simp only [vx_ot, Bool.or_eq_true] at hg
  rcases hg with hg | hg
  · exact va_tabs hg hvm h
  · exact word_at hW (good_of_word hg) h
/-- a list's words: the good ones out of the method's own list, the others by premises of their own -/
theorem vx_hat {args : Array Value} {s : State} {L B : List Cond} (h1 : ∀ w ∈ L.filter goodWord, w.before args s = true) (h2 : ∀ w ∈ L.filter (fun w => !goodWord w), w ∈ B) (h3 : ∀ w ∈ B, w.before args s = true) : ∀ w ∈ L, w.before args s = true := by
  intro w hw
  by_cases g : goodWord w = true
  · exact h1 w (List.mem_filter.mpr ⟨hw, g⟩)
  · refine h3 w (h2 w (List.mem_filter.mpr ⟨hw, ?_⟩))
    show (!goodWord w) = true
    cases hgw : goodWord w
    · rfl
    · exact absurd hgw g
theorem vx_c {args : Array Value} {s : State} {w : Cond} {B : List Cond} (h : w.before args s = true) (t : ∀ w ∈ B, w.before args s = true) : ∀ w' ∈ w :: B, w'.before args s = true := fun w' h' => (List.mem_cons.mp h').elim (fun e => by rw [e]; exact h) (t w')
theorem vx_n {args : Array Value} {s : State} : ∀ w ∈ ([] : List Cond), w.before args s = true := fun _ h => nomatch h
theorem vx_own {args : Array Value} {s : State} {L : List Cond} (h1 : ∀ w ∈ L.filter vx_no, w.before args s = true)
    (hU : (Cond.isRef (.static Bundle.tN "UNASSIGNED_STACK" Bundle.steD)).before args s = true) (hN : (Cond.isRef (.static Bundle.tN "SUPPRESSED_SENTINEL" Bundle.listD)).before args s = true)
    (lU : (Cond.laysStatic Bundle.tN "UNASSIGNED_STACK" Bundle.steD).before args s = true) (lN : (Cond.laysStatic Bundle.tN "SUPPRESSED_SENTINEL" Bundle.listD).before args s = true) : ∀ w ∈ L, w.before args s = true := by
  intro w hw
  by_cases e1 : w = .isRef (.static Bundle.tN "UNASSIGNED_STACK" Bundle.steD)
  · rw [e1]; exact hU
  · by_cases e2 : w = .isRef (.static Bundle.tN "SUPPRESSED_SENTINEL" Bundle.listD)
    · rw [e2]; exact hN
    · by_cases e3 : w = .laysStatic Bundle.tN "UNASSIGNED_STACK" Bundle.steD
      · rw [e3]; exact lU
      · by_cases e4 : w = .laysStatic Bundle.tN "SUPPRESSED_SENTINEL" Bundle.listD
        · rw [e4]; exact lN
        · exact h1 w (List.mem_filter.mpr ⟨hw, by unfold vx_no; rw [decide_eq_true e1, decide_eq_true e2, decide_eq_true e3, decide_eq_true e4]; rfl⟩)
/-- where a static field lies, its class's statics cell in H -/
def vx_L (C n d : String) (A : Nat → Prop) (U : State) (H : Heap) : Prop := ∃ (c : ClassId) (k : Class) (i : Nat) (f : Field) (a : Nat) (cell : Cell), U.vm.findClass C = some c ∧ U.fieldFound? C n d = some (c, k, i, f) ∧ f.isStatic = true ∧ k.statics = some a ∧ H[a]? = some cell ∧ cell.vm.isStatics = true ∧ cell.cls = c ∧ f.slot < cell.slots.size ∧ k.staticTypes[f.slot]? = some f.type ∧ ¬ A a
theorem vx_L.moved {C n d : String} {A : Nat → Prop} {u U : State} {H : Heap} (hvm : u.vm.Alike U.vm) (h : vx_L C n d A u H) : vx_L C n d A U H := by
  obtain ⟨c, k, i, f, a, cell, h1, h2, h3, h4, h5, h6, h7, h8, h9, h10⟩ := h
  obtain ⟨k', hi', he⟩ := State.fieldFound?_setVm hvm h2
  exact ⟨c, k', i, f, a, cell, by rw [hvm.findClass]; exact h1, hi', h3, by rw [he]; exact h4, h5, h6, h7, h8, by rw [he]; exact h9, h10⟩
theorem vx_L.kept {C n d : String} {A : Nat → Prop} {U : State} {H H1 : Heap} (h : vx_L C n d A U H) (hq : ∀ a : Nat, a < H.size → ¬ A a → H1[a]? = H[a]?) : vx_L C n d A U H1 := by
  obtain ⟨c, k, i, f, a, cell, h1, h2, h3, h4, h5, h6, h7, h8, h9, h10⟩ := h
  exact ⟨c, k, i, f, a, cell, h1, h2, h3, h4, by rw [hq a (Array.getElem?_eq_some_iff.mp h5).1 h10]; exact h5, h6, h7, h8, h9, h10⟩
theorem vx_L.narrow {C n d : String} {A B : Nat → Prop} {U : State} {H : Heap} (h : vx_L C n d A U H) (hAB : ∀ q, B q → A q) : vx_L C n d B U H := by
  obtain ⟨c, k, i, f, a, cell, h1, h2, h3, h4, h5, h6, h7, h8, h9, h10⟩ := h
  exact ⟨c, k, i, f, a, cell, h1, h2, h3, h4, h5, h6, h7, h8, h9, fun z => h10 (hAB _ z)⟩
theorem vx_L.word {C n d : String} {A : Nat → Prop} {s : State} {args : Array Value} (h : vx_L C n d A s s.heap) : (Cond.laysStatic C n d).before args s = true := by
  obtain ⟨c, k, i, f, a, cell, h1, h2, h3, h4, h5, h6, h7, h8, h9, -⟩ := h
  show (Cond.laysStatic C n d).holds args s none s [] = true
  exact Cond.laysStatic_of h1 h2 h3 h4 h5 h6 h7 h8 h9
/-- .. and what it holds: null or some reference -/
def vx_Zq (C n d : String) (A : Nat → Prop) (U : State) (H : Heap) : Prop := va_Zq C n d A U H ∧ vx_L C n d A U H
theorem vx_Zq.moved {C n d : String} {A : Nat → Prop} {u U : State} {H : Heap} (hvm : u.vm.Alike U.vm) (h : vx_Zq C n d A u H) : vx_Zq C n d A U H := ⟨va_Zq.moved hvm h.1, vx_L.moved hvm h.2⟩
theorem vx_Zq.kept {C n d : String} {A : Nat → Prop} {U : State} {H H1 : Heap} (h : vx_Zq C n d A U H) (hq : ∀ a : Nat, a < H.size → ¬ A a → H1[a]? = H[a]?) : vx_Zq C n d A U H1 := ⟨va_Zq.kept h.1 hq, vx_L.kept h.2 hq⟩
theorem vx_Zq.narrow {C n d : String} {A B : Nat → Prop} {U : State} {H : Heap} (h : vx_Zq C n d A U H) (hAB : ∀ q, B q → A q) : vx_Zq C n d B U H := ⟨va_Zq.narrow h.1 hAB, vx_L.narrow h.2 hAB⟩
theorem vx_Zqof {args : Array Value} {s : State} {C n d : String} {A : Nat → Prop} (hl : (Cond.laysStatic C n d).before args s = true) (hini : (Cond.initialized C).before args s = true) (h : (Cond.isRef (.static C n d)).before args s = true) (hA : ∀ a : Nat, a < s.heap.size → ¬ A a) : vx_Zq C n d A s s.heap := by
  refine ⟨va_Zqof hl hini h hA, ?_⟩
  obtain ⟨c, k, i, f, a, cell, h1, h2, h3, h4, h5, h6, h7, h8, h9⟩ := Cond.laysStatic_spec hl
  exact ⟨c, k, i, f, a, cell, h1, h2, h3, h4, h5, h6, h7, h8, h9, hA a (Array.getElem?_eq_some_iff.mp h5).1⟩
theorem vx_isRef {C n d : String} {v : Value} {A : Nat → Prop} {s : State} {args : Array Value} (h : va_Z C n d v A s s.heap) (hv : v.isRef = true) : (Cond.isRef (.static C n d)).before args s = true := by
  obtain ⟨cf, kf, fi, f, a, cell, h1, h2, h3, h4, h5, h6, h7, -⟩ := h
  have he : (Term.static C n d).eval args s none [] s = some v := by
    simp [Term.eval, State.fieldNamed?, h1, h2, h4, h5, h6, h7]
  simp only [Cond.before, Cond.holds, Cond.value, he]
  cases v <;> simp_all [Value.isRef]
theorem vx_isRefq {C n d : String} {A : Nat → Prop} {s : State} {args : Array Value} (h : va_Zq C n d A s s.heap) : (Cond.isRef (.static C n d)).before args s = true := by
  rcases h with h | ⟨t, h⟩
  · exact vx_isRef h rfl
  · exact vx_isRef h rfl
/-- the same frame, seen from here: as if the method were called anew in this heap -/
theorem vx_rebase {T : State} (X : Stand p l e R s m args below meth c T locs cells slots) {R' : Room} (hf : R'.frames ≤ R.frames) (hl : R'.locals ≤ R.locals) (hc : cells + R'.cells ≤ R.cells) (hs : slots + R'.slots ≤ R.slots) :
    Stand p l e R' ((T.setVm s.vm).setFrames (.invoking m args :: below)) m args below meth c T [] 0 0 := by
  have htop : (T.setVm s.vm).topJava?.isSome := X.here.top
  have hF : ((T.setVm s.vm).setFrames (.invoking m args :: below)).frames = .invoking m args :: below := State.frames_setFrames _ (State.cur_lt_of_top htop)
  obtain ⟨g₀, hg0⟩ := Option.isSome_iff_exists.mp htop
  obtain ⟨r, hr⟩ := State.topJava?_eq_some.mp hg0
  have hl9 : e.platform.stackLimits (T.setVm s.vm).me = e.platform.stackLimits s.me := X.limits
  have hb9 : (T.setVm s.vm).me.stackBytes = s.me.stackBytes := X.bytes
  refine ⟨X.admits, X.cas, X.clock, hF, ?_, X.hears, X.method, X.code, X.here, X.tail, X.warmed, ?_, ?_, ?_⟩
  · have h := X.room
    have hU : ((T.setVm s.vm).setFrames (.invoking m args :: below)).localsInUse = s.localsInUse := by
      rw [State.localsInUse_invoking hF (meth := meth) (c := c) X.method X.code, State.localsInUse_invoking X.frames X.method X.code]
    simp only [State.hasRoom, Bool.and_eq_true, decide_eq_true_eq] at h ⊢
    obtain ⟨⟨⟨⟨h1, h2, h3, h4, h5, h6⟩, h7⟩, h8⟩, h9⟩ := h
    rw [X.frames, List.length_cons] at h2 h3
    have q1 := X.heapSize
    have q2 := X.used
    simp only [hF, hU, List.length_cons, State.stackLimits_setFrames, State.stackBytes_setFrames, hl9, hb9]
    refine ⟨⟨⟨⟨by omega, by omega, by omega, by omega, by omega, h6⟩, ?_⟩, ?_⟩, X.book⟩
    · show T.heap.size + R'.cells ≤ e.platform.maxCells
      omega
    · show T.slotsUsed + R'.slots ≤ e.platform.maxSlots
      omega
  · rw [State.stackLimits_setFrames]; rfl
  · rw [State.stackBytes_setFrames]; rfl
  · refine ⟨?_, Nat.le_refl _, Nat.le_refl _, ?_, ?_, fun a c9 h9 => ⟨c9, h9, rfl, rfl, fun _ _ => rfl⟩⟩
    · obtain ⟨t, ht, -⟩ := State.frames_cons hr
      show T.setVm s.vm = { ((T.setVm s.vm).setFrames (.invoking m args :: below)).setFrames (T.setVm s.vm).frames with heap := T.heap, slotsUsed := T.slotsUsed }
      rw [State.setFrames_setFrames, State.setFrames_self ht]
      rfl
    · show T.slotsUsed = T.slotsUsed + ((T.heap.toList.drop T.heap.size).map (·.slots.size)).sum
      rw [List.drop_eq_nil_of_le (Nat.le_of_eq Array.length_toList)]
      rfl
    · show ((T.heap.toList.drop T.heap.size).map (·.slots.size)).sum ≤ 0
      rw [List.drop_eq_nil_of_le (Nat.le_of_eq Array.length_toList)]
      exact Nat.le_refl _
/-- 'throw new E()': new; dup; invokespecial; athrow -/
theorem vx_throw0 {cc : ByteArray} {pc : Nat} (hexec : p.tables.exec = Jvm.exec) (hb : c.code = cc) (hl : l.stackTraces = false) {own cls : String} {names : List String} {ik ic mc ms : Nat} {A : Nat → Prop}
    (hown : s.vm.findClass own = some m.cls) (hcls : Bundle.fit cls = true) (hnames : ∀ n ∈ names, Bundle.fit n = true)
    (hk : (Cond.classLink own ik cls).before args s = true) (hini : (Cond.initialized cls).before args s = true) (hat : ∀ w ∈ vx_at0 own ic cls names, w.before args s = true)
    (hgood : ∀ w ∈ Cond.classLink own ik cls :: Cond.initialized cls :: vx_at0 own ic cls names, vx_ot w = true)
    (hU : vx_Zq Bundle.tN "UNASSIGNED_STACK" Bundle.steD A s s.heap) (hN : vx_Zq Bundle.tN "SUPPRESSED_SENTINEL" Bundle.listD A s s.heap) (hS : va_S A s.heap H locs) (hsize : ls.size = c.maxLocals)
    (d0 : decode cc pc = .ok (.new ik, 3)) (d3 : decode cc (pc + 3) = .ok (.dup, 1)) (d4 : decode cc (pc + 4) = .ok (.invokespecial ic, 3)) (d7 : decode cc (pc + 7) = .ok (.athrow, 1))
    (hout : ∀ x ∈ c.exceptionTable.toList, covers x (pc + 7) = false)
    (hRframes : names.length + 3 < R.frames) (hRlocals : (rest.map fun v => v.category).sum + (13 * (names.length + 1) + 42) ≤ R.locals) (hRcells : cells + 1 ≤ R.cells) (hRslots : slots + 6 ≤ R.slots) (hlocks : meth.locks = false)
    (hx : ∀ t : State, s.vm.Alike t.vm → t.heap.size = H.size + 1 → (∀ q : Nat, q < H.size → t.heap[q]? = H[q]?) → XC cls s t)
    (hf : ∀ z ∈ locs, free z.base) (hc : cells + 1 ≤ mc) (hs : slots + 6 ≤ ms) :
    W p l e R s m args below meth c H locs cells slots (vx_MQ below Qc XC args s mc ms free) (F0 m pc ls rest) := by
  intro T hT X
  have htr : e.platform.stackTraces = false := (show e.platform.stackTraces = l.stackTraces by rw [X.admits.platform]).trans hl
  have Y := vx_rebase X (R' := { frames := R.frames, locals := R.locals, cells := 1, slots := 6 }) (Nat.le_refl _) (Nat.le_refl _) hRcells hRslots
  obtain ⟨s', hA⟩ : ∃ z, z = (T.setVm s.vm).setFrames (.invoking m args :: below) := ⟨_, rfl⟩
  rw [← hA] at Y
  have hvm : s'.vm = s.vm := by rw [hA]; rfl
  have hhp : s'.heap = H := by rw [hA]; exact hT
  have hW0 : s.WarmedH s'.vm := by rw [hvm]; exact State.WarmedH.refl s
  have hat' : ∀ w ∈ vx_at0 own ic cls names, w.before args s' = true := fun w hw => vx_ot_at hW0 hvm.symm (hgood w (List.mem_cons_of_mem _ (List.mem_cons_of_mem _ hw))) (hat w hw)
  have hk' : (Cond.classLink own ik cls).before args s' = true := vx_ot_at hW0 hvm.symm (hgood _ List.mem_cons_self) hk
  have hini' : (Cond.initialized cls).before args s' = true := vx_ot_at hW0 hvm.symm (hgood _ (List.mem_cons_of_mem _ List.mem_cons_self)) hini
  have hU' : vx_Zq Bundle.tN "UNASSIGNED_STACK" Bundle.steD A s' s'.heap := by rw [hhp]; exact vx_Zq.moved hW0.alike (hU.kept hS.2.1)
  have hN' : vx_Zq Bundle.tN "SUPPRESSED_SENTINEL" Bundle.listD A s' s'.heap := by rw [hhp]; exact vx_Zq.moved hW0.alike (hN.kept hS.2.1)
  have h : ∀ w ∈ Bundle.ownAtoms0 own ic cls names, w.before args s' = true := vx_own hat' (vx_isRefq hU'.1) (vx_isRefq hN'.1) hU'.2.word hN'.2.word
  have hown' : s'.vm.findClass own = some m.cls := by rw [hvm]; exact hown
  have hins : (Cond.instantiable cls 6).before args s' = true := h _ (by simp [Bundle.ownAtoms0])
  obtain ⟨vm₁, cX, kX, hfX, hkX, -, -, X₁, st1⟩ := Y.newCold hexec (own := own) (C := cls) (index := ik) (n := 6) hown' hk' hins hini'
    (g := F0 m pc ls rest) rfl (by rw [hb]; exact d0) (Nat.le_refl _) (Nat.le_refl _)
  generalize hT1 : (T.setVm vm₁).pushCell { cls := cX, slots := kX.instanceTypes.map defaultValue, vm := .none } = T1 at X₁ st1
  have hcat : (Value.ref T.heap.size).category = 1 := rfl
  have hcellA : T1.heap[T.heap.size]? = some (freshCell cX kX) := by rw [← hT1]; exact State.heap_pushCell_size _ _
  have d3' : decode c.code (pc + 3) = .ok (.dup, 1) := by rw [hb]; exact d3
  obtain ⟨U, hsteps, hrun, hend, hW, hsame, ce, hce, hO⟩ := X₁.ctorThrow0 hexec htr (own := own) (cls := cls) (names := names) (ic := ic) hown' hcls hnames h (fun x hx => nomatch hx) hfX hkX hcellA (by rw [hhp, hT]; exact Nat.le_refl _)
    (g := { method := m, pc := pc + 4, locals := ls, stack := .ref T.heap.size :: .ref T.heap.size :: rest, locked := none }) rfl hsize rfl rfl (rest := rest) rfl
    (by rw [hb]; exact d4) (by rw [hb]; exact d7) hout hRframes (by simp only [List.map_cons, List.sum_cons, hcat]; omega) hlocks
  obtain ⟨f1, f2⟩ := vx_frame hsame
  rw [hhp] at f1 f2
  have f3 : U.heap.size = H.size + 1 := by
    have h8 : U.heap.size ≤ s'.heap.size + (0 + 1) := hsame.2.2.1
    have h7 : T.heap.size < U.heap.size := (Array.getElem?_eq_some_iff.mp hce).1
    rw [hhp] at h8
    rw [hT] at h7
    omega
  have hWs : s.WarmedH U.vm := State.WarmedH.trans hW0 hW
  have hcl : s.vm.findClass cls = some ce.cls := by
    have h9 := hO.cls
    rw [hvm] at h9
    exact h9
  have hall : s.sameButNew ({ U with vm := s.vm } : State) locs mc ms := by
    subst hA
    obtain ⟨e1, e2⟩ := hsame
    rw [State.setFrames_setFrames] at e1
    have h2 : (T.setVm s.vm).sameButNew ({ U with vm := s.vm } : State) [] (0 + 1) (0 + 6) := ⟨e1, e2⟩
    have h3 := X.same.trans h2
    rw [List.append_nil] at h3
    exact h3.mono hc hs
  refine ⟨U, ?_, .threw T.heap.size, hrun, hend, Or.inr ⟨T.heap.size, rfl, cls, ce, locs, hx U hWs.alike f3 (fun q hq => f2 q hq (fun z hz => nomatch hz)), hce, hO.vm, hcl, hWs, hall, hf⟩⟩
  refine st1 _ ?_
  show Steps p.tables e below (T1.setTop { method := m, pc := pc + 3, locals := ls, stack := .ref T.heap.size :: rest, locked := none }) _
  jvm_step X₁.here [X₁.here.top, hexec, d3', Value.category]
  exact hsteps
/-- 'throw new E("text")': new; dup; ldc; invokespecial; athrow -/
theorem vx_throwS {cc : ByteArray} {pc : Nat} (hexec : p.tables.exec = Jvm.exec) (hb : c.code = cc) (hl : l.stackTraces = false) {own cls text : String} {names : List String} {ik is ic mc ms sa : Nat} {A : Nat → Prop}
    (hown : s.vm.findClass own = some m.cls) (hcls : Bundle.fit cls = true) (hnames : ∀ n ∈ names, Bundle.fit n = true)
    (hk : (Cond.classLink own ik cls).before args s = true) (hini : (Cond.initialized cls).before args s = true) (hstr : vk_R own is text sa s) (hat : ∀ w ∈ vx_atS own ic cls names, w.before args s = true)
    (hgood : ∀ w ∈ Cond.classLink own ik cls :: Cond.initialized cls :: vx_atS own ic cls names, vx_ot w = true)
    (hU : vx_Zq Bundle.tN "UNASSIGNED_STACK" Bundle.steD A s s.heap) (hN : vx_Zq Bundle.tN "SUPPRESSED_SENTINEL" Bundle.listD A s s.heap) (hS : va_S A s.heap H locs) (hsize : ls.size = c.maxLocals)
    (d0 : decode cc pc = .ok (.new ik, 3)) (d3 : decode cc (pc + 3) = .ok (.dup, 1)) (d4 : decode cc (pc + 4) = .ok (.ldc is, 2)) (d6 : decode cc (pc + 6) = .ok (.invokespecial ic, 3)) (d9 : decode cc (pc + 9) = .ok (.athrow, 1))
    (hout : ∀ x ∈ c.exceptionTable.toList, covers x (pc + 9) = false)
    (hRframes : names.length + 3 < R.frames) (hRlocals : (rest.map fun v => v.category).sum + (13 * (names.length + 1) + 43) ≤ R.locals) (hRcells : cells + 1 ≤ R.cells) (hRslots : slots + 6 ≤ R.slots) (hlocks : meth.locks = false)
    (hx : ∀ t : State, s.vm.Alike t.vm → t.heap.size = H.size + 1 → (∀ q : Nat, q < H.size → t.heap[q]? = H[q]?) → XC cls s t)
    (hf : ∀ z ∈ locs, free z.base) (hc : cells + 1 ≤ mc) (hs : slots + 6 ≤ ms) :
    W p l e R s m args below meth c H locs cells slots (vx_MQ below Qc XC args s mc ms free) (F0 m pc ls rest) := by
  intro T hT X
  have htr : e.platform.stackTraces = false := (show e.platform.stackTraces = l.stackTraces by rw [X.admits.platform]).trans hl
  have Y := vx_rebase X (R' := { frames := R.frames, locals := R.locals, cells := 1, slots := 6 }) (Nat.le_refl _) (Nat.le_refl _) hRcells hRslots
  obtain ⟨s', hA⟩ : ∃ z, z = (T.setVm s.vm).setFrames (.invoking m args :: below) := ⟨_, rfl⟩
  rw [← hA] at Y
  have hvm : s'.vm = s.vm := by rw [hA]; rfl
  have hhp : s'.heap = H := by rw [hA]; exact hT
  have hW0 : s.WarmedH s'.vm := by rw [hvm]; exact State.WarmedH.refl s
  have hat' : ∀ w ∈ vx_atS own ic cls names, w.before args s' = true := fun w hw => vx_ot_at hW0 hvm.symm (hgood w (List.mem_cons_of_mem _ (List.mem_cons_of_mem _ hw))) (hat w hw)
  have hk' : (Cond.classLink own ik cls).before args s' = true := vx_ot_at hW0 hvm.symm (hgood _ List.mem_cons_self) hk
  have hini' : (Cond.initialized cls).before args s' = true := vx_ot_at hW0 hvm.symm (hgood _ (List.mem_cons_of_mem _ List.mem_cons_self)) hini
  have hU' : vx_Zq Bundle.tN "UNASSIGNED_STACK" Bundle.steD A s' s'.heap := by rw [hhp]; exact vx_Zq.moved hW0.alike (hU.kept hS.2.1)
  have hN' : vx_Zq Bundle.tN "SUPPRESSED_SENTINEL" Bundle.listD A s' s'.heap := by rw [hhp]; exact vx_Zq.moved hW0.alike (hN.kept hS.2.1)
  have h : ∀ w ∈ Bundle.ownAtoms own ic cls names, w.before args s' = true := vx_own hat' (vx_isRefq hU'.1) (vx_isRefq hN'.1) hU'.2.word hN'.2.word
  have hown' : s'.vm.findClass own = some m.cls := by rw [hvm]; exact hown
  have hins : (Cond.instantiable cls 6).before args s' = true := h _ (by simp [Bundle.ownAtoms])
  obtain ⟨vm₁, cX, kX, hfX, hkX, -, -, X₁, st1⟩ := Y.newCold hexec (own := own) (C := cls) (index := ik) (n := 6) hown' hk' hins hini'
    (g := F0 m pc ls rest) rfl (by rw [hb]; exact d0) (Nat.le_refl _) (Nat.le_refl _)
  generalize hT1 : (T.setVm vm₁).pushCell { cls := cX, slots := kX.instanceTypes.map defaultValue, vm := .none } = T1 at X₁ st1
  have hcat : (Value.ref T.heap.size).category = 1 := rfl
  have hcellA : T1.heap[T.heap.size]? = some (freshCell cX kX) := by rw [← hT1]; exact State.heap_pushCell_size _ _
  have d3' : decode c.code (pc + 3) = .ok (.dup, 1) := by rw [hb]; exact d3
  have d4' : decode c.code (pc + 4) = .ok (.ldc is, 2) := by rw [hb]; exact d4
  have hstr' : vk_R own is text sa s' := vk_R.warm hW0 hstr
  obtain ⟨U, hsteps, hrun, hend, hW, hsame, ce, hce, hO⟩ := X₁.ctorThrowS hexec htr (own := own) (cls := cls) (names := names) (ic := ic) hown' hcls hnames h (fun x hx => nomatch hx) hfX hkX hcellA (by rw [hhp, hT]; exact Nat.le_refl _) (msg := .ref sa) rfl
    (g := { method := m, pc := pc + 6, locals := ls, stack := .ref sa :: .ref T.heap.size :: .ref T.heap.size :: rest, locked := none }) rfl hsize rfl rfl (rest := rest) rfl
    (by rw [hb]; exact d6) (by rw [hb]; exact d9) hout hRframes (by simp only [List.map_cons, List.sum_cons, hcat]; omega) hlocks
  obtain ⟨f1, f2⟩ := vx_frame hsame
  rw [hhp] at f1 f2
  have f3 : U.heap.size = H.size + 1 := by
    have h8 : U.heap.size ≤ s'.heap.size + (0 + 1) := hsame.2.2.1
    have h7 : T.heap.size < U.heap.size := (Array.getElem?_eq_some_iff.mp hce).1
    rw [hhp] at h8
    rw [hT] at h7
    omega
  have hWs : s.WarmedH U.vm := State.WarmedH.trans hW0 hW
  have hcl : s.vm.findClass cls = some ce.cls := by
    have h9 := hO.cls
    rw [hvm] at h9
    exact h9
  have hall : s.sameButNew ({ U with vm := s.vm } : State) locs mc ms := by
    subst hA
    obtain ⟨e1, e2⟩ := hsame
    rw [State.setFrames_setFrames] at e1
    have h2 : (T.setVm s.vm).sameButNew ({ U with vm := s.vm } : State) [] (0 + 1) (0 + 6) := ⟨e1, e2⟩
    have h3 := X.same.trans h2
    rw [List.append_nil] at h3
    exact h3.mono hc hs
  refine ⟨U, ?_, .threw T.heap.size, hrun, hend, Or.inr ⟨T.heap.size, rfl, cls, ce, locs, hx U hWs.alike f3 (fun q hq => f2 q hq (fun z hz => nomatch hz)), hce, hO.vm, hcl, hWs, hall, hf⟩⟩
  refine st1 _ ?_
  show Steps p.tables e below (T1.setTop { method := m, pc := pc + 3, locals := ls, stack := .ref T.heap.size :: rest, locked := none }) _
  jvm_step X₁.here [X₁.here.top, hexec, d3', Value.category]
  exact X₁.ldcString hexec (own := own) (text := text) (index := is) (a := sa) hown' hstr'.1 hstr'.2
    (g := { method := m, pc := pc + 4, locals := ls, stack := .ref T.heap.size :: .ref T.heap.size :: rest, locked := none }) rfl d4' _ hsteps
/-- 'throw new E("text")', the text by a wide index -/
theorem vx_throwSW {cc : ByteArray} {pc : Nat} (hexec : p.tables.exec = Jvm.exec) (hb : c.code = cc) (hl : l.stackTraces = false) {own cls text : String} {names : List String} {ik is ic mc ms sa : Nat} {A : Nat → Prop}
    (hown : s.vm.findClass own = some m.cls) (hcls : Bundle.fit cls = true) (hnames : ∀ n ∈ names, Bundle.fit n = true)
    (hk : (Cond.classLink own ik cls).before args s = true) (hini : (Cond.initialized cls).before args s = true) (hstr : vk_R own is text sa s) (hat : ∀ w ∈ vx_atS own ic cls names, w.before args s = true)
    (hgood : ∀ w ∈ Cond.classLink own ik cls :: Cond.initialized cls :: vx_atS own ic cls names, vx_ot w = true)
    (hU : vx_Zq Bundle.tN "UNASSIGNED_STACK" Bundle.steD A s s.heap) (hN : vx_Zq Bundle.tN "SUPPRESSED_SENTINEL" Bundle.listD A s s.heap) (hS : va_S A s.heap H locs) (hsize : ls.size = c.maxLocals)
    (d0 : decode cc pc = .ok (.new ik, 3)) (d3 : decode cc (pc + 3) = .ok (.dup, 1)) (d4 : decode cc (pc + 4) = .ok (.ldc_w is, 3)) (d7 : decode cc (pc + 7) = .ok (.invokespecial ic, 3)) (d10 : decode cc (pc + 10) = .ok (.athrow, 1))
    (hout : ∀ x ∈ c.exceptionTable.toList, covers x (pc + 10) = false)
    (hRframes : names.length + 3 < R.frames) (hRlocals : (rest.map fun v => v.category).sum + (13 * (names.length + 1) + 43) ≤ R.locals) (hRcells : cells + 1 ≤ R.cells) (hRslots : slots + 6 ≤ R.slots) (hlocks : meth.locks = false)
    (hx : ∀ t : State, s.vm.Alike t.vm → t.heap.size = H.size + 1 → (∀ q : Nat, q < H.size → t.heap[q]? = H[q]?) → XC cls s t)
    (hf : ∀ z ∈ locs, free z.base) (hc : cells + 1 ≤ mc) (hs : slots + 6 ≤ ms) :
    W p l e R s m args below meth c H locs cells slots (vx_MQ below Qc XC args s mc ms free) (F0 m pc ls rest) := by
  intro T hT X
  have htr : e.platform.stackTraces = false := (show e.platform.stackTraces = l.stackTraces by rw [X.admits.platform]).trans hl
  have Y := vx_rebase X (R' := { frames := R.frames, locals := R.locals, cells := 1, slots := 6 }) (Nat.le_refl _) (Nat.le_refl _) hRcells hRslots
  obtain ⟨s', hA⟩ : ∃ z, z = (T.setVm s.vm).setFrames (.invoking m args :: below) := ⟨_, rfl⟩
  rw [← hA] at Y
  have hvm : s'.vm = s.vm := by rw [hA]; rfl
  have hhp : s'.heap = H := by rw [hA]; exact hT
  have hW0 : s.WarmedH s'.vm := by rw [hvm]; exact State.WarmedH.refl s
  have hat' : ∀ w ∈ vx_atS own ic cls names, w.before args s' = true := fun w hw => vx_ot_at hW0 hvm.symm (hgood w (List.mem_cons_of_mem _ (List.mem_cons_of_mem _ hw))) (hat w hw)
  have hk' : (Cond.classLink own ik cls).before args s' = true := vx_ot_at hW0 hvm.symm (hgood _ List.mem_cons_self) hk
  have hini' : (Cond.initialized cls).before args s' = true := vx_ot_at hW0 hvm.symm (hgood _ (List.mem_cons_of_mem _ List.mem_cons_self)) hini
  have hU' : vx_Zq Bundle.tN "UNASSIGNED_STACK" Bundle.steD A s' s'.heap := by rw [hhp]; exact vx_Zq.moved hW0.alike (hU.kept hS.2.1)
  have hN' : vx_Zq Bundle.tN "SUPPRESSED_SENTINEL" Bundle.listD A s' s'.heap := by rw [hhp]; exact vx_Zq.moved hW0.alike (hN.kept hS.2.1)
  have h : ∀ w ∈ Bundle.ownAtoms own ic cls names, w.before args s' = true := vx_own hat' (vx_isRefq hU'.1) (vx_isRefq hN'.1) hU'.2.word hN'.2.word
  have hown' : s'.vm.findClass own = some m.cls := by rw [hvm]; exact hown
  have hins : (Cond.instantiable cls 6).before args s' = true := h _ (by simp [Bundle.ownAtoms])
  obtain ⟨vm₁, cX, kX, hfX, hkX, -, -, X₁, st1⟩ := Y.newCold hexec (own := own) (C := cls) (index := ik) (n := 6) hown' hk' hins hini'
    (g := F0 m pc ls rest) rfl (by rw [hb]; exact d0) (Nat.le_refl _) (Nat.le_refl _)
  generalize hT1 : (T.setVm vm₁).pushCell { cls := cX, slots := kX.instanceTypes.map defaultValue, vm := .none } = T1 at X₁ st1
  have hcat : (Value.ref T.heap.size).category = 1 := rfl
  have hcellA : T1.heap[T.heap.size]? = some (freshCell cX kX) := by rw [← hT1]; exact State.heap_pushCell_size _ _
  have d3' : decode c.code (pc + 3) = .ok (.dup, 1) := by rw [hb]; exact d3
  have d4' : decode c.code (pc + 4) = .ok (.ldc_w is, 3) := by rw [hb]; exact d4
  have hstr' : vk_R own is text sa s' := vk_R.warm hW0 hstr
  obtain ⟨U, hsteps, hrun, hend, hW, hsame, ce, hce, hO⟩ := X₁.ctorThrowS hexec htr (own := own) (cls := cls) (names := names) (ic := ic) hown' hcls hnames h (fun x hx => nomatch hx) hfX hkX hcellA (by rw [hhp, hT]; exact Nat.le_refl _) (msg := .ref sa) rfl
    (g := { method := m, pc := pc + 7, locals := ls, stack := .ref sa :: .ref T.heap.size :: .ref T.heap.size :: rest, locked := none }) rfl hsize rfl rfl (rest := rest) rfl
    (by rw [hb]; exact d7) (by rw [hb]; exact d10) hout hRframes (by simp only [List.map_cons, List.sum_cons, hcat]; omega) hlocks
  obtain ⟨f1, f2⟩ := vx_frame hsame
  rw [hhp] at f1 f2
  have f3 : U.heap.size = H.size + 1 := by
    have h8 : U.heap.size ≤ s'.heap.size + (0 + 1) := hsame.2.2.1
    have h7 : T.heap.size < U.heap.size := (Array.getElem?_eq_some_iff.mp hce).1
    rw [hhp] at h8
    rw [hT] at h7
    omega
  have hWs : s.WarmedH U.vm := State.WarmedH.trans hW0 hW
  have hcl : s.vm.findClass cls = some ce.cls := by
    have h9 := hO.cls
    rw [hvm] at h9
    exact h9
  have hall : s.sameButNew ({ U with vm := s.vm } : State) locs mc ms := by
    subst hA
    obtain ⟨e1, e2⟩ := hsame
    rw [State.setFrames_setFrames] at e1
    have h2 : (T.setVm s.vm).sameButNew ({ U with vm := s.vm } : State) [] (0 + 1) (0 + 6) := ⟨e1, e2⟩
    have h3 := X.same.trans h2
    rw [List.append_nil] at h3
    exact h3.mono hc hs
  refine ⟨U, ?_, .threw T.heap.size, hrun, hend, Or.inr ⟨T.heap.size, rfl, cls, ce, locs, hx U hWs.alike f3 (fun q hq => f2 q hq (fun z hz => nomatch hz)), hce, hO.vm, hcl, hWs, hall, hf⟩⟩
  refine st1 _ ?_
  show Steps p.tables e below (T1.setTop { method := m, pc := pc + 3, locals := ls, stack := .ref T.heap.size :: rest, locked := none }) _
  jvm_step X₁.here [X₁.here.top, hexec, d3', Value.category]
  exact X₁.ldcStringW hexec (own := own) (text := text) (index := is) (a := sa) hown' hstr'.1 hstr'.2
    (g := { method := m, pc := pc + 4, locals := ls, stack := .ref T.heap.size :: .ref T.heap.size :: rest, locked := none }) rfl d4' _ hsteps
end Ends
section Bodies
variable {l : Launch}
theorem vx_ofW {y : MethodName} {ws ws' : List Cond} {rm : Room} {Pc : Array Value → State → Prop} {Qc : Array Value → State → Outcome → State → Prop} {XC : String → State → State → Prop} {mc ms : Nat} {free : Addr → Prop} {cc : ByteArray} {maxL : Nat} {ret : Option FieldType}
    (hy : plainFor y = true) (hw : ws = Cond.code y cc maxL ret :: ws')
    (body : ∀ p e s m args below meth c s₁, BodyLoose p l y (headSpec ws rm) cc maxL ret e s m args below meth c s₁ → c.maxLocals = maxL → (∀ x ∈ c.exceptionTable.toList, False) → Pc args s →
      W p l e (headSpec ws rm).room s m args below meth c s.heap [] 0 0 (vx_MQ below Qc XC args s mc ms free) (entryFrame m args maxL)) : vx_Met l y ws rm Pc Qc XC mc ms free := by
  refine MetFree.of_bodySF (code := cc) (maxLocals := maxL) (ret := ret) hy ?_ ?_
  · intro args s m h hn
    obtain ⟨meth, c, h1, h2, h3, h4, h5, h6, -, -⟩ := Cond.code_spec hn (atoms_spec (ws := ws) h _ (by rw [hw]; exact List.mem_cons_self))
    exact ⟨meth, c, h1, h2, h3, h4, h5, h6⟩
  · intro p e s m args below meth c s₁ B hml hP _
    have hh0 : s₁.heap = s.heap := by rw [B.state]; rfl
    have ht : ∀ x ∈ c.exceptionTable.toList, False := by
      obtain ⟨meth9, c9, h1, h2, -, -, -, -, h7, -⟩ := Cond.code_spec B.named (atoms_spec (ws := ws) B.pre _ (by rw [hw]; exact List.mem_cons_self))
      cases Option.some.inj (h1.symm.trans B.method)
      cases Option.some.inj (h2.symm.trans (Stand.of_body B).code)
      intro x hx
      rw [Array.isEmpty_iff.mp h7] at hx
      cases hx
    obtain ⟨t, a1, o, b1, b2, b3⟩ := body p e s m args below meth c s₁ B hml ht hP s₁ hh0 (Stand.of_body B)
    exact ⟨t, o, a1, b1, b2, b3⟩
/-- the table of a body with handlers -/
theorem vx_table {p : Program} {x y : MethodName} {S : Spec} {cc bytes : ByteArray} {maxL maxL' : Nat} {ret ret' : Option FieldType} {e : Env} {s s₁ : State} {m : MethodId} {args : Array Value} {below : List Frame} {meth : Method} {c : Code} {hh : List (Nat × Nat × Nat × Nat)}
    (B : BodyLoose p l y S cc maxL ret e s m args below meth c s₁) (h : (Cond.codeWith y bytes maxL' ret' hh).before args s = true) : c.exceptionTable.toList = tableOf hh := by
  obtain ⟨m9, meth9, c9, hn9, h1, h2, -, -, h6, -⟩ := Cond.codeWith_spec h
  cases Option.some.inj (hn9.symm.trans B.named)
  cases Option.some.inj (h1.symm.trans B.method)
  cases Option.some.inj (h2.symm.trans (Stand.of_body B).code)
  rw [← h6, table_eq]
end Bodies
end VXA
/-! ===== END ===== -/
/-! ===== BEGIN a static call of a method with an exception table ===== -/
section VXS
variable {p : Program} {l : Launch} {e : Env} {R : Room} {s : State} {m : MethodId} {args : Array Value} {below : List Frame} {meth : Method} {c : Code} {T : State} {H : Heap} {locs : List Loc} {cells slots : Nat}
abbrev vx_CSW (R : Room) (s : State) (args : Array Value) (own : String) (index : Nat) (y : MethodName) (bytes : ByteArray) (maxL : Nat) (ret : Option FieldType) (hh : List (Nat × Nat × Nat × Nat)) (ws : List Cond) (rm : Room) (mc ms n : Nat) : Prop :=
  (rm.cells = mc ∧ rm.slots = ms ∧ rm.frames + 1 ≤ R.frames ∧ 8 + (maxL + 11) + rm.locals ≤ R.locals ∧ (∀ w ∈ ws, ∀ (a' : Array Value) (U : State), s.WarmedH U.vm → w.before a' U = true) ∧ Cond.codeWith y bytes maxL ret hh ∈ ws) ∧
  (Cond.codeWith y bytes maxL ret hh).before args s = true ∧ (Cond.initialized y.cls).before args s = true ∧ (y.cls ≠ "java/lang/invoke/MethodHandle" ∧ y.cls ≠ "java/lang/invoke/VarHandle") ∧
  (∀ sig, parseMethodDescriptor y.desc = some sig → n = sig.parameters.length) ∧ (Cond.methodLink own index y).before args s = true ∧ (Cond.static y).before args s = true
theorem vx_cwSW {own : String} {index maxL mc ms : Nat} {y : MethodName} {bytes : ByteArray} {ret : Option FieldType} {hh : List (Nat × Nat × Nat × Nat)} {Ts ws ws' : List Cond} {rm : Room} (n : Nat) (ht : ∀ w ∈ Ts, w.before args s = true) (hT : GoodIn Ts (va_wsS own index y ws)) (hw : ws = Cond.codeWith y bytes maxL ret hh :: ws') (hrc : rm.cells = mc) (hrs : rm.slots = ms)
    (hd : y.cls ≠ "java/lang/invoke/MethodHandle" ∧ y.cls ≠ "java/lang/invoke/VarHandle" ∧ (parseMethodDescriptor y.desc).map (fun d => d.parameters.length) = some n) (hR : rm.frames + 1 ≤ R.frames ∧ 8 + (maxL + 11) + rm.locals ≤ R.locals) :
    vx_CSW R s args own index y bytes maxL ret hh ws rm mc ms n := by
  have ok : ∀ w ∈ va_wsS own index y ws, w.before args s = true := fun w h => ht w (hT w h).1
  have hG : GoodIn Ts ws := fun w h => hT w (by unfold va_wsS; exact List.mem_append_right _ h)
  have hc : Cond.codeWith y bytes maxL ret hh ∈ ws := by rw [hw]; exact List.mem_cons_self
  refine ⟨⟨hrc, hrs, hR.1, hR.2, pay_in ht hG, hc⟩, ht _ (hG _ hc).1, ok _ (by simp [va_wsS]), ⟨hd.1, hd.2.1⟩, fun sig h => ?_, ok _ (by simp [va_wsS]), ok _ (by simp [va_wsS])⟩
  have h2 := hd.2.2
  rw [h] at h2
  exact (Option.some.inj h2).symm
theorem vx_callSW (X : Stand p l e R s m args below meth c T locs cells slots) (hexec : p.tables.exec = Jvm.exec) {own : String} {index : Nat} {y : MethodName} {bytes : ByteArray} {maxL : Nat} {ret : Option FieldType} {hh : List (Nat × Nat × Nat × Nat)}
    (hown : s.vm.findClass own = some m.cls) (hlink : (Cond.methodLink own index y).before args s = true) (hstat : (Cond.static y).before args s = true) (hinit : (Cond.initialized y.cls).before args s = true)
    (hcode : (Cond.codeWith y bytes maxL ret hh).before args s = true) (hy : y.cls ≠ "java/lang/invoke/MethodHandle" ∧ y.cls ≠ "java/lang/invoke/VarHandle")
    {W9 : Nat} {Pre : Pt → Array Value → Prop} {Post : Pt → Array Value → Option Value → Pt → Prop} (hK : Back l R p e below s args y 3 W9 Pre Post)
    {g : JFrame} (hg : g.method = m) (hsize : g.locals.size = c.maxLocals) {argsL rest : List Value} (hlen : ∀ sig, parseMethodDescriptor y.desc = some sig → argsL.length = sig.parameters.length)
    (hstack : g.stack = argsL.reverse ++ rest) (hW : 2 * g.monitorRoom + (rest.map fun v => v.category).sum ≤ W9) (hdg : decode c.code g.pc = .ok (.invokestatic index, 3))
    (hpre : ∀ vm₁, s.WarmedH vm₁ → Pre ⟨T.setVm vm₁, locs, cells, slots⟩ argsL.toArray) :
    ∃ (v : Option Value) (vm₁ : Vm) (B : Pt), s.WarmedH vm₁ ∧ Stand p l e R s m args below meth c B.U B.locs B.cells B.slots ∧ Post ⟨T.setVm vm₁, locs, cells, slots⟩ argsL.toArray v B ∧
      ∀ target, Steps p.tables e below (B.U.setTop { g with pc := g.pc + 3, stack := v.toList ++ rest }) target → Steps p.tables e below (T.setTop g) target := by
  obtain ⟨mk, methM, cM, hnamed, hmethM, -, -, -, -, -, -, hsigM⟩ := Cond.codeWith_spec hcode
  have hstatic : methM.isStatic = true := Cond.static_spec hnamed hmethM hstat
  obtain ⟨kP, hkP, -⟩ := className_of_methodNamed hnamed
  have hinitP : kP.init = .initialized := Cond.initialized_spec (findClass_of_methodNamed hnamed) hkP hinit
  obtain ⟨vm₁, X₁, hstep₁⟩ := X.invokestatic hexec hown hlink hnamed hmethM hstatic hkP hinitP hy (g := g) hg (argsL := argsL) (rest := rest) (hlen _ hsigM) hstack hdg
  obtain ⟨v, B, X', hpost, hsteps⟩ := hK m meth c ⟨T.setVm vm₁, locs, cells, slots⟩ { g with stack := rest } (.invokestatic index) mk argsL.toArray X₁ hg hsize hdg hW (X₁.named hnamed) (hpre vm₁ X₁.warmed)
  exact ⟨v, vm₁, B, X₁.warmed, X', hpost, fun target h => hstep₁ _ fun acts => by rw [doInvoke_state]; exact hsteps.trans h⟩
theorem vx_runSW {y : MethodName} {bytes cc : ByteArray} {maxL nL mc ms n index : Nat} {ret : Option FieldType} {hh : List (Nat × Nat × Nat × Nat)} {ws : List Cond} {rm : Room} {Pc : Array Value → State → Prop} {Qc : Array Value → State → Outcome → State → Prop} {free : Addr → Prop} {Ts : List Cond} {own : String} {As rest : List Value} {g : JFrame}
    (S : CallFix p m c cc nL s args Ts own) (hM : Met l y ws rm Pc Qc mc ms free) (cw : vx_CSW R s args own index y bytes maxL ret hh ws rm mc ms n) (hp : PreS s H Pc As)
    (hg : g.method = m) (hn : As.length = n) (hsize : g.locals.size = nL) (hstack : g.stack = As.reverse ++ rest) (hW : 2 * g.monitorRoom + (rest.map fun v => v.category).sum ≤ 8) (hdg : decode cc g.pc = .ok (.invokestatic index, 3)) (hf : cells + mc ≤ R.cells ∧ slots + ms ≤ R.slots) :
    va_Run p l e R s m args below meth c H locs cells slots mc ms g rest (Qc As.toArray) (free) := by
  obtain ⟨⟨hrc, hrs, hfr, hlo, hws, hcw⟩, hcode, hini, hy, hlen, hl, hstt⟩ := cw
  have hK : Back l R p e below s args y 3 8 (PreOf R mc ms Pc) (PostOf Qc mc ms free) := va_backW (hh := hh) (bytes := bytes) (maxL := maxL) (ret := ret) hM hp.1 hrc hrs hfr hlo hws hcw (fun a' U hW => word_at hW (Or.inl (by first | rfl | simp [Cond.onTables, Cond.keeps, Cond.steady])) hini)
  obtain ⟨hx, hb, hml, ho, -⟩ := S
  intro T hT X
  obtain ⟨v, vm₁, ⟨U', l2, c2, s2⟩, hW₁, X', ⟨g', mk, t, L, e1, e2, hq, h1, hL, h2, h3⟩, st⟩ := vx_callSW X hx (hh := hh) (bytes := bytes) (maxL := maxL) (ret := ret) ho hl hstt hini hcode hy hK hg (hsize.trans hml.symm) (argsL := As) (rest := rest) (fun sig h => hn.trans (hlen sig h)) hstack hW (by rw [hb]; exact hdg)
    (fun vm₁ hW₁ => ⟨hf.1, hf.2, hp.2 (T.setVm vm₁) hT hW₁⟩)
  dsimp only [Pt.U, Pt.locs, Pt.cells, Pt.slots] at X' e1 e2 h1 h2 h3 st
  subst h1; subst h2; subst h3
  exact ⟨v, (T.setVm vm₁).calling g' mk As.toArray, t, U', L, hT, X', hL, e1, e2, hq, st⟩
/-- a thing of a world lies in the heap -/
theorem vx_lt {D : va_G} {cl : List vw_C} {ws : va_W} {H1 : Heap} (h : va_P D cl ws H1) {k : Nat} {q : Nat × va_E} (hk : ws[k]? = some q) : q.1 < H1.size := (h k q hk).lt
end VXS
/-! ===== END ===== -/
/-! ===== BEGIN methods with a table of their own: called by a name, returning or throwing ===== -/
section VXH
/-! vx_backW, vx_callVX, vx_callSX, vx_callVW, vx_runVW, vx_runVX, vx_runSX, vx_ofWH follow the same proofs as their sisters above (Free/Laws.lean, Shelf42/LK1.lean); vx_outP calls Shelf42/NT130.lean (outThrough). -/
section
variable {l : Launch} {R : Room} {p : Program} {e : Env} {below : List Frame} {s : State} {sargs : Array Value} {y : MethodName} {len W9 : Nat}
theorem vx_backW {ws : List Cond} {rm : Room} {Pc : Array Value → State → Prop} {Qc : Array Value → State → Outcome → State → Prop} {XC : String → State → State → Prop} {mc ms : Nat} {free : Addr → Prop} {bytes : ByteArray} {maxL : Nat} {ret : Option FieldType} {hh : List (Nat × Nat × Nat × Nat)}
    (hM : vx_Met l y ws rm Pc Qc XC mc ms free) (hblind : FrameBlind Pc) (hrc : rm.cells = mc) (hrs : rm.slots = ms)
    (hframes : rm.frames + 1 ≤ R.frames) (hlocals : W9 + (maxL + 11) + rm.locals ≤ R.locals)
    (hws : ∀ w ∈ ws, ∀ a' U, s.WarmedH U.vm → w.before a' U = true) (hcode : Cond.codeWith y bytes maxL ret hh ∈ ws) (hinit : ∀ a' U, s.WarmedH U.vm → (Cond.initialized y.cls).before a' U = true) :
    vx_Back l R p e below s sargs y len W9 (PreOf R mc ms Pc) (PostOf Qc mc ms free) (vx_Post XC mc ms free) := by
  intro m meth c A g ig mk a X hg hsize hdg hW hn hp
  have h1 : (headSpec ws rm).pre.before a A.U = true := atoms_intro fun w hw => hws w hw _ _ X.warmed
  have h2 : (Cond.codeWith y bytes maxL ret hh).before a A.U = true := hws _ hcode _ _ X.warmed
  have h3 : (Cond.initialized y.cls).before a A.U = true := hinit _ _ X.warmed
  have h4 : A.cells + (headSpec ws rm).room.cells ≤ R.cells := by rw [show (headSpec ws rm).room.cells = mc from hrc]; exact hp.1
  have h5 : A.slots + (headSpec ws rm).room.slots ≤ R.slots := by rw [show (headSpec ws rm).room.slots = ms from hrs]; exact hp.2.1
  have hPc : Pc a (A.U.calling g mk a) := hblind _ _ _ _ hp.2.2
  obtain ⟨U, Ls, c0, s0⟩ := A
  dsimp only [Pt.U, Pt.locs, Pt.cells, Pt.slots] at h1 h2 h3 h4 h5 X hn hPc ⊢
  obtain ⟨m9, methY, cY, hn9, hmY, hcY, -, hlY, -⟩ := Cond.codeWith_spec h2
  cases Option.some.inj (hn9.symm.trans hn)
  obtain ⟨kY, hkY, -⟩ := className_of_methodNamed hn
  have hinitY : kY.init = .initialized := Cond.initialized_spec (findClass_of_methodNamed hn) hkY h3
  have h : At U g.method c below := by rw [hg]; exact X.here
  have hlocals9 : W9 + (maxL + 11) + (headSpec ws rm).room.locals ≤ R.locals := hlocals
  have happ : (headSpec ws rm).appliesLoose y e.platform (U.calling g mk a) = true :=
    Spec.appliesLoose_calling (g := g) h hdg hn hkY hinitY
      (X.room_calling (g := g) (R' := (headSpec ws rm).room) hsize hmY hcY hframes (by rw [hlY]; omega) h4 h5) h1
  obtain ⟨mid, hmid⟩ := h.above
  have hfr : (U.setTop g).frames = (.java g :: mid) ++ below := by rw [State.frames_setTop' g h.top, hmid]; rfl
  obtain ⟨o, s₂, hsteps, -, hend, hq⟩ := Steps.callFree hM p X.admits X.cas X.clock (acts := []) hfr happ hPc trivial
  have hq' : vx_Q Qc XC mc ms free a (U.calling g mk a) o s₂ := hq
  rw [State.frames_setTop' g h.top] at hend
  obtain ⟨g₀, hg0⟩ := Option.isSome_iff_exists.mp h.top
  obtain ⟨r, hr⟩ := State.topJava?_eq_some.mp hg0
  have hr' : (({ U with heap := s₂.heap, slotsUsed := s₂.slotsUsed } : State).setVm s₂.vm).frames = .java g₀ :: r := hr
  rcases hq' with ⟨hqc, L, hfe, hL⟩ | ⟨q, rfl, E, ce, L, hx, hce, hcv, hcl, hW₂, hsm, hL⟩
  · obtain ⟨⟨v, rfl⟩, hW₂, e2, q2, q3, q4, q5, q6⟩ := id hfe
    have e3 : s₂ = ({ (U.calling g mk a).setFrames s₂.frames with heap := s₂.heap, slotsUsed := s₂.slotsUsed } : State).setVm s₂.vm := by
      have : s₂ = ({ s₂ with vm := (U.calling g mk a).vm } : State).setVm s₂.vm := rfl
      rw [e2] at this
      exact this
    obtain ⟨c₂, i₂, len₂, hc₂, hd₂, hf₂⟩ := hend
    have hW' : U.WarmedH s₂.vm := hW₂
    have hcc : c₂ = c := by
      have h1 : s₂.code? g.method = U.code? g.method := by
        rw [State.code?_eq, State.code?_eq, hW'.alike.method?]
      exact Option.some.inj (hc₂.symm.trans (h1.trans h.code))
    subst hcc
    have hlen : len₂ = len := by rw [hdg] at hd₂; cases hd₂; rfl
    subst hlen
    have hs₂ : s₂ = (({ U with heap := s₂.heap, slotsUsed := s₂.slotsUsed } : State).setVm s₂.vm).setTop { g with pc := g.pc + len₂, stack := v.toList ++ g.stack } := by
      refine e3.trans ?_
      rw [hf₂, State.calling_eq h.top, State.setFrames_setFrames, State.setTop_of_frames _ hr', hr]
      rfl
    have hsame : U.sameButNew ({ U with heap := s₂.heap, slotsUsed := s₂.slotsUsed } : State) L mc ms := by
      refine ⟨?_, q2, q3, q4, q5, q6⟩
      obtain ⟨t, ht, -⟩ := State.frames_cons hr
      show ({ U with heap := s₂.heap, slotsUsed := s₂.slotsUsed } : State) = { U.setFrames U.frames with heap := s₂.heap, slotsUsed := s₂.slotsUsed }
      rw [State.setFrames_self ht]
    subst hg
    refine Or.inl ⟨v, ⟨(({ U with heap := s₂.heap, slotsUsed := s₂.slotsUsed } : State).setVm s₂.vm), Ls ++ L, c0 + mc, s0 + ms⟩,
      ⟨X.admits, X.cas, X.clock, X.frames, X.room, X.hears, X.method, X.code, (X.here.setHeapUsed s₂.heap s₂.slotsUsed).setVm hW'.alike, X.tail, State.WarmedH.trans X.warmed hW', X.limits, X.bytes, X.same.trans (hsame.setVm s.vm)⟩,
      ⟨g, mk, s₂, L, rfl, rfl, hqc, rfl, hL, rfl, rfl⟩, ?_⟩
    show Steps p.tables e below _ ((({ U with heap := s₂.heap, slotsUsed := s₂.slotsUsed } : State).setVm s₂.vm).setTop { g with pc := g.pc + len₂, stack := v.toList ++ g.stack })
    rw [← hs₂]
    exact hsteps
  · obtain ⟨e2, q2, q3, q4, q5, q6⟩ := id hsm
    have e3 : s₂ = ({ (U.calling g mk a).setFrames s₂.frames with heap := s₂.heap, slotsUsed := s₂.slotsUsed } : State).setVm s₂.vm := by
      have : s₂ = ({ s₂ with vm := (U.calling g mk a).vm } : State).setVm s₂.vm := rfl
      rw [e2] at this
      exact this
    have hf₂ : s₂.frames = .throwing q :: .java g :: U.frames.tail := hend
    have hW' : U.WarmedH s₂.vm := hW₂
    have hs₂ : s₂ = ((({ U with heap := s₂.heap, slotsUsed := s₂.slotsUsed } : State).setVm s₂.vm).setTop g).pushFrame (.throwing q) := by
      refine e3.trans ?_
      rw [hf₂, State.calling_eq h.top, State.setFrames_setFrames, State.pushFrame, State.frames_setTop _ hr', State.setTop_of_frames _ hr', State.setFrames_setFrames, hr]
      rfl
    have hsame : U.sameButNew ({ U with heap := s₂.heap, slotsUsed := s₂.slotsUsed } : State) L mc ms := by
      refine ⟨?_, q2, q3, q4, q5, q6⟩
      obtain ⟨t, ht, -⟩ := State.frames_cons hr
      show ({ U with heap := s₂.heap, slotsUsed := s₂.slotsUsed } : State) = { U.setFrames U.frames with heap := s₂.heap, slotsUsed := s₂.slotsUsed }
      rw [State.setFrames_self ht]
    subst hg
    refine Or.inr ⟨q, ⟨(({ U with heap := s₂.heap, slotsUsed := s₂.slotsUsed } : State).setVm s₂.vm), Ls ++ L, c0 + mc, s0 + ms⟩,
      ⟨X.admits, X.cas, X.clock, X.frames, X.room, X.hears, X.method, X.code, (X.here.setHeapUsed s₂.heap s₂.slotsUsed).setVm hW'.alike, X.tail, State.WarmedH.trans X.warmed hW', X.limits, X.bytes, X.same.trans (hsame.setVm s.vm)⟩,
      ⟨g, mk, s₂, L, E, ce, rfl, rfl, hx, hce, hcv, hcl, rfl, hL, rfl, rfl⟩, ?_⟩
    show Steps p.tables e below _ (((({ U with heap := s₂.heap, slotsUsed := s₂.slotsUsed } : State).setVm s₂.vm).setTop g).pushFrame (.throwing q))
    rw [← hs₂]
    exact hsteps
end
variable {p : Program} {l : Launch} {e : Env} {R : Room} {s : State} {m : MethodId} {args : Array Value} {below : List Frame} {meth : Method} {c : Code} {T : State} {H : Heap} {locs : List Loc} {cells slots : Nat}
theorem vx_callVX (X : Stand p l e R s m args below meth c T locs cells slots) (hexec : p.tables.exec = Jvm.exec) {own C : String} {index : Nat} {y : MethodName} {bytes : ByteArray} {maxL : Nat} {ret : Option FieldType} {hh : List (Nat × Nat × Nat × Nat)}
    (hown : s.vm.findClass own = some m.cls) (hlink : (Cond.methodLink own index y).before args s = true) (hinst : (Cond.instanceMethod y).before args s = true) (hsel : (Cond.selects C y y).before args s = true)
    (hcode : (Cond.codeWith y bytes maxL ret hh).before args s = true) (hy : y.cls ≠ "java/lang/invoke/MethodHandle" ∧ y.cls ≠ "java/lang/invoke/VarHandle")
    {W9 : Nat} {Pre : Pt → Array Value → Prop} {Post : Pt → Array Value → Option Value → Pt → Prop} {PostX : Pt → Array Value → Addr → Pt → Prop} (hK : vx_Back l R p e below s args y 3 W9 Pre Post PostX)
    {b : Addr} {cellB : Cell} (hcell : T.heap[b]? = some cellB) (hobj : cellB.vm.isStatics = false) (hcls : s.vm.findClass C = some cellB.cls)
    {g : JFrame} (hg : g.method = m) (hsize : g.locals.size = c.maxLocals) {argsL rest : List Value} (hlen : ∀ sig, parseMethodDescriptor y.desc = some sig → argsL.length = sig.parameters.length)
    (hstack : g.stack = argsL.reverse ++ .ref b :: rest) (hW : 2 * g.monitorRoom + (rest.map fun v => v.category).sum ≤ W9) (hdg : decode c.code g.pc = .ok (.invokevirtual index, 3))
    (hpre : ∀ vm₁, s.WarmedH vm₁ → Pre ⟨T.setVm vm₁, locs, cells, slots⟩ (Value.ref b :: argsL).toArray) :
    (∃ (v : Option Value) (vm₁ : Vm) (B : Pt), s.WarmedH vm₁ ∧ Stand p l e R s m args below meth c B.U B.locs B.cells B.slots ∧ Post ⟨T.setVm vm₁, locs, cells, slots⟩ (Value.ref b :: argsL).toArray v B ∧
      ∀ target, Steps p.tables e below (B.U.setTop { g with pc := g.pc + 3, stack := v.toList ++ rest }) target → Steps p.tables e below (T.setTop g) target) ∨
    (∃ (q : Addr) (vm₁ : Vm) (B : Pt), s.WarmedH vm₁ ∧ Stand p l e R s m args below meth c B.U B.locs B.cells B.slots ∧ PostX ⟨T.setVm vm₁, locs, cells, slots⟩ (Value.ref b :: argsL).toArray q B ∧
      Steps p.tables e below (T.setTop g) ((B.U.setTop { g with stack := rest }).pushFrame (.throwing q))) := by
  obtain ⟨mk, methM, hnamed, hmethM, hstM, habM⟩ := Cond.instanceMethod_spec hinst
  obtain ⟨m8, methM', cM, hn8, hmethM', -, -, -, -, -, -, hsigM⟩ := Cond.codeWith_spec hcode
  cases Option.some.inj (hn8.symm.trans hnamed)
  cases hmethM.symm.trans hmethM'
  obtain ⟨c2, r2, m2, q1, q2, q3, q4, kP, hkP, hkPi⟩ := Cond.selects_spec hsel
  cases hcls.symm.trans q1
  cases (State.methodFound?_of_named hnamed hy).symm.trans q2
  cases hnamed.symm.trans q3
  have hselP : selectMethod e.platform s.vm cellB.cls mk = .method mk := by rw [Launch.admits_selectMethod X.admits]; exact q4
  obtain ⟨vm₁, X₁, hstep₁⟩ := X.invokevirtual hexec hown hlink hnamed hmethM hstM hkP hkPi hy (a := b) (cell := cellB) hcell
    (fun z h => by rw [h] at hobj; cases hobj) hselP hmethM habM hkP hkPi (g := g) hg (argsL := argsL) (rest := rest) (hlen _ hsigM) hstack hdg
  rcases hK m meth c ⟨T.setVm vm₁, locs, cells, slots⟩ { g with stack := rest } (.invokevirtual index) mk (Value.ref b :: argsL).toArray X₁ hg hsize hdg hW (X₁.named hnamed) (hpre vm₁ X₁.warmed) with ⟨v, B, X', hpost, hsteps⟩ | ⟨q, B, X', hpost, hsteps⟩
  · exact Or.inl ⟨v, vm₁, B, X₁.warmed, X', hpost, fun target h => hstep₁ _ fun acts => by rw [doInvoke_state]; exact hsteps.trans h⟩
  · exact Or.inr ⟨q, vm₁, B, X₁.warmed, X', hpost, hstep₁ _ fun acts => by rw [doInvoke_state]; exact hsteps⟩
theorem vx_callSX (X : Stand p l e R s m args below meth c T locs cells slots) (hexec : p.tables.exec = Jvm.exec) {own : String} {index : Nat} {y : MethodName} {bytes : ByteArray} {maxL : Nat} {ret : Option FieldType} {hh : List (Nat × Nat × Nat × Nat)}
    (hown : s.vm.findClass own = some m.cls) (hlink : (Cond.methodLink own index y).before args s = true) (hstat : (Cond.static y).before args s = true) (hinit : (Cond.initialized y.cls).before args s = true)
    (hcode : (Cond.codeWith y bytes maxL ret hh).before args s = true) (hy : y.cls ≠ "java/lang/invoke/MethodHandle" ∧ y.cls ≠ "java/lang/invoke/VarHandle")
    {W9 : Nat} {Pre : Pt → Array Value → Prop} {Post : Pt → Array Value → Option Value → Pt → Prop} {PostX : Pt → Array Value → Addr → Pt → Prop} (hK : vx_Back l R p e below s args y 3 W9 Pre Post PostX)
    {g : JFrame} (hg : g.method = m) (hsize : g.locals.size = c.maxLocals) {argsL rest : List Value} (hlen : ∀ sig, parseMethodDescriptor y.desc = some sig → argsL.length = sig.parameters.length)
    (hstack : g.stack = argsL.reverse ++ rest) (hW : 2 * g.monitorRoom + (rest.map fun v => v.category).sum ≤ W9) (hdg : decode c.code g.pc = .ok (.invokestatic index, 3))
    (hpre : ∀ vm₁, s.WarmedH vm₁ → Pre ⟨T.setVm vm₁, locs, cells, slots⟩ argsL.toArray) :
    (∃ (v : Option Value) (vm₁ : Vm) (B : Pt), s.WarmedH vm₁ ∧ Stand p l e R s m args below meth c B.U B.locs B.cells B.slots ∧ Post ⟨T.setVm vm₁, locs, cells, slots⟩ argsL.toArray v B ∧
      ∀ target, Steps p.tables e below (B.U.setTop { g with pc := g.pc + 3, stack := v.toList ++ rest }) target → Steps p.tables e below (T.setTop g) target) ∨
    (∃ (q : Addr) (vm₁ : Vm) (B : Pt), s.WarmedH vm₁ ∧ Stand p l e R s m args below meth c B.U B.locs B.cells B.slots ∧ PostX ⟨T.setVm vm₁, locs, cells, slots⟩ argsL.toArray q B ∧
      Steps p.tables e below (T.setTop g) ((B.U.setTop { g with stack := rest }).pushFrame (.throwing q))) := by
  obtain ⟨mk, methM, cM, hnamed, hmethM, -, -, -, -, -, -, hsigM⟩ := Cond.codeWith_spec hcode
  have hstatic : methM.isStatic = true := Cond.static_spec hnamed hmethM hstat
  obtain ⟨kP, hkP, -⟩ := className_of_methodNamed hnamed
  have hinitP : kP.init = .initialized := Cond.initialized_spec (findClass_of_methodNamed hnamed) hkP hinit
  obtain ⟨vm₁, X₁, hstep₁⟩ := X.invokestatic hexec hown hlink hnamed hmethM hstatic hkP hinitP hy (g := g) hg (argsL := argsL) (rest := rest) (hlen _ hsigM) hstack hdg
  rcases hK m meth c ⟨T.setVm vm₁, locs, cells, slots⟩ { g with stack := rest } (.invokestatic index) mk argsL.toArray X₁ hg hsize hdg hW (X₁.named hnamed) (hpre vm₁ X₁.warmed) with ⟨v, B, X', hpost, hsteps⟩ | ⟨q, B, X', hpost, hsteps⟩
  · exact Or.inl ⟨v, vm₁, B, X₁.warmed, X', hpost, fun target h => hstep₁ _ fun acts => by rw [doInvoke_state]; exact hsteps.trans h⟩
  · exact Or.inr ⟨q, vm₁, B, X₁.warmed, X', hpost, hstep₁ _ fun acts => by rw [doInvoke_state]; exact hsteps⟩
theorem vx_callVW (X : Stand p l e R s m args below meth c T locs cells slots) (hexec : p.tables.exec = Jvm.exec) {own C : String} {index : Nat} {y : MethodName} {bytes : ByteArray} {maxL : Nat} {ret : Option FieldType} {hh : List (Nat × Nat × Nat × Nat)}
    (hown : s.vm.findClass own = some m.cls) (hlink : (Cond.methodLink own index y).before args s = true) (hinst : (Cond.instanceMethod y).before args s = true) (hsel : (Cond.selects C y y).before args s = true)
    (hcode : (Cond.codeWith y bytes maxL ret hh).before args s = true) (hy : y.cls ≠ "java/lang/invoke/MethodHandle" ∧ y.cls ≠ "java/lang/invoke/VarHandle")
    {W9 : Nat} {Pre : Pt → Array Value → Prop} {Post : Pt → Array Value → Option Value → Pt → Prop} (hK : Back l R p e below s args y 3 W9 Pre Post)
    {b : Addr} {cellB : Cell} (hcell : T.heap[b]? = some cellB) (hobj : cellB.vm.isStatics = false) (hcls : s.vm.findClass C = some cellB.cls)
    {g : JFrame} (hg : g.method = m) (hsize : g.locals.size = c.maxLocals) {argsL rest : List Value} (hlen : ∀ sig, parseMethodDescriptor y.desc = some sig → argsL.length = sig.parameters.length)
    (hstack : g.stack = argsL.reverse ++ .ref b :: rest) (hW : 2 * g.monitorRoom + (rest.map fun v => v.category).sum ≤ W9) (hdg : decode c.code g.pc = .ok (.invokevirtual index, 3))
    (hpre : ∀ vm₁, s.WarmedH vm₁ → Pre ⟨T.setVm vm₁, locs, cells, slots⟩ (Value.ref b :: argsL).toArray) :
    ∃ (v : Option Value) (vm₁ : Vm) (B : Pt), s.WarmedH vm₁ ∧ Stand p l e R s m args below meth c B.U B.locs B.cells B.slots ∧ Post ⟨T.setVm vm₁, locs, cells, slots⟩ (Value.ref b :: argsL).toArray v B ∧
      ∀ target, Steps p.tables e below (B.U.setTop { g with pc := g.pc + 3, stack := v.toList ++ rest }) target → Steps p.tables e below (T.setTop g) target := by
  obtain ⟨mk, methM, hnamed, hmethM, hstM, habM⟩ := Cond.instanceMethod_spec hinst
  obtain ⟨m8, methM', cM, hn8, hmethM', -, -, -, -, -, -, hsigM⟩ := Cond.codeWith_spec hcode
  cases Option.some.inj (hn8.symm.trans hnamed)
  cases hmethM.symm.trans hmethM'
  obtain ⟨c2, r2, m2, q1, q2, q3, q4, kP, hkP, hkPi⟩ := Cond.selects_spec hsel
  cases hcls.symm.trans q1
  cases (State.methodFound?_of_named hnamed hy).symm.trans q2
  cases hnamed.symm.trans q3
  have hselP : selectMethod e.platform s.vm cellB.cls mk = .method mk := by rw [Launch.admits_selectMethod X.admits]; exact q4
  obtain ⟨vm₁, X₁, hstep₁⟩ := X.invokevirtual hexec hown hlink hnamed hmethM hstM hkP hkPi hy (a := b) (cell := cellB) hcell
    (fun z h => by rw [h] at hobj; cases hobj) hselP hmethM habM hkP hkPi (g := g) hg (argsL := argsL) (rest := rest) (hlen _ hsigM) hstack hdg
  obtain ⟨v, B, X', hpost, hsteps⟩ := hK m meth c ⟨T.setVm vm₁, locs, cells, slots⟩ { g with stack := rest } (.invokevirtual index) mk (Value.ref b :: argsL).toArray X₁ hg hsize hdg hW (X₁.named hnamed) (hpre vm₁ X₁.warmed)
  exact ⟨v, vm₁, B, X₁.warmed, X', hpost, fun target h => hstep₁ _ fun acts => by rw [doInvoke_state]; exact hsteps.trans h⟩
abbrev vx_CVW (R : Room) (s : State) (args : Array Value) (own C : String) (index : Nat) (y : MethodName) (bytes : ByteArray) (maxL : Nat) (ret : Option FieldType) (hh : List (Nat × Nat × Nat × Nat)) (ws : List Cond) (rm : Room) (mc ms n : Nat) : Prop :=
  (rm.cells = mc ∧ rm.slots = ms ∧ rm.frames + 1 ≤ R.frames ∧ 8 + (maxL + 11) + rm.locals ≤ R.locals ∧ (∀ w ∈ ws, ∀ (a' : Array Value) (U : State), s.WarmedH U.vm → w.before a' U = true) ∧ Cond.codeWith y bytes maxL ret hh ∈ ws) ∧
  (Cond.codeWith y bytes maxL ret hh).before args s = true ∧ (Cond.initialized y.cls).before args s = true ∧ (y.cls ≠ "java/lang/invoke/MethodHandle" ∧ y.cls ≠ "java/lang/invoke/VarHandle") ∧
  (∀ sig, parseMethodDescriptor y.desc = some sig → n = sig.parameters.length) ∧ (Cond.methodLink own index y).before args s = true ∧ (Cond.instanceMethod y).before args s = true ∧ (Cond.selects C y y).before args s = true
theorem vx_cwVW {own C : String} {index maxL mc ms : Nat} {y : MethodName} {bytes : ByteArray} {ret : Option FieldType} {hh : List (Nat × Nat × Nat × Nat)} {Ts ws ws' : List Cond} {rm : Room} (n : Nat) (ht : ∀ w ∈ Ts, w.before args s = true) (hT : GoodIn Ts (wsV own index C y ws)) (hw : ws = Cond.codeWith y bytes maxL ret hh :: ws') (hrc : rm.cells = mc) (hrs : rm.slots = ms)
    (hd : y.cls = C ∧ y.cls ≠ "java/lang/invoke/MethodHandle" ∧ y.cls ≠ "java/lang/invoke/VarHandle" ∧ (parseMethodDescriptor y.desc).map (fun d => d.parameters.length) = some n) (hR : rm.frames + 1 ≤ R.frames ∧ 8 + (maxL + 11) + rm.locals ≤ R.locals) :
    vx_CVW R s args own C index y bytes maxL ret hh ws rm mc ms n := by
  obtain ⟨hC, hd⟩ := hd
  subst hC
  have ok : ∀ w ∈ wsV own index y.cls y ws, w.before args s = true := fun w h => ht w (hT w h).1
  have hG : GoodIn Ts ws := fun w h => hT w (by unfold wsV; exact List.mem_append_right _ h)
  have hc : Cond.codeWith y bytes maxL ret hh ∈ ws := by rw [hw]; exact List.mem_cons_self
  refine ⟨⟨hrc, hrs, hR.1, hR.2, pay_in ht hG, hc⟩, ht _ (hG _ hc).1, ok _ (by simp [wsV]), ⟨hd.1, hd.2.1⟩, fun sig h => ?_, ok _ (by simp [wsV]), ok _ (by simp [wsV]), ok _ (by simp [wsV])⟩
  have h2 := hd.2.2
  rw [h] at h2
  exact (Option.some.inj h2).symm
theorem vx_runVW {y : MethodName} {bytes cc : ByteArray} {maxL nL mc ms n index : Nat} {ret : Option FieldType} {hh : List (Nat × Nat × Nat × Nat)} {ws : List Cond} {rm : Room} {Pc : Array Value → State → Prop} {Qc : Array Value → State → Outcome → State → Prop} {free : Addr → Prop} {Ts : List Cond} {own C : String} {b : Addr} {As rest : List Value} {g : JFrame}
    (S : CallFix p m c cc nL s args Ts own) (hM : Met l y ws rm Pc Qc mc ms free) (cw : vx_CVW R s args own C index y bytes maxL ret hh ws rm mc ms n) (hp : PreV s H C b Pc As)
    (hg : g.method = m) (hn : As.length = n) (hsize : g.locals.size = nL) (hstack : g.stack = As.reverse ++ .ref b :: rest) (hW : 2 * g.monitorRoom + (rest.map fun v => v.category).sum ≤ 8) (hdg : decode cc g.pc = .ok (.invokevirtual index, 3)) (hf : cells + mc ≤ R.cells ∧ slots + ms ≤ R.slots) :
    va_Run p l e R s m args below meth c H locs cells slots mc ms g rest (Qc (Value.ref b :: As).toArray) free := by
  obtain ⟨⟨hrc, hrs, hfr, hlo, hws, hcw⟩, hcode, hini, hy, hlen, hl, hin, hse⟩ := cw
  have hK : Back l R p e below s args y 3 8 (PreOf R mc ms Pc) (PostOf Qc mc ms free) := va_backW (hh := hh) (bytes := bytes) (maxL := maxL) (ret := ret) hM hp.1 hrc hrs hfr hlo hws hcw (fun a' U hW => word_at hW (Or.inl (by first | rfl | simp [Cond.onTables, Cond.keeps, Cond.steady])) hini)
  obtain ⟨hx, hb, hml, ho, -⟩ := S
  obtain ⟨-, ⟨cellB, hcB, hoB, hclB⟩, hPc⟩ := hp
  intro T hT X
  obtain ⟨v, vm₁, ⟨U', l2, c2, s2⟩, hW₁, X', ⟨g', mk, t, L, e1, e2, hq, h1, hL, h2, h3⟩, st⟩ := vx_callVW X hx (C := C) (hh := hh) (bytes := bytes) (maxL := maxL) (ret := ret) ho hl hin hse hcode hy hK (by rw [hT]; exact hcB) hoB hclB hg (hsize.trans hml.symm) (argsL := As) (rest := rest) (fun sig h => hn.trans (hlen sig h)) hstack hW (by rw [hb]; exact hdg)
    (fun vm₁ hW₁ => ⟨hf.1, hf.2, hPc (T.setVm vm₁) hT hW₁⟩)
  dsimp only [Pt.U, Pt.locs, Pt.cells, Pt.slots] at X' e1 e2 h1 h2 h3 st
  subst h1; subst h2; subst h3
  exact ⟨v, (T.setVm vm₁).calling g' mk (Value.ref b :: As).toArray, t, U', L, hT, X', hL, e1, e2, hq, st⟩
section
variable {y : MethodName} {bytes cc : ByteArray} {maxL nL mc ms n index : Nat} {ret : Option FieldType} {ws : List Cond} {rm : Room} {Pc : Array Value → State → Prop} {Qc : Array Value → State → Outcome → State → Prop} {XC : String → State → State → Prop} {free : Addr → Prop} {Ts : List Cond} {own C : String} {b : Addr} {As rest : List Value} {g : JFrame}
theorem vx_runVX {hh : List (Nat × Nat × Nat × Nat)} (S : CallFix p m c cc nL s args Ts own) (hM : vx_Met l y ws rm Pc Qc XC mc ms free) (cw : vx_CVW R s args own C index y bytes maxL ret hh ws rm mc ms n) (hp : PreV s H C b Pc As)
    (hg : g.method = m) (hn : As.length = n) (hsize : g.locals.size = nL) (hstack : g.stack = As.reverse ++ .ref b :: rest) (hW : 2 * g.monitorRoom + (rest.map fun v => v.category).sum ≤ 8) (hdg : decode cc g.pc = .ok (.invokevirtual index, 3)) (hf : cells + mc ≤ R.cells ∧ slots + ms ≤ R.slots) :
    vx_Run p l e R s m args below meth c H locs cells slots mc ms g rest (Qc (Value.ref b :: As).toArray) XC free := by
  obtain ⟨⟨hrc, hrs, hfr, hlo, hws, hcw⟩, hcode, hini, hy, hlen, hl, hin, hse⟩ := cw
  have hK : vx_Back l R p e below s args y 3 8 (PreOf R mc ms Pc) (PostOf Qc mc ms free) (vx_Post XC mc ms free) := vx_backW (hh := hh) (bytes := bytes) (maxL := maxL) (ret := ret) hM hp.1 hrc hrs hfr hlo hws hcw (fun a' U hW => word_at hW (Or.inl (by first | rfl | simp [Cond.onTables, Cond.keeps, Cond.steady])) hini)
  obtain ⟨hx, hb, hml, ho, -⟩ := S
  obtain ⟨-, ⟨cellB, hcB, hoB, hclB⟩, hPc⟩ := hp
  intro T hT X
  rcases vx_callVX X hx (C := C) (hh := hh) (bytes := bytes) (maxL := maxL) (ret := ret) ho hl hin hse hcode hy hK (by rw [hT]; exact hcB) hoB hclB hg (hsize.trans hml.symm) (argsL := As) (rest := rest) (fun sig h => hn.trans (hlen sig h)) hstack hW (by rw [hb]; exact hdg)
    (fun vm₁ hW₁ => ⟨hf.1, hf.2, hPc (T.setVm vm₁) hT hW₁⟩) with ⟨v, vm₁, ⟨U', l2, c2, s2⟩, hW₁, X', ⟨g', mk, t, L, e1, e2, hq, h1, hL, h2, h3⟩, st⟩ | ⟨q, vm₁, ⟨U', l2, c2, s2⟩, hW₁, X', ⟨g', mk, t, L, E, ce, e1, e2, hq, hce, hcv, hcl, h1, hL, h2, h3⟩, st⟩
  · dsimp only [Pt.U, Pt.locs, Pt.cells, Pt.slots] at X' e1 e2 h1 h2 h3 st
    subst h1; subst h2; subst h3
    exact Or.inl ⟨v, (T.setVm vm₁).calling g' mk (Value.ref b :: As).toArray, t, U', L, hT, X', hL, e1, e2, hq, st⟩
  · dsimp only [Pt.U, Pt.locs, Pt.cells, Pt.slots] at X' e1 e2 h1 h2 h3 st hcl
    subst h1; subst h2; subst h3
    exact Or.inr ⟨q, (T.setVm vm₁).calling g' mk (Value.ref b :: As).toArray, t, U', L, E, ce, hT, X', hL, e1, e2, hq, hce, hcv, vx_cls hW₁ hcl, st⟩
theorem vx_runSX {hh : List (Nat × Nat × Nat × Nat)} (S : CallFix p m c cc nL s args Ts own) (hM : vx_Met l y ws rm Pc Qc XC mc ms free) (cw : vx_CSW R s args own index y bytes maxL ret hh ws rm mc ms n) (hp : PreS s H Pc As)
    (hg : g.method = m) (hn : As.length = n) (hsize : g.locals.size = nL) (hstack : g.stack = As.reverse ++ rest) (hW : 2 * g.monitorRoom + (rest.map fun v => v.category).sum ≤ 8) (hdg : decode cc g.pc = .ok (.invokestatic index, 3)) (hf : cells + mc ≤ R.cells ∧ slots + ms ≤ R.slots) :
    vx_Run p l e R s m args below meth c H locs cells slots mc ms g rest (Qc As.toArray) XC free := by
  obtain ⟨⟨hrc, hrs, hfr, hlo, hws, hcw⟩, hcode, hini, hy, hlen, hl, hstt⟩ := cw
  have hK : vx_Back l R p e below s args y 3 8 (PreOf R mc ms Pc) (PostOf Qc mc ms free) (vx_Post XC mc ms free) := vx_backW (hh := hh) (bytes := bytes) (maxL := maxL) (ret := ret) hM hp.1 hrc hrs hfr hlo hws hcw (fun a' U hW => word_at hW (Or.inl (by first | rfl | simp [Cond.onTables, Cond.keeps, Cond.steady])) hini)
  obtain ⟨hx, hb, hml, ho, -⟩ := S
  intro T hT X
  rcases vx_callSX X hx (hh := hh) (bytes := bytes) (maxL := maxL) (ret := ret) ho hl hstt hini hcode hy hK hg (hsize.trans hml.symm) (argsL := As) (rest := rest) (fun sig h => hn.trans (hlen sig h)) hstack hW (by rw [hb]; exact hdg)
    (fun vm₁ hW₁ => ⟨hf.1, hf.2, hp.2 (T.setVm vm₁) hT hW₁⟩) with ⟨v, vm₁, ⟨U', l2, c2, s2⟩, hW₁, X', ⟨g', mk, t, L, e1, e2, hq, h1, hL, h2, h3⟩, st⟩ | ⟨q, vm₁, ⟨U', l2, c2, s2⟩, hW₁, X', ⟨g', mk, t, L, E, ce, e1, e2, hq, hce, hcv, hcl, h1, hL, h2, h3⟩, st⟩
  · dsimp only [Pt.U, Pt.locs, Pt.cells, Pt.slots] at X' e1 e2 h1 h2 h3 st
    subst h1; subst h2; subst h3
    exact Or.inl ⟨v, (T.setVm vm₁).calling g' mk As.toArray, t, U', L, hT, X', hL, e1, e2, hq, st⟩
  · dsimp only [Pt.U, Pt.locs, Pt.cells, Pt.slots] at X' e1 e2 h1 h2 h3 st hcl
    subst h1; subst h2; subst h3
    exact Or.inr ⟨q, (T.setVm vm₁).calling g' mk As.toArray, t, U', L, E, ce, hT, X', hL, e1, e2, hq, hce, hcv, vx_cls hW₁ hcl, st⟩
end
end VXH
theorem vx_ofWH {l : Launch} {y : MethodName} {ws ws' : List Cond} {rm : Room} {Pc : Array Value → State → Prop} {Qc : Array Value → State → Outcome → State → Prop} {XC : String → State → State → Prop} {mc ms : Nat} {free : Addr → Prop} {cc : ByteArray} {maxL : Nat} {ret : Option FieldType} {hh : List (Nat × Nat × Nat × Nat)}
    (hy : plainFor y = true) (hw : ws = Cond.codeWith y cc maxL ret hh :: ws')
    (body : ∀ p e s m args below meth c s₁, BodyLoose p l y (headSpec ws rm) cc maxL ret e s m args below meth c s₁ → c.maxLocals = maxL → Pc args s →
      W p l e (headSpec ws rm).room s m args below meth c s.heap [] 0 0 (vx_MQ below Qc XC args s mc ms free) (entryFrame m args maxL)) : vx_Met l y ws rm Pc Qc XC mc ms free := by
  refine MetFree.of_bodySF (code := cc) (maxLocals := maxL) (ret := ret) hy ?_ ?_
  · intro args s m h hn
    obtain ⟨m9, meth, c, hn9, h1, h2, h3, h4, -, h5, h6, -⟩ := Cond.codeWith_spec (atoms_spec (ws := ws) h _ (by rw [hw]; exact List.mem_cons_self))
    cases hn.symm.trans hn9
    exact ⟨meth, c, h1, h2, h3, h4, h5, h6⟩
  · intro p e s m args below meth c s₁ B hml hP _
    have hh0 : s₁.heap = s.heap := by rw [B.state]; rfl
    obtain ⟨t, a1, o, b1, b2, b3⟩ := body p e s m args below meth c s₁ B hml hP s₁ hh0 (Stand.of_body B)
    exact ⟨t, o, a1, b1, b2, b3⟩
/-! ===== END ===== -/
end
section
/-! ===== BEGIN printed: names, fields, word lists, decode rows ===== -/
def RX0 : String := "ProcessorHouse$Core"
def TX0 : u_T := fun k => match k with
  | 0 => ("ProcessorHouse$Thing", "kindNumber", "I", true)
  | 1 => ("ProcessorHouse$Core", "machine", "LProcessorHouse$Machine;", true)
  | 2 => ("ProcessorHouse$Core", "length", "I", false)
  | 3 => ("ProcessorHouse$Core", "lag", "I", false)
  | 4 => ("ProcessorHouse$Core", "loadLag", "I", false)
  | _ => ("ProcessorHouse$Core", "penalty", "I", false)
def tyX0 : Nat → FieldType := fun k => match k with
  | 0 => .int
  | 1 => .object "ProcessorHouse$Machine"
  | 2 => .int
  | 3 => .int
  | 4 => .int
  | _ => .int
abbrev wsX00 : List Cond := u_ws RX0 TX0 6
theorem nmX0 : ∀ a, a < 6 → ∀ b, b < 6 → a ≠ b → (TX0 a).2.1 ≠ (TX0 b).2.1 := by decide +kernel
theorem tyX0_ok : ∀ k, k < 6 → parseFieldDescriptor (TX0 k).2.2.1 = some (tyX0 k) := by decide +kernel
abbrev cX0_init : ByteArray := prog_2_method_1_code
def yX0_init : MethodName := ⟨RX0, "<init>", "(LProcessorHouse$Machine;)V"⟩
abbrev cX0_uses : ByteArray := prog_2_method_2_code
def yX0_uses : MethodName := ⟨RX0, "uses", "(LProcessorHouse$Thing;)Z"⟩
abbrev cX0_settle : ByteArray := prog_2_method_3_code
def yX0_settle : MethodName := ⟨RX0, "settle", "(IIII)V"⟩
def RX1 : String := "ProcessorHouse$Explorer"
def TX1 : u_T := fun k => match k with
  | 0 => ("ProcessorHouse$Explorer", "states", "[J", true)
  | 1 => ("ProcessorHouse$Explorer", "slots", "[I", true)
  | 2 => ("ProcessorHouse$Explorer", "ends", "[I", true)
  | 3 => ("ProcessorHouse$Explorer", "trial", "[J", true)
  | 4 => ("ProcessorHouse$Explorer", "pair", "LProcessorHouse$Pair;", false)
  | 5 => ("ProcessorHouse$Explorer", "machine", "LProcessorHouse$Machine;", false)
  | 6 => ("ProcessorHouse$Explorer", "found", "I", false)
  | 7 => ("ProcessorHouse$Explorer", "endsFound", "I", false)
  | 8 => ("ProcessorHouse$Explorer", "stuck", "I", false)
  | _ => ("ProcessorHouse$Explorer", "tooLarge", "Z", false)
def tyX1 : Nat → FieldType := fun k => match k with
  | 0 => .array .long
  | 1 => .array .int
  | 2 => .array .int
  | 3 => .array .long
  | 4 => .object "ProcessorHouse$Pair"
  | 5 => .object "ProcessorHouse$Machine"
  | 6 => .int
  | 7 => .int
  | 8 => .int
  | _ => .boolean
abbrev wsX10 : List Cond := u_ws RX1 TX1 10
theorem nmX1 : ∀ a, a < 10 → ∀ b, b < 10 → a ≠ b → (TX1 a).2.1 ≠ (TX1 b).2.1 := by decide +kernel
theorem tyX1_ok : ∀ k, k < 10 → parseFieldDescriptor (TX1 k).2.2.1 = some (tyX1 k) := by decide +kernel
abbrev cX1_init : ByteArray := prog_3_method_1_code
def yX1_init : MethodName := ⟨RX1, "<init>", "()V"⟩
abbrev cX1_goThrough : ByteArray := prog_3_method_2_code
def yX1_goThrough : MethodName := ⟨RX1, "goThrough", "(LProcessorHouse$Pair;)V"⟩
abbrev cX1_goOnFrom : ByteArray := prog_3_method_3_code
def yX1_goOnFrom : MethodName := ⟨RX1, "goOnFrom", "(I)V"⟩
abbrev cX1_tryWord : ByteArray := prog_3_method_4_code
def yX1_tryWord : MethodName := ⟨RX1, "tryWord", "(II)Z"⟩
abbrev cX1_rowIsFull : ByteArray := prog_3_method_5_code
def yX1_rowIsFull : MethodName := ⟨RX1, "rowIsFull", "(I)Z"⟩
abbrev cX1_perform : ByteArray := prog_3_method_6_code
def yX1_perform : MethodName := ⟨RX1, "perform", "(LProcessorHouse$Word;IJJ)V"⟩
abbrev cX1_following : ByteArray := prog_3_method_7_code
def yX1_following : MethodName := ⟨RX1, "following", "(LProcessorHouse$Program;LProcessorHouse$Word;IJ)I"⟩
abbrev cX1_loaded : ByteArray := prog_3_method_8_code
def yX1_loaded : MethodName := ⟨RX1, "loaded", "(II)J"⟩
abbrev cX1_putInRow : ByteArray := prog_3_method_9_code
def yX1_putInRow : MethodName := ⟨RX1, "putInRow", "(IIJ)V"⟩
abbrev cX1_tryStore : ByteArray := prog_3_method_10_code
def yX1_tryStore : MethodName := ⟨RX1, "tryStore", "(II)Z"⟩
abbrev cX1_takeTrial : ByteArray := prog_3_method_11_code
def yX1_takeTrial : MethodName := ⟨RX1, "takeTrial", "(I)V"⟩
abbrev cX1_keepTrial : ByteArray := prog_3_method_12_code
def yX1_keepTrial : MethodName := ⟨RX1, "keepTrial", "()V"⟩
abbrev cX1_putTrial : ByteArray := prog_3_method_13_code
def yX1_putTrial : MethodName := ⟨RX1, "putTrial", "(I)V"⟩
abbrev cX1_mixed : ByteArray := prog_3_method_14_code
def yX1_mixed : MethodName := ⟨RX1, "mixed", "()I"⟩
abbrev cX1_isTrial : ByteArray := prog_3_method_15_code
def yX1_isTrial : MethodName := ⟨RX1, "isTrial", "(I)Z"⟩
abbrev cX1_isEnd : ByteArray := prog_3_method_16_code
def yX1_isEnd : MethodName := ⟨RX1, "isEnd", "(I)Z"⟩
abbrev cX1_insertEnd : ByteArray := prog_3_method_17_code
def yX1_insertEnd : MethodName := ⟨RX1, "insertEnd", "(I)V"⟩
abbrev cX1_endIsBefore : ByteArray := prog_3_method_18_code
def yX1_endIsBefore : MethodName := ⟨RX1, "endIsBefore", "(II)Z"⟩
abbrev cX1_tell : ByteArray := prog_3_method_19_code
def yX1_tell : MethodName := ⟨RX1, "tell", "()V"⟩
def RX2 : String := "ProcessorHouse$Machine"
def TX2 : u_T := fun k => match k with
  | 0 => ("ProcessorHouse$Thing", "kindNumber", "I", true)
  | 1 => ("ProcessorHouse$Machine", "places", "I", true)
  | _ => ("ProcessorHouse$Machine", "mask", "J", true)
def tyX2 : Nat → FieldType := fun k => match k with
  | 0 => .int
  | 1 => .int
  | _ => .long
abbrev wsX20 : List Cond := u_ws RX2 TX2 3
theorem nmX2 : ∀ a, a < 3 → ∀ b, b < 3 → a ≠ b → (TX2 a).2.1 ≠ (TX2 b).2.1 := by decide +kernel
theorem tyX2_ok : ∀ k, k < 3 → parseFieldDescriptor (TX2 k).2.2.1 = some (tyX2 k) := by decide +kernel
abbrev cX2_init : ByteArray := prog_4_method_1_code
def yX2_init : MethodName := ⟨RX2, "<init>", "(II)V"⟩
abbrev cX2_uses : ByteArray := prog_4_method_2_code
def yX2_uses : MethodName := ⟨RX2, "uses", "(LProcessorHouse$Thing;)Z"⟩
abbrev cX2_cut : ByteArray := prog_4_method_3_code
def yX2_cut : MethodName := ⟨RX2, "cut", "(J)J"⟩
abbrev cX2_placeOf : ByteArray := prog_4_method_4_code
def yX2_placeOf : MethodName := ⟨RX2, "placeOf", "(J)I"⟩
def RX3 : String := "ProcessorHouse$Pair"
def TX3 : u_T := fun k => match k with
  | 0 => ("ProcessorHouse$Thing", "kindNumber", "I", true)
  | 1 => ("ProcessorHouse$Pair", "one", "LProcessorHouse$Program;", true)
  | 2 => ("ProcessorHouse$Pair", "two", "LProcessorHouse$Program;", true)
  | 3 => ("ProcessorHouse$Pair", "storesWait", "Z", true)
  | 4 => ("ProcessorHouse$Pair", "explored", "Z", false)
  | 5 => ("ProcessorHouse$Pair", "tooLarge", "Z", false)
  | 6 => ("ProcessorHouse$Pair", "states", "I", false)
  | 7 => ("ProcessorHouse$Pair", "ends", "I", false)
  | 8 => ("ProcessorHouse$Pair", "stuck", "I", false)
  | _ => ("ProcessorHouse$Pair", "endNumbers", "[J", false)
def tyX3 : Nat → FieldType := fun k => match k with
  | 0 => .int
  | 1 => .object "ProcessorHouse$Program"
  | 2 => .object "ProcessorHouse$Program"
  | 3 => .boolean
  | 4 => .boolean
  | 5 => .boolean
  | 6 => .int
  | 7 => .int
  | 8 => .int
  | _ => .array .long
abbrev wsX30 : List Cond := u_ws RX3 TX3 10
theorem nmX3 : ∀ a, a < 10 → ∀ b, b < 10 → a ≠ b → (TX3 a).2.1 ≠ (TX3 b).2.1 := by decide +kernel
theorem tyX3_ok : ∀ k, k < 10 → parseFieldDescriptor (TX3 k).2.2.1 = some (tyX3 k) := by decide +kernel
abbrev cX3_init : ByteArray := prog_5_method_1_code
def yX3_init : MethodName := ⟨RX3, "<init>", "(LProcessorHouse$Program;LProcessorHouse$Program;Z)V"⟩
abbrev cX3_uses : ByteArray := prog_5_method_2_code
def yX3_uses : MethodName := ⟨RX3, "uses", "(LProcessorHouse$Thing;)Z"⟩
abbrev cX3_programOf : ByteArray := prog_5_method_3_code
def yX3_programOf : MethodName := ⟨RX3, "programOf", "(I)LProcessorHouse$Program;"⟩
abbrev cX3_endWidth : ByteArray := prog_5_method_4_code
def yX3_endWidth : MethodName := ⟨RX3, "endWidth", "()I"⟩
def RX4 : String := "ProcessorHouse$Program"
def TX4 : u_T := fun k => match k with
  | 0 => ("ProcessorHouse$Thing", "kindNumber", "I", true)
  | 1 => ("ProcessorHouse$Program", "machine", "LProcessorHouse$Machine;", true)
  | 2 => ("ProcessorHouse$Program", "words", "[LProcessorHouse$Word;", true)
  | _ => ("ProcessorHouse$Program", "size", "I", false)
def tyX4 : Nat → FieldType := fun k => match k with
  | 0 => .int
  | 1 => .object "ProcessorHouse$Machine"
  | 2 => .array (.object "ProcessorHouse$Word")
  | _ => .int
abbrev wsX40 : List Cond := u_ws RX4 TX4 4
theorem nmX4 : ∀ a, a < 4 → ∀ b, b < 4 → a ≠ b → (TX4 a).2.1 ≠ (TX4 b).2.1 := by decide +kernel
theorem tyX4_ok : ∀ k, k < 4 → parseFieldDescriptor (TX4 k).2.2.1 = some (tyX4 k) := by decide +kernel
abbrev cX4_init : ByteArray := prog_6_method_1_code
def yX4_init : MethodName := ⟨RX4, "<init>", "(LProcessorHouse$Machine;)V"⟩
abbrev cX4_uses : ByteArray := prog_6_method_2_code
def yX4_uses : MethodName := ⟨RX4, "uses", "(LProcessorHouse$Thing;)Z"⟩
abbrev cX4_append : ByteArray := prog_6_method_3_code
def yX4_append : MethodName := ⟨RX4, "append", "(LProcessorHouse$Word;)V"⟩
abbrev cX4_wordAt : ByteArray := prog_6_method_4_code
def yX4_wordAt : MethodName := ⟨RX4, "wordAt", "(I)LProcessorHouse$Word;"⟩
abbrev cX4_targetOf : ByteArray := prog_6_method_5_code
def yX4_targetOf : MethodName := ⟨RX4, "targetOf", "(LProcessorHouse$Word;)I"⟩
def RX5 : String := "ProcessorHouse$Run"
def TX5 : u_T := fun k => match k with
  | 0 => ("ProcessorHouse$Thing", "kindNumber", "I", true)
  | 1 => ("ProcessorHouse$Run", "program", "LProcessorHouse$Program;", true)
  | 2 => ("ProcessorHouse$Run", "registers", "[J", true)
  | 3 => ("ProcessorHouse$Run", "memory", "[J", true)
  | 4 => ("ProcessorHouse$Run", "next", "I", false)
  | 5 => ("ProcessorHouse$Run", "steps", "I", false)
  | _ => ("ProcessorHouse$Run", "ended", "Z", false)
def tyX5 : Nat → FieldType := fun k => match k with
  | 0 => .int
  | 1 => .object "ProcessorHouse$Program"
  | 2 => .array .long
  | 3 => .array .long
  | 4 => .int
  | 5 => .int
  | _ => .boolean
abbrev wsX50 : List Cond := u_ws RX5 TX5 7
theorem nmX5 : ∀ a, a < 7 → ∀ b, b < 7 → a ≠ b → (TX5 a).2.1 ≠ (TX5 b).2.1 := by decide +kernel
theorem tyX5_ok : ∀ k, k < 7 → parseFieldDescriptor (TX5 k).2.2.1 = some (tyX5 k) := by decide +kernel
abbrev cX5_init : ByteArray := prog_7_method_1_code
def yX5_init : MethodName := ⟨RX5, "<init>", "(LProcessorHouse$Program;)V"⟩
abbrev cX5_uses : ByteArray := prog_7_method_2_code
def yX5_uses : MethodName := ⟨RX5, "uses", "(LProcessorHouse$Thing;)Z"⟩
abbrev cX5_nextWord : ByteArray := prog_7_method_3_code
def yX5_nextWord : MethodName := ⟨RX5, "nextWord", "()LProcessorHouse$Word;"⟩
abbrev cX5_advance : ByteArray := prog_7_method_4_code
def yX5_advance : MethodName := ⟨RX5, "advance", "()V"⟩
abbrev cX5_perform : ByteArray := prog_7_method_5_code
def yX5_perform : MethodName := ⟨RX5, "perform", "(LProcessorHouse$Word;JJ)V"⟩
abbrev cX5_sameAs : ByteArray := prog_7_method_6_code
def yX5_sameAs : MethodName := ⟨RX5, "sameAs", "(LProcessorHouse$Run;)Z"⟩
abbrev cX5_sameNumbers : ByteArray := prog_7_method_7_code
def yX5_sameNumbers : MethodName := ⟨RX5, "sameNumbers", "([J[J)Z"⟩
def RX6 : String := "ProcessorHouse$Sim"
def TX6 : u_T := fun k => match k with
  | 0 => ("ProcessorHouse$Thing", "kindNumber", "I", true)
  | 1 => ("ProcessorHouse$Sim", "core", "LProcessorHouse$Core;", true)
  | 2 => ("ProcessorHouse$Sim", "entered", "LProcessorHouse$Run;", true)
  | 3 => ("ProcessorHouse$Sim", "left", "LProcessorHouse$Run;", true)
  | 4 => ("ProcessorHouse$Sim", "cycle", "I", false)
  | 5 => ("ProcessorHouse$Sim", "lastEntry", "I", false)
  | 6 => ("ProcessorHouse$Sim", "barred", "I", false)
  | 7 => ("ProcessorHouse$Sim", "lostByPenalty", "I", false)
  | 8 => ("ProcessorHouse$Sim", "lostByLags", "I", false)
  | 9 => ("ProcessorHouse$Sim", "readable", "[I", true)
  | _ => ("ProcessorHouse$Sim", "leaving", "[I", true)
def tyX6 : Nat → FieldType := fun k => match k with
  | 0 => .int
  | 1 => .object "ProcessorHouse$Core"
  | 2 => .object "ProcessorHouse$Run"
  | 3 => .object "ProcessorHouse$Run"
  | 4 => .int
  | 5 => .int
  | 6 => .int
  | 7 => .int
  | 8 => .int
  | 9 => .array .int
  | _ => .array .int
abbrev wsX60 : List Cond := u_ws RX6 TX6 11
theorem nmX6 : ∀ a, a < 11 → ∀ b, b < 11 → a ≠ b → (TX6 a).2.1 ≠ (TX6 b).2.1 := by decide +kernel
theorem tyX6_ok : ∀ k, k < 11 → parseFieldDescriptor (TX6 k).2.2.1 = some (tyX6 k) := by decide +kernel
abbrev cX6_init : ByteArray := prog_8_method_1_code
def yX6_init : MethodName := ⟨RX6, "<init>", "(LProcessorHouse$Core;LProcessorHouse$Program;)V"⟩
abbrev cX6_uses : ByteArray := prog_8_method_2_code
def yX6_uses : MethodName := ⟨RX6, "uses", "(LProcessorHouse$Thing;)Z"⟩
abbrev cX6_tick : ByteArray := prog_8_method_3_code
def yX6_tick : MethodName := ⟨RX6, "tick", "()V"⟩
abbrev cX6_entryOf : ByteArray := prog_8_method_4_code
def yX6_entryOf : MethodName := ⟨RX6, "entryOf", "(LProcessorHouse$Word;)I"⟩
abbrev cX6_enter : ByteArray := prog_8_method_5_code
def yX6_enter : MethodName := ⟨RX6, "enter", "(LProcessorHouse$Word;)V"⟩
abbrev cX6_tally : ByteArray := prog_8_method_6_code
def yX6_tally : MethodName := ⟨RX6, "tally", "(I)I"⟩
def RX7 : String := "ProcessorHouse$Thing"
def TX7 : u_T := fun k => match k with
  | _ => ("", "", "", false)
def tyX7 : Nat → FieldType := fun k => match k with
  | _ => .int
abbrev wsX70 : List Cond := u_ws RX7 TX7 0
theorem nmX7 : ∀ a, a < 0 → ∀ b, b < 0 → a ≠ b → (TX7 a).2.1 ≠ (TX7 b).2.1 := by decide +kernel
theorem tyX7_ok : ∀ k, k < 0 → parseFieldDescriptor (TX7 k).2.2.1 = some (tyX7 k) := by decide +kernel
abbrev cX7_init : ByteArray := prog_9_method_1_code
def yX7_init : MethodName := ⟨RX7, "<init>", "(I)V"⟩
def RX8 : String := "ProcessorHouse$Word"
def TX8 : u_T := fun k => match k with
  | 0 => ("ProcessorHouse$Word", "op", "I", true)
  | 1 => ("ProcessorHouse$Word", "d", "I", true)
  | 2 => ("ProcessorHouse$Word", "a", "I", true)
  | 3 => ("ProcessorHouse$Word", "b", "I", true)
  | _ => ("ProcessorHouse$Word", "n", "I", true)
def tyX8 : Nat → FieldType := fun k => match k with
  | 0 => .int
  | 1 => .int
  | 2 => .int
  | 3 => .int
  | _ => .int
abbrev wsX80 : List Cond := u_ws RX8 TX8 5
theorem nmX8 : ∀ a, a < 5 → ∀ b, b < 5 → a ≠ b → (TX8 a).2.1 ≠ (TX8 b).2.1 := by decide +kernel
theorem tyX8_ok : ∀ k, k < 5 → parseFieldDescriptor (TX8 k).2.2.1 = some (tyX8 k) := by decide +kernel
abbrev cX8_init : ByteArray := prog_10_method_1_code
def yX8_init : MethodName := ⟨RX8, "<init>", "(IIIII)V"⟩
abbrev cX8_computes : ByteArray := prog_10_method_2_code
def yX8_computes : MethodName := ⟨RX8, "computes", "()Z"⟩
abbrev cX8_writes : ByteArray := prog_10_method_3_code
def yX8_writes : MethodName := ⟨RX8, "writes", "()Z"⟩
abbrev cX8_readsA : ByteArray := prog_10_method_4_code
def yX8_readsA : MethodName := ⟨RX8, "readsA", "()Z"⟩
abbrev cX8_readsB : ByteArray := prog_10_method_5_code
def yX8_readsB : MethodName := ⟨RX8, "readsB", "()Z"⟩
abbrev cX8_goes : ByteArray := prog_10_method_6_code
def yX8_goes : MethodName := ⟨RX8, "goes", "(J)Z"⟩
abbrev cX8_result : ByteArray := prog_10_method_7_code
def yX8_result : MethodName := ⟨RX8, "result", "(JJ)J"⟩
def RX9 : String := "ProcessorHouse"
def TX9 : u_T := fun k => match k with
  | 0 => ("ProcessorHouse", "things", "[LProcessorHouse$Thing;", true)
  | 1 => ("ProcessorHouse", "handles", "I", false)
  | 2 => ("ProcessorHouse", "lastRule", "I", false)
  | _ => ("ProcessorHouse", "explorer", "LProcessorHouse$Explorer;", false)
def tyX9 : Nat → FieldType := fun k => match k with
  | 0 => .array (.object "ProcessorHouse$Thing")
  | 1 => .int
  | 2 => .int
  | _ => .object "ProcessorHouse$Explorer"
abbrev wsX90 : List Cond := u_ws RX9 TX9 4
theorem nmX9 : ∀ a, a < 4 → ∀ b, b < 4 → a ≠ b → (TX9 a).2.1 ≠ (TX9 b).2.1 := by decide +kernel
theorem tyX9_ok : ∀ k, k < 4 → parseFieldDescriptor (TX9 k).2.2.1 = some (tyX9 k) := by decide +kernel
abbrev cX9_init : ByteArray := prog_1_method_1_code
def yX9_init : MethodName := ⟨RX9, "<init>", "()V"⟩
abbrev cX9_machine : ByteArray := prog_1_method_2_code
def yX9_machine : MethodName := ⟨RX9, "machine", "(II)I"⟩
abbrev cX9_program : ByteArray := prog_1_method_3_code
def yX9_program : MethodName := ⟨RX9, "program", "(I)I"⟩
abbrev cX9_word : ByteArray := prog_1_method_4_code
def yX9_word : MethodName := ⟨RX9, "word", "(IIIIII)I"⟩
abbrev cX9_run : ByteArray := prog_1_method_5_code
def yX9_run : MethodName := ⟨RX9, "run", "(I)I"⟩
abbrev cX9_step : ByteArray := prog_1_method_6_code
def yX9_step : MethodName := ⟨RX9, "step", "(II)I"⟩
abbrev cX9_core : ByteArray := prog_1_method_7_code
def yX9_core : MethodName := ⟨RX9, "core", "(IIIII)I"⟩
abbrev cX9_change : ByteArray := prog_1_method_8_code
def yX9_change : MethodName := ⟨RX9, "change", "(IIIII)I"⟩
abbrev cX9_sim : ByteArray := prog_1_method_9_code
def yX9_sim : MethodName := ⟨RX9, "sim", "(II)I"⟩
abbrev cX9_cycles : ByteArray := prog_1_method_10_code
def yX9_cycles : MethodName := ⟨RX9, "cycles", "(II)I"⟩
abbrev cX9_state : ByteArray := prog_1_method_11_code
def yX9_state : MethodName := ⟨RX9, "state", "(II)I"⟩
abbrev cX9_number : ByteArray := prog_1_method_12_code
def yX9_number : MethodName := ⟨RX9, "number", "(II)J"⟩
abbrev cX9_agrees : ByteArray := prog_1_method_13_code
def yX9_agrees : MethodName := ⟨RX9, "agrees", "(II)Z"⟩
abbrev cX9_pair : ByteArray := prog_1_method_14_code
def yX9_pair : MethodName := ⟨RX9, "pair", "(III)I"⟩
abbrev cX9_explore : ByteArray := prog_1_method_15_code
def yX9_explore : MethodName := ⟨RX9, "explore", "(II)I"⟩
abbrev cX9_end : ByteArray := prog_1_method_16_code
def yX9_end : MethodName := ⟨RX9, "end", "(III)J"⟩
abbrev cX9_drop : ByteArray := prog_1_method_17_code
def yX9_drop : MethodName := ⟨RX9, "drop", "(I)I"⟩
abbrev cX9_kind : ByteArray := prog_1_method_18_code
def yX9_kind : MethodName := ⟨RX9, "kind", "(I)I"⟩
abbrev cX9_rule : ByteArray := prog_1_method_19_code
def yX9_rule : MethodName := ⟨RX9, "rule", "()I"⟩
abbrev cX9_count : ByteArray := prog_1_method_20_code
def yX9_count : MethodName := ⟨RX9, "count", "(I)I"⟩
abbrev cX9_outside : ByteArray := prog_1_method_21_code
def yX9_outside : MethodName := ⟨RX9, "outside", "(III)Z"⟩
abbrev cX9_noRegister : ByteArray := prog_1_method_22_code
def yX9_noRegister : MethodName := ⟨RX9, "noRegister", "(I)Z"⟩
abbrev cX9_noCore : ByteArray := prog_1_method_23_code
def yX9_noCore : MethodName := ⟨RX9, "noCore", "(IIII)Z"⟩
abbrev cX9_admit : ByteArray := prog_1_method_24_code
def yX9_admit : MethodName := ⟨RX9, "admit", "(LProcessorHouse$Thing;)I"⟩
abbrev cX9_refuse : ByteArray := prog_1_method_25_code
def yX9_refuse : MethodName := ⟨RX9, "refuse", "(I)V"⟩
abbrev cX9_refuseIfUsed : ByteArray := prog_1_method_26_code
def yX9_refuseIfUsed : MethodName := ⟨RX9, "refuseIfUsed", "(LProcessorHouse$Thing;)V"⟩
abbrev cX9_refuseIfApart : ByteArray := prog_1_method_27_code
def yX9_refuseIfApart : MethodName := ⟨RX9, "refuseIfApart", "(LProcessorHouse$Machine;LProcessorHouse$Machine;)V"⟩
abbrev cX9_refuseIfEmpty : ByteArray := prog_1_method_28_code
def yX9_refuseIfEmpty : MethodName := ⟨RX9, "refuseIfEmpty", "(LProcessorHouse$Program;)V"⟩
abbrev cX9_refuseIfTooLarge : ByteArray := prog_1_method_29_code
def yX9_refuseIfTooLarge : MethodName := ⟨RX9, "refuseIfTooLarge", "(LProcessorHouse$Pair;)V"⟩
abbrev cX9_thingAt : ByteArray := prog_1_method_30_code
def yX9_thingAt : MethodName := ⟨RX9, "thingAt", "(I)LProcessorHouse$Thing;"⟩
abbrev cX9_livingAt : ByteArray := prog_1_method_31_code
def yX9_livingAt : MethodName := ⟨RX9, "livingAt", "(I)LProcessorHouse$Thing;"⟩
abbrev cX9_machineAt : ByteArray := prog_1_method_32_code
def yX9_machineAt : MethodName := ⟨RX9, "machineAt", "(I)LProcessorHouse$Machine;"⟩
abbrev cX9_programAt : ByteArray := prog_1_method_33_code
def yX9_programAt : MethodName := ⟨RX9, "programAt", "(I)LProcessorHouse$Program;"⟩
abbrev cX9_runAt : ByteArray := prog_1_method_34_code
def yX9_runAt : MethodName := ⟨RX9, "runAt", "(I)LProcessorHouse$Run;"⟩
abbrev cX9_coreAt : ByteArray := prog_1_method_35_code
def yX9_coreAt : MethodName := ⟨RX9, "coreAt", "(I)LProcessorHouse$Core;"⟩
abbrev cX9_simAt : ByteArray := prog_1_method_36_code
def yX9_simAt : MethodName := ⟨RX9, "simAt", "(I)LProcessorHouse$Sim;"⟩
abbrev cX9_pairAt : ByteArray := prog_1_method_37_code
def yX9_pairAt : MethodName := ⟨RX9, "pairAt", "(I)LProcessorHouse$Pair;"⟩
abbrev cX9_shownAt : ByteArray := prog_1_method_38_code
def yX9_shownAt : MethodName := ⟨RX9, "shownAt", "(I)LProcessorHouse$Run;"⟩
def RX10 : String := "ProcessorHouseModel"
def TX10 : u_T := fun k => match k with
  | 0 => ("ProcessorHouseModel", "thrown", "I", false)
  | 1 => ("ProcessorHouseModel", "rule", "I", false)
  | 2 => ("ProcessorHouseModel", "handles", "I", false)
  | 3 => ("ProcessorHouseModel", "kind", "[I", true)
  | 4 => ("ProcessorHouseModel", "lives", "[Z", true)
  | 5 => ("ProcessorHouseModel", "of", "[I", true)
  | 6 => ("ProcessorHouseModel", "other", "[I", true)
  | 7 => ("ProcessorHouseModel", "bits", "[I", true)
  | 8 => ("ProcessorHouseModel", "places", "[I", true)
  | 9 => ("ProcessorHouseModel", "length", "[I", true)
  | 10 => ("ProcessorHouseModel", "lag", "[I", true)
  | 11 => ("ProcessorHouseModel", "loadLag", "[I", true)
  | 12 => ("ProcessorHouseModel", "penalty", "[I", true)
  | 13 => ("ProcessorHouseModel", "words", "[I", true)
  | 14 => ("ProcessorHouseModel", "op", "[I", true)
  | 15 => ("ProcessorHouseModel", "d", "[I", true)
  | 16 => ("ProcessorHouseModel", "a", "[I", true)
  | 17 => ("ProcessorHouseModel", "b", "[I", true)
  | 18 => ("ProcessorHouseModel", "n", "[I", true)
  | 19 => ("ProcessorHouseModel", "number", "[J", true)
  | 20 => ("ProcessorHouseModel", "place", "[I", true)
  | 21 => ("ProcessorHouseModel", "steps", "[I", true)
  | 22 => ("ProcessorHouseModel", "ended", "[Z", true)
  | 23 => ("ProcessorHouseModel", "cycles", "[I", true)
  | 24 => ("ProcessorHouseModel", "enters", "[I", true)
  | 25 => ("ProcessorHouseModel", "entered", "[I", true)
  | 26 => ("ProcessorHouseModel", "writtenAt", "[I", true)
  | 27 => ("ProcessorHouseModel", "writtenLag", "[I", true)
  | 28 => ("ProcessorHouseModel", "byPenalty", "[I", true)
  | 29 => ("ProcessorHouseModel", "byLag", "[I", true)
  | 30 => ("ProcessorHouseModel", "lostPenalty", "I", false)
  | 31 => ("ProcessorHouseModel", "lostLag", "I", false)
  | 32 => ("ProcessorHouseModel", "explored", "I", false)
  | 33 => ("ProcessorHouseModel", "states", "I", false)
  | 34 => ("ProcessorHouseModel", "ends", "I", false)
  | 35 => ("ProcessorHouseModel", "stuck", "I", false)
  | 36 => ("ProcessorHouseModel", "state", "[J", true)
  | 37 => ("ProcessorHouseModel", "end", "[I", true)
  | 38 => ("ProcessorHouseModel", "now", "[J", true)
  | 39 => ("ProcessorHouseModel", "chain", "[I", true)
  | 40 => ("ProcessorHouseModel", "next", "[I", true)
  | _ => ("ProcessorHouseModel", "wentLast", "[Z", true)
def tyX10 : Nat → FieldType := fun k => match k with
  | 0 => .int
  | 1 => .int
  | 2 => .int
  | 3 => .array .int
  | 4 => .array .boolean
  | 5 => .array .int
  | 6 => .array .int
  | 7 => .array .int
  | 8 => .array .int
  | 9 => .array .int
  | 10 => .array .int
  | 11 => .array .int
  | 12 => .array .int
  | 13 => .array .int
  | 14 => .array .int
  | 15 => .array .int
  | 16 => .array .int
  | 17 => .array .int
  | 18 => .array .int
  | 19 => .array .long
  | 20 => .array .int
  | 21 => .array .int
  | 22 => .array .boolean
  | 23 => .array .int
  | 24 => .array .int
  | 25 => .array .int
  | 26 => .array .int
  | 27 => .array .int
  | 28 => .array .int
  | 29 => .array .int
  | 30 => .int
  | 31 => .int
  | 32 => .int
  | 33 => .int
  | 34 => .int
  | 35 => .int
  | 36 => .array .long
  | 37 => .array .int
  | 38 => .array .long
  | 39 => .array .int
  | 40 => .array .int
  | _ => .array .boolean
abbrev wsX100 : List Cond := u_ws RX10 TX10 42
theorem nmX10 : ∀ a, a < 42 → ∀ b, b < 42 → a ≠ b → (TX10 a).2.1 ≠ (TX10 b).2.1 := by decide +kernel
theorem tyX10_ok : ∀ k, k < 42 → parseFieldDescriptor (TX10 k).2.2.1 = some (tyX10 k) := by decide +kernel
abbrev cX10_init : ByteArray := prog_12_method_1_code
def yX10_init : MethodName := ⟨RX10, "<init>", "()V"⟩
abbrev cX10_thrown : ByteArray := prog_12_method_2_code
def yX10_thrown : MethodName := ⟨RX10, "thrown", "()I"⟩
abbrev cX10_fail : ByteArray := prog_12_method_3_code
def yX10_fail : MethodName := ⟨RX10, "fail", "(I)I"⟩
abbrev cX10_within : ByteArray := prog_12_method_4_code
def yX10_within : MethodName := ⟨RX10, "within", "(III)Z"⟩
abbrev cX10_refuse : ByteArray := prog_12_method_5_code
def yX10_refuse : MethodName := ⟨RX10, "refuse", "(II)I"⟩
abbrev cX10_isThere : ByteArray := prog_12_method_6_code
def yX10_isThere : MethodName := ⟨RX10, "isThere", "(I)Z"⟩
abbrev cX10_isOf : ByteArray := prog_12_method_7_code
def yX10_isOf : MethodName := ⟨RX10, "isOf", "(III)Z"⟩
abbrev cX10_isUsed : ByteArray := prog_12_method_8_code
def yX10_isUsed : MethodName := ⟨RX10, "isUsed", "(I)Z"⟩
abbrev cX10_add : ByteArray := prog_12_method_9_code
def yX10_add : MethodName := ⟨RX10, "add", "(III)I"⟩
abbrev cX10_isFull : ByteArray := prog_12_method_10_code
def yX10_isFull : MethodName := ⟨RX10, "isFull", "(I)Z"⟩
abbrev cX10_machine : ByteArray := prog_12_method_11_code
def yX10_machine : MethodName := ⟨RX10, "machine", "(II)I"⟩
abbrev cX10_program : ByteArray := prog_12_method_12_code
def yX10_program : MethodName := ⟨RX10, "program", "(I)I"⟩
abbrev cX10_word : ByteArray := prog_12_method_13_code
def yX10_word : MethodName := ⟨RX10, "word", "(IIIIII)I"⟩
abbrev cX10_isCore : ByteArray := prog_12_method_14_code
def yX10_isCore : MethodName := ⟨RX10, "isCore", "(IIII)Z"⟩
abbrev cX10_setCore : ByteArray := prog_12_method_15_code
def yX10_setCore : MethodName := ⟨RX10, "setCore", "(IIIII)V"⟩
abbrev cX10_core : ByteArray := prog_12_method_16_code
def yX10_core : MethodName := ⟨RX10, "core", "(IIIII)I"⟩
abbrev cX10_change : ByteArray := prog_12_method_17_code
def yX10_change : MethodName := ⟨RX10, "change", "(IIIII)I"⟩
abbrev cX10_begin : ByteArray := prog_12_method_18_code
def yX10_begin : MethodName := ⟨RX10, "begin", "(I)V"⟩
abbrev cX10_cut : ByteArray := prog_12_method_19_code
def yX10_cut : MethodName := ⟨RX10, "cut", "(IJ)J"⟩
abbrev cX10_modulo : ByteArray := prog_12_method_20_code
def yX10_modulo : MethodName := ⟨RX10, "modulo", "(II)I"⟩
abbrev cX10_wordOf : ByteArray := prog_12_method_21_code
def yX10_wordOf : MethodName := ⟨RX10, "wordOf", "(II)I"⟩
abbrev cX10_goes : ByteArray := prog_12_method_22_code
def yX10_goes : MethodName := ⟨RX10, "goes", "(II)Z"⟩
abbrev cX10_doWord : ByteArray := prog_12_method_23_code
def yX10_doWord : MethodName := ⟨RX10, "doWord", "(II)V"⟩
abbrev cX10_run : ByteArray := prog_12_method_24_code
def yX10_run : MethodName := ⟨RX10, "run", "(I)I"⟩
abbrev cX10_step : ByteArray := prog_12_method_25_code
def yX10_step : MethodName := ⟨RX10, "step", "(II)I"⟩
abbrev cX10_sim : ByteArray := prog_12_method_26_code
def yX10_sim : MethodName := ⟨RX10, "sim", "(II)I"⟩
abbrev cX10_reads : ByteArray := prog_12_method_27_code
def yX10_reads : MethodName := ⟨RX10, "reads", "(I)I"⟩
abbrev cX10_writes : ByteArray := prog_12_method_28_code
def yX10_writes : MethodName := ⟨RX10, "writes", "(I)Z"⟩
abbrev cX10_readyAt : ByteArray := prog_12_method_29_code
def yX10_readyAt : MethodName := ⟨RX10, "readyAt", "(II)I"⟩
abbrev cX10_enter : ByteArray := prog_12_method_30_code
def yX10_enter : MethodName := ⟨RX10, "enter", "(I)V"⟩
abbrev cX10_lose : ByteArray := prog_12_method_31_code
def yX10_lose : MethodName := ⟨RX10, "lose", "(IIZ)V"⟩
abbrev cX10_enterAll : ByteArray := prog_12_method_32_code
def yX10_enterAll : MethodName := ⟨RX10, "enterAll", "(II)V"⟩
abbrev cX10_leaveAll : ByteArray := prog_12_method_33_code
def yX10_leaveAll : MethodName := ⟨RX10, "leaveAll", "(II)V"⟩
abbrev cX10_cycles : ByteArray := prog_12_method_34_code
def yX10_cycles : MethodName := ⟨RX10, "cycles", "(II)I"⟩
abbrev cX10_isRunning : ByteArray := prog_12_method_35_code
def yX10_isRunning : MethodName := ⟨RX10, "isRunning", "(I)Z"⟩
abbrev cX10_state : ByteArray := prog_12_method_36_code
def yX10_state : MethodName := ⟨RX10, "state", "(II)I"⟩
abbrev cX10_programOf : ByteArray := prog_12_method_37_code
def yX10_programOf : MethodName := ⟨RX10, "programOf", "(I)I"⟩
abbrev cX10_number : ByteArray := prog_12_method_38_code
def yX10_number : MethodName := ⟨RX10, "number", "(II)J"⟩
abbrev cX10_agrees : ByteArray := prog_12_method_39_code
def yX10_agrees : MethodName := ⟨RX10, "agrees", "(II)Z"⟩
abbrev cX10_open : ByteArray := prog_12_method_40_code
def yX10_open : MethodName := ⟨RX10, "open", "(I)V"⟩
abbrev cX10_chainOf : ByteArray := prog_12_method_41_code
def yX10_chainOf : MethodName := ⟨RX10, "chainOf", "()I"⟩
abbrev cX10_isKept : ByteArray := prog_12_method_42_code
def yX10_isKept : MethodName := ⟨RX10, "isKept", "(I)Z"⟩
abbrev cX10_keep : ByteArray := prog_12_method_43_code
def yX10_keep : MethodName := ⟨RX10, "keep", "()V"⟩
abbrev cX10_programAt : ByteArray := prog_12_method_44_code
def yX10_programAt : MethodName := ⟨RX10, "programAt", "(II)I"⟩
abbrev cX10_seen : ByteArray := prog_12_method_45_code
def yX10_seen : MethodName := ⟨RX10, "seen", "(II)J"⟩
abbrev cX10_doOf : ByteArray := prog_12_method_46_code
def yX10_doOf : MethodName := ⟨RX10, "doOf", "(II)Z"⟩
abbrev cX10_letGo : ByteArray := prog_12_method_47_code
def yX10_letGo : MethodName := ⟨RX10, "letGo", "(I)Z"⟩
abbrev cX10_isEnd : ByteArray := prog_12_method_48_code
def yX10_isEnd : MethodName := ⟨RX10, "isEnd", "(I)Z"⟩
abbrev cX10_isBefore : ByteArray := prog_12_method_49_code
def yX10_isBefore : MethodName := ⟨RX10, "isBefore", "(II)Z"⟩
abbrev cX10_addEnd : ByteArray := prog_12_method_50_code
def yX10_addEnd : MethodName := ⟨RX10, "addEnd", "(I)V"⟩
abbrev cX10_goFrom : ByteArray := prog_12_method_51_code
def yX10_goFrom : MethodName := ⟨RX10, "goFrom", "(II)V"⟩
abbrev cX10_lookThrough : ByteArray := prog_12_method_52_code
def yX10_lookThrough : MethodName := ⟨RX10, "lookThrough", "(I)V"⟩
abbrev cX10_pair : ByteArray := prog_12_method_53_code
def yX10_pair : MethodName := ⟨RX10, "pair", "(III)I"⟩
abbrev cX10_isSmall : ByteArray := prog_12_method_54_code
def yX10_isSmall : MethodName := ⟨RX10, "isSmall", "(I)Z"⟩
abbrev cX10_explore : ByteArray := prog_12_method_55_code
def yX10_explore : MethodName := ⟨RX10, "explore", "(II)I"⟩
abbrev cX10_end : ByteArray := prog_12_method_56_code
def yX10_end : MethodName := ⟨RX10, "end", "(III)J"⟩
abbrev cX10_drop : ByteArray := prog_12_method_57_code
def yX10_drop : MethodName := ⟨RX10, "drop", "(I)I"⟩
abbrev cX10_kind : ByteArray := prog_12_method_58_code
def yX10_kind : MethodName := ⟨RX10, "kind", "(I)I"⟩
abbrev cX10_rule : ByteArray := prog_12_method_59_code
def yX10_rule : MethodName := ⟨RX10, "rule", "()I"⟩
abbrev cX10_count : ByteArray := prog_12_method_60_code
def yX10_count : MethodName := ⟨RX10, "count", "(I)I"⟩
def RJ9 : String := "java/lang/Math"
def TJ9 : u_T := fun k => match k with
  | _ => ("", "", "", false)
def tyJ9 : Nat → FieldType := fun k => match k with
  | _ => .int
abbrev wsJ90 : List Cond := u_ws RJ9 TJ9 0
theorem nmJ9 : ∀ a, a < 0 → ∀ b, b < 0 → a ≠ b → (TJ9 a).2.1 ≠ (TJ9 b).2.1 := by decide +kernel
theorem tyJ9_ok : ∀ k, k < 0 → parseFieldDescriptor (TJ9 k).2.2.1 = some (tyJ9 k) := by decide +kernel
abbrev cJ9_floorMod_7cf53 : ByteArray := prog_17_method_50_code
def yJ9_floorMod_7cf53 : MethodName := ⟨RJ9, "floorMod", "(II)I"⟩
abbrev cJ9_max_7cf53 : ByteArray := prog_17_method_65_code
def yJ9_max_7cf53 : MethodName := ⟨RJ9, "max", "(II)I"⟩
def RJ0 : String := "java/lang/String"
def TJ0 : u_T := fun k => match k with
  | _ => ("", "", "", false)
def tyJ0 : Nat → FieldType := fun k => match k with
  | _ => .int
abbrev wsJ00 : List Cond := u_ws RJ0 TJ0 0
theorem nmJ0 : ∀ a, a < 0 → ∀ b, b < 0 → a ≠ b → (TJ0 a).2.1 ≠ (TJ0 b).2.1 := by decide +kernel
theorem tyJ0_ok : ∀ k, k < 0 → parseFieldDescriptor (TJ0 k).2.2.1 = some (tyJ0 k) := by decide +kernel
def RJ10 : String := "java/lang/System"
def TJ10 : u_T := fun k => match k with
  | _ => ("", "", "", false)
def tyJ10 : Nat → FieldType := fun k => match k with
  | _ => .int
abbrev wsJ100 : List Cond := u_ws RJ10 TJ10 0
theorem nmJ10 : ∀ a, a < 0 → ∀ b, b < 0 → a ≠ b → (TJ10 a).2.1 ≠ (TJ10 b).2.1 := by decide +kernel
theorem tyJ10_ok : ∀ k, k < 0 → parseFieldDescriptor (TJ10 k).2.2.1 = some (tyJ10 k) := by decide +kernel
def RJ7 : String := "java/util/Arrays"
def TJ7 : u_T := fun k => match k with
  | _ => ("", "", "", false)
def tyJ7 : Nat → FieldType := fun k => match k with
  | _ => .int
abbrev wsJ70 : List Cond := u_ws RJ7 TJ7 0
theorem nmJ7 : ∀ a, a < 0 → ∀ b, b < 0 → a ≠ b → (TJ7 a).2.1 ≠ (TJ7 b).2.1 := by decide +kernel
theorem tyJ7_ok : ∀ k, k < 0 → parseFieldDescriptor (TJ7 k).2.2.1 = some (tyJ7 k) := by decide +kernel
abbrev cJ7_fill_d0a16 : ByteArray := prog_23_method_101_code
def yJ7_fill_d0a16 : MethodName := ⟨RJ7, "fill", "([JJ)V"⟩
abbrev cJ7_fill_53178 : ByteArray := prog_23_method_103_code
def yJ7_fill_53178 : MethodName := ⟨RJ7, "fill", "([II)V"⟩
def RL : String := "ProcessorHouseLaw"
abbrev cL_machine : ByteArray := method_3_code
def yL_machine : MethodName := ⟨RL, "machine", "(LProcessorHouse;II[J)I"⟩
abbrev cL_program : ByteArray := method_4_code
def yL_program : MethodName := ⟨RL, "program", "(LProcessorHouse;I[J)I"⟩
abbrev cL_word : ByteArray := method_5_code
def yL_word : MethodName := ⟨RL, "word", "(LProcessorHouse;IIIIII[J)I"⟩
abbrev cL_run : ByteArray := method_6_code
def yL_run : MethodName := ⟨RL, "run", "(LProcessorHouse;I[J)I"⟩
abbrev cL_step : ByteArray := method_7_code
def yL_step : MethodName := ⟨RL, "step", "(LProcessorHouse;II[J)I"⟩
abbrev cL_core : ByteArray := method_8_code
def yL_core : MethodName := ⟨RL, "core", "(LProcessorHouse;IIIII[J)I"⟩
abbrev cL_change : ByteArray := method_9_code
def yL_change : MethodName := ⟨RL, "change", "(LProcessorHouse;IIIII[J)I"⟩
abbrev cL_sim : ByteArray := method_10_code
def yL_sim : MethodName := ⟨RL, "sim", "(LProcessorHouse;II[J)I"⟩
abbrev cL_cycles : ByteArray := method_11_code
def yL_cycles : MethodName := ⟨RL, "cycles", "(LProcessorHouse;II[J)I"⟩
abbrev cL_state : ByteArray := method_12_code
def yL_state : MethodName := ⟨RL, "state", "(LProcessorHouse;II[J)I"⟩
abbrev cL_number : ByteArray := method_13_code
def yL_number : MethodName := ⟨RL, "number", "(LProcessorHouse;II[J)I"⟩
abbrev cL_agrees : ByteArray := method_14_code
def yL_agrees : MethodName := ⟨RL, "agrees", "(LProcessorHouse;II[J)I"⟩
abbrev cL_pair : ByteArray := method_15_code
def yL_pair : MethodName := ⟨RL, "pair", "(LProcessorHouse;III[J)I"⟩
abbrev cL_explore : ByteArray := method_16_code
def yL_explore : MethodName := ⟨RL, "explore", "(LProcessorHouse;II[J)I"⟩
abbrev cL_end : ByteArray := method_17_code
def yL_end : MethodName := ⟨RL, "end", "(LProcessorHouse;III[J)I"⟩
abbrev cL_drop : ByteArray := method_18_code
def yL_drop : MethodName := ⟨RL, "drop", "(LProcessorHouse;I[J)I"⟩
abbrev cL_law : ByteArray := code
def yL_law : MethodName := ⟨RL, "law", "([I)Z"⟩
def wsX7_init : List Cond := .code yX7_init cX7_init 2 none :: ([.methodLink RX7 1 objectInit, .instanceMethod objectInit, .code objectInit ⟨#[0xb1]⟩ 1 none, .fieldLink RX7 7 "ProcessorHouse$Thing" "kindNumber" "I"] ++ wsX00 ++ wsX20 ++ wsX30 ++ wsX40 ++ wsX50 ++ wsX60)
end
section
/-! THE LITTLE MACHINE: a heap of typed things by address, frames of known locals, the instructions that the system uses. What it computes, the machine does (05 and behind). -/
/-- a thing: its tag (a class's number in zcl below 90; 99 the script; 100 int, 101 long, 102 boolean, 103 Thing, 104 Word arrays), its length, its contents -/
abbrev zO : Type := Nat × Nat × (Nat → Value)
abbrev zH : Type := Nat → Option zO
/-- heap, its size, the slots made so far -/
abbrev zS : Type := zH × Nat × Nat
abbrev zL : Type := List (Option Value)
/-- what an instruction's index stands for: two numbers and a list -/
abbrev zX : Type := Nat × Nat × List Nat
abbrev zN : Type := Nat × zL × List Value × zS
def z_up (h : zH) (a : Nat) (o : zO) : zH := fun b => if b = a then some o else h b
def z_uf (f : Nat → Value) (k : Nat) (v : Value) : Nat → Value := fun j => if j = k then v else f j
def z_two : Option Value → Bool
  | some (.long _) => true
  | some (.double _) => true
  | _ => false
/-- the place ahead of i is no long's any more -/
def z_kill (L : zL) (i : Nat) : zL := match i with
  | 0 => L
  | j + 1 => match L[j]? with
    | some w => if z_two w then L.set j none else L
    | none => L
def z_set1 (L : zL) (i : Nat) (v : Value) : zL := (z_kill L i).set i (some v)
def z_set2 (L : zL) (i : Nat) (v : Value) : zL := ((z_kill L i).set (i + 1) none).set i (some v)
/-- locals at a method's entry -/
def z_ent : List Value → zL
  | [] => []
  | v :: vs => if v.category = 2 then some v :: none :: z_ent vs else some v :: z_ent vs
def z_ini (n : Nat) (A : List Value) : zL := z_ent A ++ List.replicate (n - (z_ent A).length) none
def z_ldi (L : zL) (j : Nat) : Option Value := match L[j]? with
  | some (some (.int v)) => some (.int v)
  | _ => none
def z_ldl (L : zL) (j : Nat) : Option Value := match L[j]? with
  | some (some (.long v)) => some (.long v)
  | _ => none
def z_lda (L : zL) (j : Nat) : Option Value := match L[j]? with
  | some (some (.ref v)) => some (.ref v)
  | some (some .null) => some .null
  | _ => none
def z_psh (pc : Nat) (L : zL) (S : List Value) (s : zS) (r : Option Value) : Option zN := match r with
  | some v => some (pc, L, v :: S, s)
  | none => none
def z_sti (pc : Nat) (L : zL) (S : List Value) (s : zS) (j : Nat) : Option zN := match S with
  | .int v :: r => if j < L.length then some (pc, z_set1 L j (.int v), r, s) else none
  | _ => none
def z_stl (pc : Nat) (L : zL) (S : List Value) (s : zS) (j : Nat) : Option zN := match S with
  | .long v :: r => if j + 1 < L.length then some (pc, z_set2 L j (.long v), r, s) else none
  | _ => none
def z_sta (pc : Nat) (L : zL) (S : List Value) (s : zS) (j : Nat) : Option zN := match S with
  | .ref v :: r => if j < L.length then some (pc, z_set1 L j (.ref v), r, s) else none
  | .null :: r => if j < L.length then some (pc, z_set1 L j .null, r, s) else none
  | _ => none
def z_bi (pc : Nat) (L : zL) (S : List Value) (s : zS) (f : Int32 → Int32 → Int32) : Option zN := match S with
  | .int y :: .int x :: r => some (pc, L, .int (f x y) :: r, s)
  | _ => none
def z_bl (pc : Nat) (L : zL) (S : List Value) (s : zS) (f : Int64 → Int64 → Int64) : Option zN := match S with
  | .long y :: .long x :: r => some (pc, L, .long (f x y) :: r, s)
  | _ => none
def z_sl (pc : Nat) (L : zL) (S : List Value) (s : zS) (f : Int64 → Int32 → Int64) : Option zN := match S with
  | .int y :: .long x :: r => some (pc, L, .long (f x y) :: r, s)
  | _ => none
def z_cc (c : Jvm.ClassFile.Cond) (x y : Int32) : Bool := match c with
  | .eq => decide (x = y)
  | .ne => !decide (x = y)
  | .lt => decide (x < y)
  | .ge => decide (y ≤ x)
  | .gt => decide (y < x)
  | .le => decide (x ≤ y)
def z_to (pc : Nat) (o : Int) (L : zL) (S : List Value) (s : zS) : Option zN := if 0 ≤ (pc : Int) + o then some (((pc : Int) + o).toNat, L, S, s) else none
def z_br (b : Bool) (pc len : Nat) (o : Int) (L : zL) (S : List Value) (s : zS) : Option zN := if 0 ≤ (pc : Int) + o then some (if b = true then ((pc : Int) + o).toNat else pc + len, L, S, s) else none
/-- the classes of the things, by their numbers -/
abbrev zcl : List vw_C := [(RX0, TX0, 6), (RX1, TX1, 10), (RX2, TX2, 3), (RX3, TX3, 10), (RX4, TX4, 4), (RX5, TX5, 7), (RX6, TX6, 11), (RX8, TX8, 5), (RX9, TX9, 4), (RX10, TX10, 42)]
def zty : Nat → Nat → FieldType := fun c => match c with
  | 0 => tyX0
  | 1 => tyX1
  | 2 => tyX2
  | 3 => tyX3
  | 4 => tyX4
  | 5 => tyX5
  | 6 => tyX6
  | 7 => tyX8
  | 8 => tyX9
  | _ => tyX10
/-- the things of a house -/
abbrev zth : List Nat := [0, 2, 3, 4, 5, 6]
def zaty : Nat → FieldType := fun t => match t with
  | 99 => .int
  | 100 => .int
  | 101 => .long
  | 102 => .boolean
  | 103 => .object "ProcessorHouse$Thing"
  | _ => .object "ProcessorHouse$Word"
def z_get (tags : List Nat) (k : Nat) (h : zH) (a : Nat) : Option Value := match h a with
  | some o => if o.1 ∈ tags then some (o.2.2 k) else none
  | none => none
def z_put (tags : List Nat) (k : Nat) (s : zS) (a : Nat) (v : Value) : Option zS := match s.1 a with
  | some o => if o.1 ∈ tags ∧ narrow (zty o.1 k) v = v ∧ fits (zty o.1 k) v = true then some (z_up s.1 a (o.1, o.2.1, z_uf o.2.2 k v), s.2) else none
  | none => none
/-- an array's place: the tags that may be, the length -/
def z_at (tags : List Nat) (h : zH) (a : Nat) (i : Int32) : Option Value := match h a with
  | some o => if o.1 ∈ tags ∧ ¬ (i < 0 ∨ o.2.1 ≤ i.toNatClampNeg) then some (o.2.2 i.toNatClampNeg) else none
  | none => none
def z_st (tag : Nat) (s : zS) (a : Nat) (i : Int32) (v : Value) : Option zS := match s.1 a with
  | some o => if o.1 = tag ∧ ¬ (i < 0 ∨ o.2.1 ≤ i.toNatClampNeg) then some (z_up s.1 a (o.1, o.2.1, z_uf o.2.2 i.toNatClampNeg v), s.2) else none
  | none => none
/-- what may be put into an array of references: nothing, or a thing of the right classes -/
def z_may (tag : Nat) (h : zH) (v : Value) : Bool := match v with
  | .null => true
  | .ref b => match h b with
    | some o => if tag = 103 then decide (o.1 ∈ zth) else decide (o.1 = 7)
    | none => false
  | _ => false
def z_ast (s : zS) (a : Nat) (i : Int32) (v : Value) : Option zS := match s.1 a with
  | some o => if (o.1 = 103 ∨ o.1 = 104) ∧ z_may o.1 s.1 v = true then z_st o.1 s a i v else none
  | none => none
def z_len (h : zH) (a : Nat) : Option Value := match h a with
  | some o => if 99 ≤ o.1 ∧ o.1 ≤ 104 then some (.int o.2.1.toInt32) else none
  | none => none
def z_new (tag n : Nat) (f : Nat → Value) (s : zS) : zS := (z_up s.1 s.2.1 (tag, n, f), s.2.1 + 1, s.2.2 + n)
def z_nwa (tag : Nat) (d : Value) (b : Nat) (pc : Nat) (L : zL) (S : List Value) (s : zS) : Option zN := match S with
  | .int n :: r => if ¬ n < 0 ∧ n.toNatClampNeg * b ≤ 536870912 then some (pc, L, .ref s.2.1 :: r, z_new tag n.toNatClampNeg (fun _ => d) s) else none
  | _ => none
def z_aty (t : ArrayType) : Option (Nat × Value × Nat) := match t with
  | .int => some (100, .int 0, componentBytes .int)
  | .long => some (101, .long 0, componentBytes .long)
  | .boolean => some (102, .int 0, componentBytes .boolean)
  | _ => none
/-- the weight of what stays on the stack -/
def z_w (S : List Value) : Prop := (S.map fun v => v.category).sum ≤ 8
theorem z_w_dec (S : List Value) : z_w S ↔ ((S.map fun v => v.category).sum ≤ 8) := Iff.rfl
def z_wb (S : List Value) : Bool := decide ((S.map fun v => v.category).sum ≤ 8)
def z_cpy (s : zS) (a0 : Nat) (sp : Int32) (a1 : Nat) (dp n : Int32) : Option zS := match s.1 a0, s.1 a1 with
  | some o0, some o1 => if o0.1 = 101 ∧ o1.1 = 101 ∧ ¬ sp < 0 ∧ ¬ dp < 0 ∧ ¬ n < 0 ∧ sp.toNatClampNeg + n.toNatClampNeg ≤ o0.2.1 ∧ dp.toNatClampNeg + n.toNatClampNeg ≤ o1.2.1
      ∧ (∀ i, i < n.toNatClampNeg → fits .long (o0.2.2 (sp.toNatClampNeg + i)) = true) then some (z_up s.1 a1 (101, o1.2.1, va_cpy o0.2.2 o1.2.2 sp.toNatClampNeg dp.toNatClampNeg n.toNatClampNeg), s.2) else none
  | _, _ => none
/-- the instructions that go on within the frame -/
def z_nx (i : Instr) (x : zX) (pc len : Nat) (L : zL) (S : List Value) (s : zS) : Option zN := match i with
  | .iconst n => some (pc + len, L, .int (Int32.ofInt n) :: S, s)
  | .bipush n => some (pc + len, L, .int (Int8.ofInt n).toInt32 :: S, s)
  | .sipush n => some (pc + len, L, .int (Int16.ofInt n).toInt32 :: S, s)
  | .lconst n => some (pc + len, L, .long (Int64.ofNat (n : Nat)) :: S, s)
  | .ldc _ => if x.2.2 = [] then some (pc + len, L, .int (Int32.ofNat x.1) :: S, s) else none
  | .ldc2_w _ => some (pc + len, L, .long (Int64.ofNat x.1) :: S, s)
  | .aconst_null => some (pc + len, L, .null :: S, s)
  | .iload_n j => z_psh (pc + len) L S s (z_ldi L j)
  | .iload j => z_psh (pc + len) L S s (z_ldi L j)
  | .lload_n j => z_psh (pc + len) L S s (z_ldl L j)
  | .lload j => z_psh (pc + len) L S s (z_ldl L j)
  | .aload_n j => z_psh (pc + len) L S s (z_lda L j)
  | .aload j => z_psh (pc + len) L S s (z_lda L j)
  | .istore_n j => z_sti (pc + len) L S s j
  | .istore j => z_sti (pc + len) L S s j
  | .lstore_n j => z_stl (pc + len) L S s j
  | .lstore j => z_stl (pc + len) L S s j
  | .astore_n j => z_sta (pc + len) L S s j
  | .astore j => z_sta (pc + len) L S s j
  | .iinc j n => match z_ldi L j with
    | some (.int v) => if len = 3 ∧ j < L.length then some (pc + len, z_set1 L j (.int (v + Int32.ofInt n)), S, s) else none
    | _ => none
  | .iadd => z_bi (pc + len) L S s (fun x y => x + y)
  | .isub => z_bi (pc + len) L S s (fun x y => x - y)
  | .imul => z_bi (pc + len) L S s (fun x y => x * y)
  | .iand => z_bi (pc + len) L S s (fun x y => x &&& y)
  | .ixor => z_bi (pc + len) L S s (fun x y => x ^^^ y)
  | .irem => match S with
    | .int y :: .int x :: r => if y = 0 then none else some (pc + len, L, .int (x - x / y * y) :: r, s)
    | _ => none
  | .ladd => z_bl (pc + len) L S s (fun x y => x + y)
  | .lsub => z_bl (pc + len) L S s (fun x y => x - y)
  | .lmul => z_bl (pc + len) L S s (fun x y => x * y)
  | .land => z_bl (pc + len) L S s (fun x y => x &&& y)
  | .lxor => z_bl (pc + len) L S s (fun x y => x ^^^ y)
  | .lrem => match S with
    | .long y :: .long x :: r => if y = 0 then none else some (pc + len, L, .long (x - x / y * y) :: r, s)
    | _ => none
  | .lshl => z_sl (pc + len) L S s (fun x y => x <<< (y.toInt64 &&& 63))
  | .lushr => z_sl (pc + len) L S s (fun x y => (x.toUInt64 >>> (y.toInt64.toUInt64 &&& Int64.toUInt64 63)).toInt64)
  | .i2l => match S with
    | .int x :: r => some (pc + len, L, .long x.toInt64 :: r, s)
    | _ => none
  | .l2i => match S with
    | .long x :: r => some (pc + len, L, .int x.toInt32 :: r, s)
    | _ => none
  | .lcmp => match S with
    | .long y :: .long x :: r => some (pc + len, L, .int (lg_cmp x y) :: r, s)
    | _ => none
  | .dup => match S with
    | v :: r => if v.category = 1 then some (pc + len, L, v :: v :: r, s) else none
    | _ => none
  | .pop => match S with
    | v :: r => if v.category = 1 then some (pc + len, L, r, s) else none
    | _ => none
  | .dup2 => match S with
    | v :: w :: r => if v.category = 1 ∧ w.category = 1 then some (pc + len, L, v :: w :: v :: w :: r, s) else none
    | _ => none
  | .ifCond c o => match S with
    | .int v :: r => z_br (z_cc c v 0) pc len o L r s
    | _ => none
  | .if_icmp c o => match S with
    | .int w :: .int v :: r => z_br (z_cc c v w) pc len o L r s
    | _ => none
  | .if_acmp c o => match S with
    | w :: v :: r => if v.isRef = true ∧ w.isRef = true then z_br (match c with | .eq => decide (v = w) | .ne => !decide (v = w)) pc len o L r s else none
    | _ => none
  | .ifnull o => match S with
    | .ref _ :: r => some (pc + len, L, r, s)
    | .null :: r => z_to pc o L r s
    | _ => none
  | .ifnonnull o => match S with
    | .ref _ :: r => z_to pc o L r s
    | .null :: r => some (pc + len, L, r, s)
    | _ => none
  | .goto o => z_to pc o L S s
  | .tableswitch d lo hi os => match S with
    | .int v :: r => if v.toInt < lo ∨ hi < v.toInt then z_to pc d L r s else match os[(v.toInt - lo).toNat]? with
      | some o => z_to pc o L r s
      | none => none
    | _ => none
  | .getfield _ => match S with
    | .ref a :: r => z_psh (pc + len) L r s (z_get x.2.2 x.1 s.1 a)
    | _ => none
  | .putfield _ => match S with
    | v :: .ref a :: r => match z_put x.2.2 x.1 s a v with
      | some s' => some (pc + len, L, r, s')
      | none => none
    | _ => none
  | .iaload => match S with
    | .int j :: .ref a :: r => z_psh (pc + len) L r s (z_at [99, 100] s.1 a j)
    | _ => none
  | .laload => match S with
    | .int j :: .ref a :: r => z_psh (pc + len) L r s (z_at [101] s.1 a j)
    | _ => none
  | .baload => match S with
    | .int j :: .ref a :: r => z_psh (pc + len) L r s (z_at [102] s.1 a j)
    | _ => none
  | .aaload => match S with
    | .int j :: .ref a :: r => z_psh (pc + len) L r s (z_at [103, 104] s.1 a j)
    | _ => none
  | .iastore => match S with
    | .int v :: .int j :: .ref a :: r => match z_st 100 s a j (.int v) with
      | some s' => some (pc + len, L, r, s')
      | none => none
    | _ => none
  | .lastore => match S with
    | .long v :: .int j :: .ref a :: r => match z_st 101 s a j (.long v) with
      | some s' => some (pc + len, L, r, s')
      | none => none
    | _ => none
  | .bastore => match S with
    | .int v :: .int j :: .ref a :: r => match z_st 102 s a j (narrow .boolean (.int v)) with
      | some s' => some (pc + len, L, r, s')
      | none => none
    | _ => none
  | .aastore => match S with
    | v :: .int j :: .ref a :: r => match z_ast s a j v with
      | some s' => some (pc + len, L, r, s')
      | none => none
    | _ => none
  | .arraylength => match S with
    | .ref a :: r => z_psh (pc + len) L r s (z_len s.1 a)
    | _ => none
  | .new _ => if x.1 < 90 then match zcl[x.1]? with
      | some q => some (pc + len, L, .ref s.2.1 :: S, z_new x.1 q.2.2 (fun k => defaultValue (zty x.1 k)) s)
      | none => none
    else none
  | .newarray t => match z_aty t with
    | some q => z_nwa q.1 q.2.1 q.2.2 (pc + len) L S s
    | none => none
  | .anewarray _ => if x.1 = 103 ∨ x.1 = 104 then z_nwa x.1 .null 4 (pc + len) L S s else none
  | .checkcast _ => match S with
    | .ref a :: r => match s.1 a with
      | some o => if o.1 = x.1 ∧ o.1 ∈ zth then some (pc + len, L, .ref a :: r, s) else none
      | none => none
    | .null :: r => some (pc + len, L, .null :: r, s)
    | _ => none
  | .instanceof _ => match S with
    | .ref a :: r => match s.1 a with
      | some o => if o.1 ∈ zth then some (pc + len, L, .int (if o.1 = x.1 then 1 else 0) :: r, s) else none
      | none => none
    | .null :: r => some (pc + len, L, .int 0 :: r, s)
    | _ => none
  | .invokespecial _ => if x.2.1 = 7 then match S with
      | .ref _ :: r => if z_wb r = true then some (pc + len, L, r, s) else none
      | _ => none
    else none
  | .invokestatic _ => if x.2.1 = 8 then match S with
      | .int n :: .int dp :: .ref a1 :: .int sp :: .ref a0 :: r => if z_wb r = true then match z_cpy s a0 sp a1 dp n with
          | some s' => some (pc + len, L, r, s')
          | none => none
        else none
      | _ => none
    else none
  | _ => none
end
section
/-- a method: name, bytes, locals, answer, the rows of its table, the exceptions that they name, its code, the frames and words that it needs above its own -/
abbrev zM : Type := MethodName × ByteArray × Nat × Option FieldType × List (Nat × Nat × Nat × Nat) × List Nat × List (Nat × Instr × Nat × zX) × Nat × Nat
abbrev zm_y (M : zM) : MethodName := M.1
abbrev zm_b (M : zM) : ByteArray := M.2.1
abbrev zm_n (M : zM) : Nat := M.2.2.1
abbrev zm_r (M : zM) : Option FieldType := M.2.2.2.1
abbrev zm_h (M : zM) : List (Nat × Nat × Nat × Nat) := M.2.2.2.2.1
abbrev zm_e (M : zM) : List Nat := M.2.2.2.2.2.1
abbrev zm_c (M : zM) : List (Nat × Instr × Nat × zX) := M.2.2.2.2.2.2.1
abbrev zm_f (M : zM) : Nat := M.2.2.2.2.2.2.2.1
abbrev zm_w (M : zM) : Nat := M.2.2.2.2.2.2.2.2
def z_ftc (C : List (Nat × Instr × Nat × zX)) (pc : Nat) : Option (Instr × Nat × zX) := match C with
  | [] => none
  | e :: C' => if e.1 = pc then some e.2 else z_ftc C' pc
def z_ft (P : List zM) (k pc : Nat) : Option (Instr × Nat × zX) := match P[k]? with
  | some M => z_ftc (zm_c M) pc
  | none => none
/-- an answer -/
def z_rt (r : Option FieldType) (i : Instr) (S : List Value) : Option (Option Value) := match i with
  | .ireturn => match S, r with
    | [.int v], some ty => if narrow ty (.int v) = .int v then some (some (.int v)) else none
    | _, _ => none
  | .lreturn => match S, r with
    | [.long v], some .long => some (some (.long v))
    | _, _ => none
  | .areturn => match S, r with
    | [v], some (.object _) => if v.isRef = true then some (some v) else none
    | [v], some (.array _) => if v.isRef = true then some (some v) else none
    | _, _ => none
  | .return_ => match S, r with
    | [], none => some none
    | _, _ => none
  | _ => none
/-- 'throw new E(text)' -/
def z_th (i : Instr) (x : zX) (S : List Value) (s : zS) : Option (Nat × zS) := match i with
  | .new _ => if 100 ≤ x.1 ∧ z_wb S = true then some (x.1 - 100, s.1, s.2.1 + 1, s.2.2 + 6) else none
  | _ => none
/-- a call: the method's number, its arguments, what stays on the stack -/
def z_cl (i : Instr) (x : zX) (S : List Value) (s : zS) : Option (Nat × List Value × List Value) := match i with
  | .invokevirtual _ => match x.2.2 with
    | n :: t => match S.drop n with
      | .ref b :: r => match s.1 b with
        | some o => if z_wb r = true then (if x.2.1 = 0 then (if t = [o.1] then some (x.1, .ref b :: (S.take n).reverse, r) else none)
            else if x.2.1 = 1 ∧ o.1 ∈ zth then match t[o.1]? with
              | some m => some (m, .ref b :: (S.take n).reverse, r)
              | none => none
            else none) else none
        | none => none
      | _ => none
    | _ => none
  | .invokestatic _ => match x.2.2 with
    | [n] => if (x.2.1 = 2 ∨ x.2.1 = 4 ∨ x.2.1 = 6) ∧ n ≤ S.length ∧ z_wb (S.drop n) = true then some (x.1, (S.take n).reverse, S.drop n) else none
    | _ => none
  | .invokespecial _ => match x.2.2 with
    | [n] => match S.drop n with
      | .ref b :: r => if (x.2.1 = 3 ∨ x.2.1 = 5) ∧ z_wb r = true then some (x.1, .ref b :: (S.take n).reverse, r) else none
      | _ => none
    | _ => none
  | _ => none
/-- the row of a table that takes the exception e at pc -/
def z_row (H : List (Nat × Nat × Nat × Nat)) (E : List Nat) (pc e : Nat) : Option Nat := match H, E with
  | h :: H', q :: E' => if h.1 ≤ pc ∧ pc < h.2.1 ∧ q = e then some h.2.2.1 else z_row H' E' pc e
  | _, _ => none
/-- behind a catch: the exception is put away, its place is not known any more -/
def z_put1 (i : Instr × Nat × zX) (pc : Nat) (L : zL) : Option (Nat × zL) := match i.1 with
  | .astore_n j => if (j : Nat) < L.length ∧ i.2.1 = 1 then some (pc + 1, (z_kill L j).set j none) else none
  | .astore j => if j < L.length ∧ i.2.1 = 2 then some (pc + 2, (z_kill L j).set j none) else none
  | _ => none
abbrev zU : Type := Option Value ⊕ Nat
/-- calls that may throw -/
def z_vk (i : Instr) (x : zX) : Bool := match i with
  | .invokevirtual _ => decide (x.2.1 = 0)
  | _ => false
def z_rn (P : List zM) : Nat → Nat → Nat → zL → List Value → zS → Option (zU × zS)
  | 0, _, _, _, _, _ => none
  | n + 1, k, pc, L, S, s => match P[k]? with
    | none => none
    | some M => match z_ftc (zm_c M) pc with
      | none => none
      | some q => match z_nx q.1 q.2.2 pc q.2.1 L S s with
        | some t => z_rn P n k t.1 t.2.1 t.2.2.1 t.2.2.2
        | none => match z_rt (zm_r M) q.1 S with
          | some v => some (.inl v, s)
          | none => match z_th q.1 q.2.2 S s with
            | some t => if zm_h M = [] then some (.inr t.1, t.2) else none
            | none => match z_cl q.1 q.2.2 S s with
              | none => none
              | some c => match P[c.1]? with
                | none => none
                | some N => if (z_ent c.2.1).length ≤ zm_n N then match z_rn P n c.1 0 (z_ini (zm_n N) c.2.1) [] s with
                    | none => none
                    | some (.inl v, s') => z_rn P n k (pc + q.2.1) L (v.toList ++ c.2.2) s'
                    | some (.inr e, s') => if z_vk q.1 q.2.2 = true then (if zm_h M = [] then some (.inr e, s') else match z_row (zm_h M) (zm_e M) pc e with
                      | none => none
                      | some h => match z_ftc (zm_c M) h with
                        | none => none
                        | some q' => match z_put1 q' h L with
                          | none => none
                          | some t => z_rn P n k t.1 t.2 [] s') else none
                  else none
/-- it comes to an end where Q holds -/
def z_go (P : List zM) (k pc : Nat) (L : zL) (S : List Value) (s : zS) (Q : zU → zS → Prop) : Prop := ∃ n o t, z_rn P n k pc L S s = some (o, t) ∧ Q o t
theorem z_rn_mono (P : List zM) : ∀ (n k pc : Nat) (L : zL) (S : List Value) (s : zS) (r : zU × zS), z_rn P n k pc L S s = some r → z_rn P (n + 1) k pc L S s = some r := by
  intro n
  induction n with
  | zero => intro k pc L S s r h; simp [z_rn] at h
  | succ n ih =>
    intro k pc L S s r h
    rw [z_rn] at h ⊢
    cases hM : P[k]? with
    | none => rw [hM] at h; simp at h
    | some M =>
      rw [hM] at h
      simp only at h ⊢
      cases hq : z_ftc (zm_c M) pc with
      | none => rw [hq] at h; simp at h
      | some q =>
        rw [hq] at h
        simp only at h ⊢
        cases hx : z_nx q.1 q.2.2 pc q.2.1 L S s with
        | some t => rw [hx] at h; simp only at h ⊢; exact ih _ _ _ _ _ _ h
        | none =>
          rw [hx] at h
          simp only at h ⊢
          cases hr : z_rt (zm_r M) q.1 S with
          | some v => rw [hr] at h; simpa using h
          | none =>
            rw [hr] at h
            simp only at h ⊢
            cases ht : z_th q.1 q.2.2 S s with
            | some t => rw [ht] at h; simpa using h
            | none =>
              rw [ht] at h
              simp only at h ⊢
              cases hc : z_cl q.1 q.2.2 S s with
              | none => rw [hc] at h; simp at h
              | some c =>
                rw [hc] at h
                simp only at h ⊢
                cases hN : P[c.1]? with
                | none => rw [hN] at h; simp at h
                | some N =>
                  rw [hN] at h
                  simp only at h ⊢
                  split at h
                  next hle =>
                    rw [if_pos hle]
                    cases hb : z_rn P n c.1 0 (z_ini (zm_n N) c.2.1) [] s with
                    | none => rw [hb] at h; simp at h
                    | some w =>
                      rw [ih _ _ _ _ _ _ hb]
                      rw [hb] at h
                      obtain ⟨o, s'⟩ := w
                      cases o with
                      | inl v => simp only at h ⊢; exact ih _ _ _ _ _ _ h
                      | inr e =>
                        simp only at h ⊢
                        split at h
                        next hvk =>
                          rw [if_pos hvk]
                          split at h
                          next hh => rw [if_pos hh]; exact h
                          next hh =>
                            rw [if_neg hh]
                            cases hro : z_row (zm_h M) (zm_e M) pc e with
                            | none => rw [hro] at h; simp at h
                            | some g =>
                              rw [hro] at h
                              simp only at h ⊢
                              cases hq' : z_ftc (zm_c M) g with
                              | none => rw [hq'] at h; simp at h
                              | some q' =>
                                rw [hq'] at h
                                simp only at h ⊢
                                cases hp : z_put1 q' g L with
                                | none => rw [hp] at h; simp at h
                                | some t => rw [hp] at h; simp only at h ⊢; exact ih _ _ _ _ _ _ h
                        next hvk => simp at h
                  next hle => simp at h
theorem z_rn_le (P : List zM) {n m : Nat} (hnm : n ≤ m) {k pc : Nat} {L : zL} {S : List Value} {s : zS} {r : zU × zS} (h : z_rn P n k pc L S s = some r) : z_rn P m k pc L S s = some r := by
  induction hnm with
  | refl => exact h
  | step _ ih => exact z_rn_mono P _ _ _ _ _ _ _ ih
end
section
/-! HOW THE MACHINE HOLDS A STATE OF THE LITTLE ONE -/
def z_has (ls : Array Slot) (L : zL) : Prop := ls.size = L.length ∧ lv_wf ls ∧ ∀ (i : Nat) (v : Value), L[i]? = some (some v) → ls[i]? = some (.val v)
def z_prs (L : zL) : List (Nat × Value) := (List.range L.length).filterMap (fun j => match L[j]? with
  | some (some w) => some (j, w)
  | _ => none)
theorem z_prs_mem {L : zL} {j : Nat} {w : Value} : (j, w) ∈ z_prs L ↔ L[j]? = some (some w) := by
  unfold z_prs
  rw [List.mem_filterMap]
  constructor
  · rintro ⟨a, -, h⟩
    split at h
    next w' hw => cases h; exact hw
    next => cases h
  · intro h
    have hj : j < L.length := (List.getElem?_eq_some_iff.mp h).1
    exact ⟨j, List.mem_range.mpr hj, by rw [h]⟩
theorem z_has.prs {ls : Array Slot} {L : zL} (h : z_has ls L) : lv_has ls L.length (z_prs L) := ⟨h.1, h.2.1, fun q hq => h.2.2 q.1 q.2 (z_prs_mem.mp hq)⟩
theorem z_kill_len (L : zL) (i : Nat) : (z_kill L i).length = L.length := by
  unfold z_kill
  split
  · rfl
  · split
    · split <;> simp
    · rfl
theorem z_two_iff {w : Value} : z_two (some w) = true ↔ w.category = 2 := by cases w <;> simp [z_two, Value.category]
theorem z_kill_get {L : zL} {i j : Nat} {w : Value} (h : (z_kill L i)[j]? = some (some w)) : L[j]? = some (some w) ∧ ¬ (j + 1 = i ∧ w.category = 2) := by
  unfold z_kill at h
  split at h
  · exact ⟨h, fun q => by omega⟩
  · next k =>
    split at h
    · next w' hw =>
      split at h
      next ht =>
        by_cases hjk : j = k
        · subst hjk
          rw [List.getElem?_set_self (List.getElem?_eq_some_iff.mp hw).1] at h
          cases h
        · rw [List.getElem?_set_ne (Ne.symm hjk)] at h
          exact ⟨h, fun q => hjk (by omega)⟩
      next ht =>
        refine ⟨h, fun q => ht ?_⟩
        have hj : j = k := by omega
        subst hj
        rw [h] at hw
        cases hw
        exact z_two_iff.mpr q.2
    · next hn =>
      refine ⟨h, fun q => ?_⟩
      have hj : j = k := by omega
      subst hj
      rw [h] at hn
      cases hn
theorem z_set1_len (L : zL) (i : Nat) (v : Value) : (z_set1 L i v).length = L.length := by simp [z_set1, z_kill_len]
theorem z_set2_len (L : zL) (i : Nat) (v : Value) : (z_set2 L i v).length = L.length := by simp [z_set2, z_kill_len]
theorem z_has.of {ls : Array Slot} {L L' : zL} {l : List (Nat × Value)} (h : lv_has ls L.length l) (hlen : L'.length = L.length) (hm : ∀ (j : Nat) (w : Value), L'[j]? = some (some w) → (j, w) ∈ l) : z_has ls L' :=
  ⟨by rw [h.1, hlen], h.2.1, fun i v hi => h.2.2 (i, v) (hm i v hi)⟩
theorem z_has.set1 {ls : Array Slot} {L : zL} {i : Nat} {v : Value} (hi : i < L.length) (h : lv_has ls L.length ((i, v) :: (z_prs L).filter (fun q => !(q.1 == i) && !(q.1 + 1 == i && q.2.category == 2)))) : z_has ls (z_set1 L i v) := by
  refine z_has.of h (z_set1_len L i v) fun j w hj => ?_
  unfold z_set1 at hj
  by_cases hji : j = i
  · subst hji
    rw [List.getElem?_set_self (by rw [z_kill_len]; exact hi)] at hj
    cases hj
    exact List.mem_cons_self
  · rw [List.getElem?_set_ne (Ne.symm hji)] at hj
    obtain ⟨h1, h2⟩ := z_kill_get hj
    refine List.mem_cons_of_mem _ (List.mem_filter.mpr ⟨z_prs_mem.mpr h1, ?_⟩)
    simp only [Bool.and_eq_true, Bool.not_eq_true', beq_eq_false_iff_ne, ne_eq, Bool.and_eq_false_imp, beq_iff_eq]
    exact ⟨hji, fun q r => h2 ⟨q, r⟩⟩
theorem z_has.unset1 {ls : Array Slot} {L : zL} {i : Nat} {v : Value} (hi : i < L.length) (h : lv_has ls L.length ((i, v) :: (z_prs L).filter (fun q => !(q.1 == i) && !(q.1 + 1 == i && q.2.category == 2)))) : z_has ls ((z_kill L i).set i none) := by
  refine z_has.of h (by simp [z_kill_len]) fun j w hj => ?_
  by_cases hji : j = i
  · subst hji
    rw [List.getElem?_set_self (by rw [z_kill_len]; exact hi)] at hj
    cases hj
  · rw [List.getElem?_set_ne (Ne.symm hji)] at hj
    obtain ⟨h1, h2⟩ := z_kill_get hj
    refine List.mem_cons_of_mem _ (List.mem_filter.mpr ⟨z_prs_mem.mpr h1, ?_⟩)
    simp only [Bool.and_eq_true, Bool.not_eq_true', beq_eq_false_iff_ne, ne_eq, Bool.and_eq_false_imp, beq_iff_eq]
    exact ⟨hji, fun q r => h2 ⟨q, r⟩⟩
theorem z_has.set2 {ls : Array Slot} {L : zL} {i : Nat} {v : Value} (hi : i + 1 < L.length) (h : lv_has ls L.length ((i, v) :: (z_prs L).filter (fun q => !(q.1 == i) && (!(q.1 == i + 1) && !(q.1 + 1 == i && q.2.category == 2))))) : z_has ls (z_set2 L i v) := by
  refine z_has.of h (z_set2_len L i v) fun j w hj => ?_
  unfold z_set2 at hj
  by_cases hji : j = i
  · subst hji
    rw [List.getElem?_set_self (by simp only [List.length_set, z_kill_len]; omega)] at hj
    cases hj
    exact List.mem_cons_self
  · rw [List.getElem?_set_ne (Ne.symm hji)] at hj
    by_cases hj1 : j = i + 1
    · subst hj1
      rw [List.getElem?_set_self (by rw [z_kill_len]; exact hi)] at hj
      cases hj
    · rw [List.getElem?_set_ne (Ne.symm hj1)] at hj
      obtain ⟨h1, h2⟩ := z_kill_get hj
      refine List.mem_cons_of_mem _ (List.mem_filter.mpr ⟨z_prs_mem.mpr h1, ?_⟩)
      simp only [Bool.and_eq_true, Bool.not_eq_true', beq_eq_false_iff_ne, ne_eq, Bool.and_eq_false_imp, beq_iff_eq]
      exact ⟨hji, hj1, fun q r => h2 ⟨q, r⟩⟩
theorem z_ent_get : ∀ (A : List Value) (i : Nat) (pre : Nat) (v : Value), (z_ent A)[i]? = some (some v) → (pre + i, v) ∈ lv_args pre A := by
  intro A
  induction A with
  | nil => intro i pre v h; simp [z_ent] at h
  | cons a as ih =>
    intro i pre v h
    unfold z_ent at h
    unfold lv_args
    split at h
    next hc =>
      rw [if_pos hc]
      match i, h with
      | 0, h => simp at h; subst h; exact List.mem_cons_self
      | 1, h => simp at h
      | i + 2, h =>
        have h' : (z_ent as)[i]? = some (some v) := by simpa using h
        have := ih i (pre + 2) v h'
        rw [show pre + (i + 2) = pre + 2 + i by omega]
        exact List.mem_cons_of_mem _ this
    next hc =>
      rw [if_neg hc]
      match i, h with
      | 0, h => simp at h; subst h; exact List.mem_cons_self
      | i + 1, h =>
        have h' : (z_ent as)[i]? = some (some v) := by simpa using h
        have := ih i (pre + 1) v h'
        rw [show pre + (i + 1) = pre + 1 + i by omega]
        exact List.mem_cons_of_mem _ this
theorem z_ent_len (A : List Value) : (z_ent A).length = (lg_sl A).length := by
  induction A with
  | nil => rfl
  | cons a as ih =>
    unfold z_ent
    cases a <;> simp [Value.category, lg_sl, ih] <;> (try (simp [lg_sl] at ih; omega))
theorem z_ini_len {n : Nat} {A : List Value} (h : (z_ent A).length ≤ n) : (z_ini n A).length = n := by simp [z_ini]; omega
theorem z_ini_has {n : Nat} {A : List Value} (h : (z_ent A).length ≤ n) : z_has ((lg_sl A ++ List.replicate (n - (lg_sl A).length) Slot.unset).toArray) (z_ini n A) := by
  have hl := lv_entry A (n := n) (by rw [← z_ent_len]; exact h)
  refine ⟨by rw [hl.1, z_ini_len h], hl.2.1, fun i v hi => ?_⟩
  unfold z_ini at hi
  by_cases hlt : i < (z_ent A).length
  · rw [List.getElem?_append_left hlt] at hi
    have := z_ent_get A i 0 v hi
    rw [Nat.zero_add] at this
    exact hl.2.2 (i, v) this
  · rw [List.getElem?_append_right (Nat.not_lt.mp hlt)] at hi
    simp [List.getElem?_replicate] at hi
/-! the heap -/
def zo_R (D : va_G) (cA : Nat → ClassId) (H : Heap) (a : Nat) (o : zO) : Prop :=
  (o.1 < 90 ∧ ∃ r : vw_C, zcl[o.1]? = some r ∧ t_OB a (D.1 o.1) r.2.2 (D.2 o.1) H o.2.2) ∨ (100 ≤ o.1 ∧ o.1 ≤ 104 ∧ H[a]? = some (arrV (cA o.1) o.2.1 o.2.2)) ∨
  (o.1 = 99 ∧ ∃ scr : Cell, H[a]? = some scr ∧ scr.cls = cA 99 ∧ (∀ k, scr.vm ≠ .statics k) ∧ scr.vm ≠ .unknown ∧ scr.slots.size = o.2.1 ∧ ∀ j, j < o.2.1 → scr.slots[j]? = some (o.2.2 j))
def z_R (s0 : State) (D : va_G) (cA : Nat → ClassId) (q : zS) (H : Heap) : Prop :=
  s0.heap.size ≤ H.size ∧ (∀ a : Nat, a < s0.heap.size → H[a]? = s0.heap[a]?) ∧ H.size = q.2.1 ∧ ∀ (a : Nat) (o : zO), q.1 a = some o → zo_R D cA H a o ∧ (o.1 ≠ 99 → s0.heap.size ≤ a)
theorem zo_R.lt {D : va_G} {cA : Nat → ClassId} {H : Heap} {a : Nat} {o : zO} (h : zo_R D cA H a o) : a < H.size := by
  rcases h with ⟨-, r, -, cell, h1, -⟩ | ⟨-, -, h1⟩ | ⟨-, scr, h1, -⟩ <;> exact (Array.getElem?_eq_some_iff.mp h1).1
theorem zo_R.kept {D : va_G} {cA : Nat → ClassId} {H H1 : Heap} {a : Nat} {o : zO} (h : zo_R D cA H a o) (hq : H1[a]? = H[a]?) : zo_R D cA H1 a o := by
  rcases h with ⟨h0, r, h1, h2⟩ | ⟨h0, h1, h2⟩ | ⟨h0, scr, h1, h2⟩
  · exact Or.inl ⟨h0, r, h1, h2.kept hq⟩
  · exact Or.inr (Or.inl ⟨h0, h1, hq.trans h2⟩)
  · exact Or.inr (Or.inr ⟨h0, scr, hq.trans h1, h2⟩)
/-- one cell written -/
theorem z_R.set {s0 : State} {D : va_G} {cA : Nat → ClassId} {q : zS} {H H1 : Heap} (h : z_R s0 D cA q H) {a : Nat} {o o' : zO} (ha : q.1 a = some o) (hne : o.1 ≠ 99) (ho : zo_R D cA H1 a o') (ht : o'.1 ≠ 99) (hz : H1.size = H.size) (hk : ∀ b : Nat, b ≠ a → H1[b]? = H[b]?) :
    z_R s0 D cA (z_up q.1 a o', q.2) H1 := by
  have hge := (h.2.2.2 a o ha).2 hne
  refine ⟨by rw [hz]; exact h.1, fun b hb => by rw [hk b (fun e => by omega)]; exact h.2.1 b hb, by rw [hz]; exact h.2.2.1, fun b o2 hb => ?_⟩
  simp only [z_up] at hb
  split at hb
  next e => cases hb; subst e; exact ⟨ho, fun _ => hge⟩
  next e =>
    obtain ⟨h1, h2⟩ := h.2.2.2 b o2 hb
    exact ⟨h1.kept (hk b e), h2⟩
/-- one cell more -/
theorem z_R.new {s0 : State} {D : va_G} {cA : Nat → ClassId} {q : zS} {H H1 : Heap} (h : z_R s0 D cA q H) {tag n : Nat} {f : Nat → Value} (ho : zo_R D cA H1 H.size (tag, n, f)) (hz : H1.size = H.size + 1) (hk : ∀ b : Nat, b < H.size → H1[b]? = H[b]?) :
    z_R s0 D cA (z_new tag n f q) H1 := by
  obtain ⟨h1, h2, h3, h4⟩ := h
  refine ⟨by omega, fun b hb => by rw [hk b (by omega)]; exact h2 b hb, by show H1.size = q.2.1 + 1; omega, fun b o2 hb => ?_⟩
  simp only [z_new, z_up] at hb
  split at hb
  next e =>
    cases hb
    rw [← h3] at e
    subst e
    exact ⟨ho, fun _ => h1⟩
  next e =>
    obtain ⟨g1, g2⟩ := h4 b o2 hb
    exact ⟨g1.kept (hk b g1.lt), g2⟩
end
section
/-! INSTRUCTIONS THAT GO ON WITHIN THE FRAME: what the little machine does, the machine does -/
def z_W (p : Program) (l : Launch) (e : Env) (R : Room) (s : State) (m : MethodId) (args : Array Value) (below : List Frame) (meth : Method) (c : Code) (Q : State → Prop) (s0 : State) (D : va_G) (cA : Nat → ClassId) (n0 u0 : Nat) (pc : Nat) (L : zL) (S : List Value) (q : zS) : Prop :=
  ∀ (H : Heap) (locs : List Loc) (ls : Array Slot), z_R s0 D cA q H → (∀ z ∈ locs, s0.heap.size ≤ z.base) → z_has ls L → W p l e R s m args below meth c H locs (q.2.1 - n0) (q.2.2 - u0) Q (F0 m pc ls S)
section ZS
variable {p : Program} {l : Launch} {e : Env} {R : Room} {s : State} {m : MethodId} {args : Array Value} {below : List Frame} {meth : Method} {c : Code} {Q : State → Prop} {s0 : State} {D : va_G} {cA : Nat → ClassId} {n0 u0 : Nat}
variable {cc : ByteArray} {pc : Nat} {L : zL} {S r : List Value} {q : zS}

theorem zs_iconst (hx : p.tables.exec = Jvm.exec) (hb : c.code = cc) {n : Int} (hd : decode cc pc = .ok (.iconst n, 1)) (k : z_W p l e R s m args below meth c Q s0 D cA n0 u0 (pc + 1) L (.int (Int32.ofInt n) :: S) q) : z_W p l e R s m args below meth c Q s0 D cA n0 u0 pc L S q := fun H locs ls hR hf hl => lv_iconst hx hb hd rfl (k H locs ls hR hf hl)
theorem zs_bipush (hx : p.tables.exec = Jvm.exec) (hb : c.code = cc) {n : Int} (hd : decode cc pc = .ok (.bipush n, 2)) (k : z_W p l e R s m args below meth c Q s0 D cA n0 u0 (pc + 2) L (.int (Int8.ofInt n).toInt32 :: S) q) : z_W p l e R s m args below meth c Q s0 D cA n0 u0 pc L S q := fun H locs ls hR hf hl => lv_bipush hx hb hd rfl (k H locs ls hR hf hl)
theorem zs_sipush (hx : p.tables.exec = Jvm.exec) (hb : c.code = cc) {n : Int} (hd : decode cc pc = .ok (.sipush n, 3)) (k : z_W p l e R s m args below meth c Q s0 D cA n0 u0 (pc + 3) L (.int (Int16.ofInt n).toInt32 :: S) q) : z_W p l e R s m args below meth c Q s0 D cA n0 u0 pc L S q := fun H locs ls hR hf hl => lv_sipush hx hb hd rfl (k H locs ls hR hf hl)
theorem zs_lconst (hx : p.tables.exec = Jvm.exec) (hb : c.code = cc) {n : Fin 2} (hd : decode cc pc = .ok (.lconst n, 1)) (k : z_W p l e R s m args below meth c Q s0 D cA n0 u0 (pc + 1) L (.long (Int64.ofNat (n : Nat)) :: S) q) : z_W p l e R s m args below meth c Q s0 D cA n0 u0 pc L S q := fun H locs ls hR hf hl => lv_lconst hx hb hd rfl (k H locs ls hR hf hl)
theorem zs_null (hx : p.tables.exec = Jvm.exec) (hb : c.code = cc)  (hd : decode cc pc = .ok (.aconst_null, 1)) (k : z_W p l e R s m args below meth c Q s0 D cA n0 u0 (pc + 1) L (.null :: S) q) : z_W p l e R s m args below meth c Q s0 D cA n0 u0 pc L S q := fun H locs ls hR hf hl => lv_null hx hb hd (k H locs ls hR hf hl)
theorem zs_iload_n (hx : p.tables.exec = Jvm.exec) (hb : c.code = cc) {j : Fin 4} {v : Int32} (hv : L[(j : Nat)]? = some (some (.int v))) (hd : decode cc pc = .ok (.iload_n j, 1)) (k : z_W p l e R s m args below meth c Q s0 D cA n0 u0 (pc + 1) L (.int v :: S) q) : z_W p l e R s m args below meth c Q s0 D cA n0 u0 pc L S q := fun H locs ls hR hf hl => lv_iload_n hx hb hd rfl (hl.2.2 _ _ hv) (k H locs ls hR hf hl)
theorem zs_iload (hx : p.tables.exec = Jvm.exec) (hb : c.code = cc) {j : Nat} {v : Int32} (hv : L[j]? = some (some (.int v))) (hd : decode cc pc = .ok (.iload j, 2)) (k : z_W p l e R s m args below meth c Q s0 D cA n0 u0 (pc + 2) L (.int v :: S) q) : z_W p l e R s m args below meth c Q s0 D cA n0 u0 pc L S q := fun H locs ls hR hf hl => lv_iload hx hb hd (hl.2.2 _ _ hv) (k H locs ls hR hf hl)
theorem zs_lload_n (hx : p.tables.exec = Jvm.exec) (hb : c.code = cc) {j : Fin 4} {v : Int64} (hv : L[(j : Nat)]? = some (some (.long v))) (hd : decode cc pc = .ok (.lload_n j, 1)) (k : z_W p l e R s m args below meth c Q s0 D cA n0 u0 (pc + 1) L (.long v :: S) q) : z_W p l e R s m args below meth c Q s0 D cA n0 u0 pc L S q := fun H locs ls hR hf hl => lv_lload_n hx hb hd rfl (hl.2.2 _ _ hv) (k H locs ls hR hf hl)
theorem zs_lload (hx : p.tables.exec = Jvm.exec) (hb : c.code = cc) {j : Nat} {v : Int64} (hv : L[j]? = some (some (.long v))) (hd : decode cc pc = .ok (.lload j, 2)) (k : z_W p l e R s m args below meth c Q s0 D cA n0 u0 (pc + 2) L (.long v :: S) q) : z_W p l e R s m args below meth c Q s0 D cA n0 u0 pc L S q := fun H locs ls hR hf hl => lv_lload hx hb hd (hl.2.2 _ _ hv) (k H locs ls hR hf hl)
theorem zs_aload_n (hx : p.tables.exec = Jvm.exec) (hb : c.code = cc) {j : Fin 4} {v : Nat} (hv : L[(j : Nat)]? = some (some (.ref v))) (hd : decode cc pc = .ok (.aload_n j, 1)) (k : z_W p l e R s m args below meth c Q s0 D cA n0 u0 (pc + 1) L (.ref v :: S) q) : z_W p l e R s m args below meth c Q s0 D cA n0 u0 pc L S q := fun H locs ls hR hf hl => lv_aload_n hx hb hd rfl (hl.2.2 _ _ hv) (k H locs ls hR hf hl)
theorem zs_aload (hx : p.tables.exec = Jvm.exec) (hb : c.code = cc) {j : Nat} {v : Nat} (hv : L[j]? = some (some (.ref v))) (hd : decode cc pc = .ok (.aload j, 2)) (k : z_W p l e R s m args below meth c Q s0 D cA n0 u0 (pc + 2) L (.ref v :: S) q) : z_W p l e R s m args below meth c Q s0 D cA n0 u0 pc L S q := fun H locs ls hR hf hl => lv_aload hx hb hd (hl.2.2 _ _ hv) (k H locs ls hR hf hl)
theorem zs_aload_nN (hx : p.tables.exec = Jvm.exec) (hb : c.code = cc) {j : Fin 4} (hv : L[(j : Nat)]? = some (some .null)) (hd : decode cc pc = .ok (.aload_n j, 1)) (k : z_W p l e R s m args below meth c Q s0 D cA n0 u0 (pc + 1) L (.null :: S) q) : z_W p l e R s m args below meth c Q s0 D cA n0 u0 pc L S q := fun H locs ls hR hf hl => lv_aload_nN hx hb hd rfl (hl.2.2 _ _ hv) (k H locs ls hR hf hl)
theorem zs_aloadN (hx : p.tables.exec = Jvm.exec) (hb : c.code = cc) {j : Nat} (hv : L[j]? = some (some .null)) (hd : decode cc pc = .ok (.aload j, 2)) (k : z_W p l e R s m args below meth c Q s0 D cA n0 u0 (pc + 2) L (.null :: S) q) : z_W p l e R s m args below meth c Q s0 D cA n0 u0 pc L S q := fun H locs ls hR hf hl => lv_aloadN hx hb hd (hl.2.2 _ _ hv) (k H locs ls hR hf hl)
theorem zs_istore_n (hx : p.tables.exec = Jvm.exec) (hb : c.code = cc) {j : Fin 4} {v : Int32} (hj : (j : Nat) < L.length) (hd : decode cc pc = .ok (.istore_n j, 1)) (k : z_W p l e R s m args below meth c Q s0 D cA n0 u0 (pc + 1) (z_set1 L j (.int v)) r q) : z_W p l e R s m args below meth c Q s0 D cA n0 u0 pc L (.int v :: r) q := fun H locs ls hR hf hl => lv_istore_n hx hb hd rfl hl.prs hj rfl (fun ls2 h2 => k H locs ls2 hR hf (z_has.set1 hj h2))
theorem zs_istore (hx : p.tables.exec = Jvm.exec) (hb : c.code = cc) {j : Nat} {v : Int32} (hj : j < L.length) (hd : decode cc pc = .ok (.istore j, 2)) (k : z_W p l e R s m args below meth c Q s0 D cA n0 u0 (pc + 2) (z_set1 L j (.int v)) r q) : z_W p l e R s m args below meth c Q s0 D cA n0 u0 pc L (.int v :: r) q := fun H locs ls hR hf hl => lv_istore hx hb hd hl.prs hj rfl (fun ls2 h2 => k H locs ls2 hR hf (z_has.set1 hj h2))
theorem zs_lstore_n (hx : p.tables.exec = Jvm.exec) (hb : c.code = cc) {j : Fin 4} {v : Int64} (hj : (j : Nat) + 1 < L.length) (hd : decode cc pc = .ok (.lstore_n j, 1)) (k : z_W p l e R s m args below meth c Q s0 D cA n0 u0 (pc + 1) (z_set2 L j (.long v)) r q) : z_W p l e R s m args below meth c Q s0 D cA n0 u0 pc L (.long v :: r) q := fun H locs ls hR hf hl => lv_lstore_n hx hb hd rfl hl.prs hj rfl (fun ls2 h2 => k H locs ls2 hR hf (z_has.set2 hj h2))
theorem zs_lstore (hx : p.tables.exec = Jvm.exec) (hb : c.code = cc) {j : Nat} {v : Int64} (hj : j + 1 < L.length) (hd : decode cc pc = .ok (.lstore j, 2)) (k : z_W p l e R s m args below meth c Q s0 D cA n0 u0 (pc + 2) (z_set2 L j (.long v)) r q) : z_W p l e R s m args below meth c Q s0 D cA n0 u0 pc L (.long v :: r) q := fun H locs ls hR hf hl => lv_lstore hx hb hd hl.prs hj rfl (fun ls2 h2 => k H locs ls2 hR hf (z_has.set2 hj h2))
theorem zs_astore_n (hx : p.tables.exec = Jvm.exec) (hb : c.code = cc) {j : Fin 4} {v : Nat} (hj : (j : Nat) < L.length) (hd : decode cc pc = .ok (.astore_n j, 1)) (k : z_W p l e R s m args below meth c Q s0 D cA n0 u0 (pc + 1) (z_set1 L j (.ref v)) r q) : z_W p l e R s m args below meth c Q s0 D cA n0 u0 pc L (.ref v :: r) q := fun H locs ls hR hf hl => lv_astore_n hx hb hd rfl hl.prs hj rfl (fun ls2 h2 => k H locs ls2 hR hf (z_has.set1 hj h2))
theorem zs_astore (hx : p.tables.exec = Jvm.exec) (hb : c.code = cc) {j : Nat} {v : Nat} (hj : j < L.length) (hd : decode cc pc = .ok (.astore j, 2)) (k : z_W p l e R s m args below meth c Q s0 D cA n0 u0 (pc + 2) (z_set1 L j (.ref v)) r q) : z_W p l e R s m args below meth c Q s0 D cA n0 u0 pc L (.ref v :: r) q := fun H locs ls hR hf hl => lv_astore hx hb hd hl.prs hj rfl (fun ls2 h2 => k H locs ls2 hR hf (z_has.set1 hj h2))
theorem zs_astoreN_n (hx : p.tables.exec = Jvm.exec) (hb : c.code = cc) {j : Fin 4}  (hj : (j : Nat) < L.length) (hd : decode cc pc = .ok (.astore_n j, 1)) (k : z_W p l e R s m args below meth c Q s0 D cA n0 u0 (pc + 1) (z_set1 L j (.null)) r q) : z_W p l e R s m args below meth c Q s0 D cA n0 u0 pc L (.null :: r) q := fun H locs ls hR hf hl => lv_astore_nN hx hb hd rfl hl.prs hj rfl (fun ls2 h2 => k H locs ls2 hR hf (z_has.set1 hj h2))
theorem zs_astoreN (hx : p.tables.exec = Jvm.exec) (hb : c.code = cc) {j : Nat}  (hj : j < L.length) (hd : decode cc pc = .ok (.astore j, 2)) (k : z_W p l e R s m args below meth c Q s0 D cA n0 u0 (pc + 2) (z_set1 L j (.null)) r q) : z_W p l e R s m args below meth c Q s0 D cA n0 u0 pc L (.null :: r) q := fun H locs ls hR hf hl => lv_astoreN hx hb hd hl.prs hj rfl (fun ls2 h2 => k H locs ls2 hR hf (z_has.set1 hj h2))
theorem zs_iinc (hx : p.tables.exec = Jvm.exec) (hb : c.code = cc) {j : Nat} {n : Int} {v : Int32} (hv : L[j]? = some (some (.int v))) (hd : decode cc pc = .ok (.iinc j n, 3)) (k : z_W p l e R s m args below meth c Q s0 D cA n0 u0 (pc + 3) (z_set1 L j (.int (v + Int32.ofInt n))) S q) : z_W p l e R s m args below meth c Q s0 D cA n0 u0 pc L S q := fun H locs ls hR hf hl => by
  obtain ⟨i, hi⟩ := List.getElem?_of_mem (z_prs_mem.mpr hv)
  have hj : j < L.length := (List.getElem?_eq_some_iff.mp hv).1
  exact lv_iinc hx hb hd hl.prs hi rfl hj rfl (fun ls2 h2 => k H locs ls2 hR hf (z_has.set1 hj h2))
theorem zs_iadd (hx : p.tables.exec = Jvm.exec) (hb : c.code = cc) {x y : Int32} (hd : decode cc pc = .ok (.iadd, 1)) (k : z_W p l e R s m args below meth c Q s0 D cA n0 u0 (pc + 1) L (.int (x + y) :: r) q) : z_W p l e R s m args below meth c Q s0 D cA n0 u0 pc L (.int y :: .int x :: r) q := fun H locs ls hR hf hl => lv_iadd hx hb hd (k H locs ls hR hf hl)
theorem zs_isub (hx : p.tables.exec = Jvm.exec) (hb : c.code = cc) {x y : Int32} (hd : decode cc pc = .ok (.isub, 1)) (k : z_W p l e R s m args below meth c Q s0 D cA n0 u0 (pc + 1) L (.int (x - y) :: r) q) : z_W p l e R s m args below meth c Q s0 D cA n0 u0 pc L (.int y :: .int x :: r) q := fun H locs ls hR hf hl => lv_isub hx hb hd (k H locs ls hR hf hl)
theorem zs_imul (hx : p.tables.exec = Jvm.exec) (hb : c.code = cc) {x y : Int32} (hd : decode cc pc = .ok (.imul, 1)) (k : z_W p l e R s m args below meth c Q s0 D cA n0 u0 (pc + 1) L (.int (x * y) :: r) q) : z_W p l e R s m args below meth c Q s0 D cA n0 u0 pc L (.int y :: .int x :: r) q := fun H locs ls hR hf hl => lv_imul hx hb hd (k H locs ls hR hf hl)
theorem zs_iand (hx : p.tables.exec = Jvm.exec) (hb : c.code = cc) {x y : Int32} (hd : decode cc pc = .ok (.iand, 1)) (k : z_W p l e R s m args below meth c Q s0 D cA n0 u0 (pc + 1) L (.int (x &&& y) :: r) q) : z_W p l e R s m args below meth c Q s0 D cA n0 u0 pc L (.int y :: .int x :: r) q := fun H locs ls hR hf hl => lv_iand hx hb hd (k H locs ls hR hf hl)
theorem zs_ixor (hx : p.tables.exec = Jvm.exec) (hb : c.code = cc) {x y : Int32} (hd : decode cc pc = .ok (.ixor, 1)) (k : z_W p l e R s m args below meth c Q s0 D cA n0 u0 (pc + 1) L (.int (x ^^^ y) :: r) q) : z_W p l e R s m args below meth c Q s0 D cA n0 u0 pc L (.int y :: .int x :: r) q := fun H locs ls hR hf hl => lv_ixor hx hb hd (k H locs ls hR hf hl)
theorem zs_ladd (hx : p.tables.exec = Jvm.exec) (hb : c.code = cc) {x y : Int64} (hd : decode cc pc = .ok (.ladd, 1)) (k : z_W p l e R s m args below meth c Q s0 D cA n0 u0 (pc + 1) L (.long (x + y) :: r) q) : z_W p l e R s m args below meth c Q s0 D cA n0 u0 pc L (.long y :: .long x :: r) q := fun H locs ls hR hf hl => lv_ladd hx hb hd (k H locs ls hR hf hl)
theorem zs_lsub (hx : p.tables.exec = Jvm.exec) (hb : c.code = cc) {x y : Int64} (hd : decode cc pc = .ok (.lsub, 1)) (k : z_W p l e R s m args below meth c Q s0 D cA n0 u0 (pc + 1) L (.long (x - y) :: r) q) : z_W p l e R s m args below meth c Q s0 D cA n0 u0 pc L (.long y :: .long x :: r) q := fun H locs ls hR hf hl => lv_lsub hx hb hd (k H locs ls hR hf hl)
theorem zs_lmul (hx : p.tables.exec = Jvm.exec) (hb : c.code = cc) {x y : Int64} (hd : decode cc pc = .ok (.lmul, 1)) (k : z_W p l e R s m args below meth c Q s0 D cA n0 u0 (pc + 1) L (.long (x * y) :: r) q) : z_W p l e R s m args below meth c Q s0 D cA n0 u0 pc L (.long y :: .long x :: r) q := fun H locs ls hR hf hl => lv_lmul hx hb hd (k H locs ls hR hf hl)
theorem zs_land (hx : p.tables.exec = Jvm.exec) (hb : c.code = cc) {x y : Int64} (hd : decode cc pc = .ok (.land, 1)) (k : z_W p l e R s m args below meth c Q s0 D cA n0 u0 (pc + 1) L (.long (x &&& y) :: r) q) : z_W p l e R s m args below meth c Q s0 D cA n0 u0 pc L (.long y :: .long x :: r) q := fun H locs ls hR hf hl => lv_land hx hb hd (k H locs ls hR hf hl)
theorem zs_lxor (hx : p.tables.exec = Jvm.exec) (hb : c.code = cc) {x y : Int64} (hd : decode cc pc = .ok (.lxor, 1)) (k : z_W p l e R s m args below meth c Q s0 D cA n0 u0 (pc + 1) L (.long (x ^^^ y) :: r) q) : z_W p l e R s m args below meth c Q s0 D cA n0 u0 pc L (.long y :: .long x :: r) q := fun H locs ls hR hf hl => lv_lxor hx hb hd (k H locs ls hR hf hl)
theorem zs_irem (hx : p.tables.exec = Jvm.exec) (hb : c.code = cc) {x y : Int32} (hy : ¬ y = 0) (hd : decode cc pc = .ok (.irem, 1)) (k : z_W p l e R s m args below meth c Q s0 D cA n0 u0 (pc + 1) L (.int (x - x / y * y) :: r) q) : z_W p l e R s m args below meth c Q s0 D cA n0 u0 pc L (.int y :: .int x :: r) q := fun H locs ls hR hf hl => lv_irem hx hb hd hy (k H locs ls hR hf hl)
theorem zs_lrem (hx : p.tables.exec = Jvm.exec) (hb : c.code = cc) {x y : Int64} (hy : ¬ y = 0) (hd : decode cc pc = .ok (.lrem, 1)) (k : z_W p l e R s m args below meth c Q s0 D cA n0 u0 (pc + 1) L (.long (x - x / y * y) :: r) q) : z_W p l e R s m args below meth c Q s0 D cA n0 u0 pc L (.long y :: .long x :: r) q := fun H locs ls hR hf hl => lv_lrem hx hb hd hy (k H locs ls hR hf hl)
theorem zs_lshl (hx : p.tables.exec = Jvm.exec) (hb : c.code = cc) {x : Int64} {y : Int32} (hd : decode cc pc = .ok (.lshl, 1)) (k : z_W p l e R s m args below meth c Q s0 D cA n0 u0 (pc + 1) L (.long (x <<< (y.toInt64 &&& 63)) :: r) q) : z_W p l e R s m args below meth c Q s0 D cA n0 u0 pc L (.int y :: .long x :: r) q := fun H locs ls hR hf hl => lv_lshl hx hb hd rfl (k H locs ls hR hf hl)
theorem zs_lushr (hx : p.tables.exec = Jvm.exec) (hb : c.code = cc) {x : Int64} {y : Int32} (hd : decode cc pc = .ok (.lushr, 1)) (k : z_W p l e R s m args below meth c Q s0 D cA n0 u0 (pc + 1) L (.long (x.toUInt64 >>> (y.toInt64.toUInt64 &&& Int64.toUInt64 63)).toInt64 :: r) q) : z_W p l e R s m args below meth c Q s0 D cA n0 u0 pc L (.int y :: .long x :: r) q := fun H locs ls hR hf hl => lv_lushr hx hb hd rfl (k H locs ls hR hf hl)
theorem zs_i2l (hx : p.tables.exec = Jvm.exec) (hb : c.code = cc) {x : Int32} (hd : decode cc pc = .ok (.i2l, 1)) (k : z_W p l e R s m args below meth c Q s0 D cA n0 u0 (pc + 1) L (.long x.toInt64 :: r) q) : z_W p l e R s m args below meth c Q s0 D cA n0 u0 pc L (.int x :: r) q := fun H locs ls hR hf hl => lv_i2l hx hb hd rfl (k H locs ls hR hf hl)
theorem zs_l2i (hx : p.tables.exec = Jvm.exec) (hb : c.code = cc) {x : Int64} (hd : decode cc pc = .ok (.l2i, 1)) (k : z_W p l e R s m args below meth c Q s0 D cA n0 u0 (pc + 1) L (.int x.toInt32 :: r) q) : z_W p l e R s m args below meth c Q s0 D cA n0 u0 pc L (.long x :: r) q := fun H locs ls hR hf hl => lv_l2i hx hb hd rfl (k H locs ls hR hf hl)
theorem zs_lcmp (hx : p.tables.exec = Jvm.exec) (hb : c.code = cc) {x y : Int64} (hd : decode cc pc = .ok (.lcmp, 1)) (k : z_W p l e R s m args below meth c Q s0 D cA n0 u0 (pc + 1) L (.int (lg_cmp x y) :: r) q) : z_W p l e R s m args below meth c Q s0 D cA n0 u0 pc L (.long y :: .long x :: r) q := fun H locs ls hR hf hl => W.lcmp hx hb hd (k H locs ls hR hf hl)
theorem zs_dup (hx : p.tables.exec = Jvm.exec) (hb : c.code = cc) {v : Value} (hv : v.category = 1) (hd : decode cc pc = .ok (.dup, 1)) (k : z_W p l e R s m args below meth c Q s0 D cA n0 u0 (pc + 1) L (v :: v :: r) q) : z_W p l e R s m args below meth c Q s0 D cA n0 u0 pc L (v :: r) q := fun H locs ls hR hf hl => lv_dup hx hb hd hv (k H locs ls hR hf hl)
theorem zs_pop (hx : p.tables.exec = Jvm.exec) (hb : c.code = cc) {v : Value} (hv : v.category = 1) (hd : decode cc pc = .ok (.pop, 1)) (k : z_W p l e R s m args below meth c Q s0 D cA n0 u0 (pc + 1) L (r) q) : z_W p l e R s m args below meth c Q s0 D cA n0 u0 pc L (v :: r) q := fun H locs ls hR hf hl => lv_pop hx hb hd hv (k H locs ls hR hf hl)
theorem zs_dup2 (hx : p.tables.exec = Jvm.exec) (hb : c.code = cc) {v w : Value} (hv : v.category = 1) (hw : w.category = 1) (hd : decode cc pc = .ok (.dup2, 1)) (k : z_W p l e R s m args below meth c Q s0 D cA n0 u0 (pc + 1) L (v :: w :: v :: w :: r) q) : z_W p l e R s m args below meth c Q s0 D cA n0 u0 pc L (v :: w :: r) q := fun H locs ls hR hf hl => lv_dup2_11 hx hb hd hv hw (k H locs ls hR hf hl)
theorem zs_to {o : Int} {t : zN} (h : z_to pc o L S q = some t) : (pc : Int) + o = (t.1 : Int) ∧ t.2 = (L, S, q) := by
  unfold z_to at h
  split at h
  next h0 => cases h; exact ⟨by simp; omega, rfl⟩
  next => cases h
theorem zs_br {b : Bool} {o : Int} {t : zN} {len : Nat} (h : z_br b pc len o L S q = some t) : (pc : Int) + o = ((((pc : Int) + o).toNat : Nat) : Int) ∧ t = (if b = true then ((pc : Int) + o).toNat else pc + len, L, S, q) := by
  unfold z_br at h
  split at h
  next h0 => cases h; exact ⟨by omega, rfl⟩
  next => cases h
theorem zs_if_eq (hx : p.tables.exec = Jvm.exec) (hb : c.code = cc) {x : Int32} {o : Int} {t : zN} (hd : decode cc pc = .ok (.ifCond .eq o, 3)) (h : z_br (z_cc .eq x 0) pc 3 o L r q = some t) (k : z_W p l e R s m args below meth c Q s0 D cA n0 u0 t.1 t.2.1 t.2.2.1 t.2.2.2) : z_W p l e R s m args below meth c Q s0 D cA n0 u0 pc L (.int x :: r) q := fun H locs ls hR hf hl => by
  obtain ⟨e1, rfl⟩ := zs_br h
  simp only at k
  refine lv_if_eq hx hb hd e1 (fun hc => ?_) (fun hc => ?_)
  · rw [if_pos (by simpa [z_cc] using hc)] at k
    exact k H locs ls hR hf hl
  · rw [if_neg (by simpa [z_cc] using hc)] at k
    exact k H locs ls hR hf hl
theorem zs_icmp_eq (hx : p.tables.exec = Jvm.exec) (hb : c.code = cc) {x y : Int32} {o : Int} {t : zN} (hd : decode cc pc = .ok (.if_icmp .eq o, 3)) (h : z_br (z_cc .eq x y) pc 3 o L r q = some t) (k : z_W p l e R s m args below meth c Q s0 D cA n0 u0 t.1 t.2.1 t.2.2.1 t.2.2.2) : z_W p l e R s m args below meth c Q s0 D cA n0 u0 pc L (.int y :: .int x :: r) q := fun H locs ls hR hf hl => by
  obtain ⟨e1, rfl⟩ := zs_br h
  simp only at k
  refine lv_icmp_eq hx hb hd e1 (fun hc => ?_) (fun hc => ?_)
  · rw [if_pos (by simpa [z_cc] using hc)] at k
    exact k H locs ls hR hf hl
  · rw [if_neg (by simpa [z_cc] using hc)] at k
    exact k H locs ls hR hf hl
theorem zs_if_ne (hx : p.tables.exec = Jvm.exec) (hb : c.code = cc) {x : Int32} {o : Int} {t : zN} (hd : decode cc pc = .ok (.ifCond .ne o, 3)) (h : z_br (z_cc .ne x 0) pc 3 o L r q = some t) (k : z_W p l e R s m args below meth c Q s0 D cA n0 u0 t.1 t.2.1 t.2.2.1 t.2.2.2) : z_W p l e R s m args below meth c Q s0 D cA n0 u0 pc L (.int x :: r) q := fun H locs ls hR hf hl => by
  obtain ⟨e1, rfl⟩ := zs_br h
  simp only at k
  refine lv_if_ne hx hb hd e1 (fun hc => ?_) (fun hc => ?_)
  · rw [if_pos (by simpa [z_cc] using hc)] at k
    exact k H locs ls hR hf hl
  · rw [if_neg (by simpa [z_cc] using hc)] at k
    exact k H locs ls hR hf hl
theorem zs_icmp_ne (hx : p.tables.exec = Jvm.exec) (hb : c.code = cc) {x y : Int32} {o : Int} {t : zN} (hd : decode cc pc = .ok (.if_icmp .ne o, 3)) (h : z_br (z_cc .ne x y) pc 3 o L r q = some t) (k : z_W p l e R s m args below meth c Q s0 D cA n0 u0 t.1 t.2.1 t.2.2.1 t.2.2.2) : z_W p l e R s m args below meth c Q s0 D cA n0 u0 pc L (.int y :: .int x :: r) q := fun H locs ls hR hf hl => by
  obtain ⟨e1, rfl⟩ := zs_br h
  simp only at k
  refine lv_icmp_ne hx hb hd e1 (fun hc => ?_) (fun hc => ?_)
  · rw [if_pos (by simpa [z_cc] using hc)] at k
    exact k H locs ls hR hf hl
  · rw [if_neg (by simpa [z_cc] using hc)] at k
    exact k H locs ls hR hf hl
theorem zs_if_lt (hx : p.tables.exec = Jvm.exec) (hb : c.code = cc) {x : Int32} {o : Int} {t : zN} (hd : decode cc pc = .ok (.ifCond .lt o, 3)) (h : z_br (z_cc .lt x 0) pc 3 o L r q = some t) (k : z_W p l e R s m args below meth c Q s0 D cA n0 u0 t.1 t.2.1 t.2.2.1 t.2.2.2) : z_W p l e R s m args below meth c Q s0 D cA n0 u0 pc L (.int x :: r) q := fun H locs ls hR hf hl => by
  obtain ⟨e1, rfl⟩ := zs_br h
  simp only at k
  refine lv_if_lt hx hb hd e1 (fun hc => ?_) (fun hc => ?_)
  · rw [if_pos (by simpa [z_cc] using hc)] at k
    exact k H locs ls hR hf hl
  · rw [if_neg (by simpa [z_cc] using hc)] at k
    exact k H locs ls hR hf hl
theorem zs_icmp_lt (hx : p.tables.exec = Jvm.exec) (hb : c.code = cc) {x y : Int32} {o : Int} {t : zN} (hd : decode cc pc = .ok (.if_icmp .lt o, 3)) (h : z_br (z_cc .lt x y) pc 3 o L r q = some t) (k : z_W p l e R s m args below meth c Q s0 D cA n0 u0 t.1 t.2.1 t.2.2.1 t.2.2.2) : z_W p l e R s m args below meth c Q s0 D cA n0 u0 pc L (.int y :: .int x :: r) q := fun H locs ls hR hf hl => by
  obtain ⟨e1, rfl⟩ := zs_br h
  simp only at k
  refine lv_icmp_lt hx hb hd e1 (fun hc => ?_) (fun hc => ?_)
  · rw [if_pos (by simpa [z_cc] using hc)] at k
    exact k H locs ls hR hf hl
  · rw [if_neg (by simpa [z_cc] using hc)] at k
    exact k H locs ls hR hf hl
theorem zs_if_ge (hx : p.tables.exec = Jvm.exec) (hb : c.code = cc) {x : Int32} {o : Int} {t : zN} (hd : decode cc pc = .ok (.ifCond .ge o, 3)) (h : z_br (z_cc .ge x 0) pc 3 o L r q = some t) (k : z_W p l e R s m args below meth c Q s0 D cA n0 u0 t.1 t.2.1 t.2.2.1 t.2.2.2) : z_W p l e R s m args below meth c Q s0 D cA n0 u0 pc L (.int x :: r) q := fun H locs ls hR hf hl => by
  obtain ⟨e1, rfl⟩ := zs_br h
  simp only at k
  refine lv_if_ge hx hb hd e1 (fun hc => ?_) (fun hc => ?_)
  · rw [if_pos (by simpa [z_cc] using hc)] at k
    exact k H locs ls hR hf hl
  · rw [if_neg (by simpa [z_cc] using hc)] at k
    exact k H locs ls hR hf hl
theorem zs_icmp_ge (hx : p.tables.exec = Jvm.exec) (hb : c.code = cc) {x y : Int32} {o : Int} {t : zN} (hd : decode cc pc = .ok (.if_icmp .ge o, 3)) (h : z_br (z_cc .ge x y) pc 3 o L r q = some t) (k : z_W p l e R s m args below meth c Q s0 D cA n0 u0 t.1 t.2.1 t.2.2.1 t.2.2.2) : z_W p l e R s m args below meth c Q s0 D cA n0 u0 pc L (.int y :: .int x :: r) q := fun H locs ls hR hf hl => by
  obtain ⟨e1, rfl⟩ := zs_br h
  simp only at k
  refine lv_icmp_ge hx hb hd e1 (fun hc => ?_) (fun hc => ?_)
  · rw [if_pos (by simpa [z_cc] using hc)] at k
    exact k H locs ls hR hf hl
  · rw [if_neg (by simpa [z_cc] using hc)] at k
    exact k H locs ls hR hf hl
theorem zs_if_gt (hx : p.tables.exec = Jvm.exec) (hb : c.code = cc) {x : Int32} {o : Int} {t : zN} (hd : decode cc pc = .ok (.ifCond .gt o, 3)) (h : z_br (z_cc .gt x 0) pc 3 o L r q = some t) (k : z_W p l e R s m args below meth c Q s0 D cA n0 u0 t.1 t.2.1 t.2.2.1 t.2.2.2) : z_W p l e R s m args below meth c Q s0 D cA n0 u0 pc L (.int x :: r) q := fun H locs ls hR hf hl => by
  obtain ⟨e1, rfl⟩ := zs_br h
  simp only at k
  refine lv_if_gt hx hb hd e1 (fun hc => ?_) (fun hc => ?_)
  · rw [if_pos (by simpa [z_cc] using hc)] at k
    exact k H locs ls hR hf hl
  · rw [if_neg (by simpa [z_cc] using hc)] at k
    exact k H locs ls hR hf hl
theorem zs_icmp_gt (hx : p.tables.exec = Jvm.exec) (hb : c.code = cc) {x y : Int32} {o : Int} {t : zN} (hd : decode cc pc = .ok (.if_icmp .gt o, 3)) (h : z_br (z_cc .gt x y) pc 3 o L r q = some t) (k : z_W p l e R s m args below meth c Q s0 D cA n0 u0 t.1 t.2.1 t.2.2.1 t.2.2.2) : z_W p l e R s m args below meth c Q s0 D cA n0 u0 pc L (.int y :: .int x :: r) q := fun H locs ls hR hf hl => by
  obtain ⟨e1, rfl⟩ := zs_br h
  simp only at k
  refine lv_icmp_gt hx hb hd e1 (fun hc => ?_) (fun hc => ?_)
  · rw [if_pos (by simpa [z_cc] using hc)] at k
    exact k H locs ls hR hf hl
  · rw [if_neg (by simpa [z_cc] using hc)] at k
    exact k H locs ls hR hf hl
theorem zs_if_le (hx : p.tables.exec = Jvm.exec) (hb : c.code = cc) {x : Int32} {o : Int} {t : zN} (hd : decode cc pc = .ok (.ifCond .le o, 3)) (h : z_br (z_cc .le x 0) pc 3 o L r q = some t) (k : z_W p l e R s m args below meth c Q s0 D cA n0 u0 t.1 t.2.1 t.2.2.1 t.2.2.2) : z_W p l e R s m args below meth c Q s0 D cA n0 u0 pc L (.int x :: r) q := fun H locs ls hR hf hl => by
  obtain ⟨e1, rfl⟩ := zs_br h
  simp only at k
  refine lv_if_le hx hb hd e1 (fun hc => ?_) (fun hc => ?_)
  · rw [if_pos (by simpa [z_cc] using hc)] at k
    exact k H locs ls hR hf hl
  · rw [if_neg (by simpa [z_cc] using hc)] at k
    exact k H locs ls hR hf hl
theorem zs_icmp_le (hx : p.tables.exec = Jvm.exec) (hb : c.code = cc) {x y : Int32} {o : Int} {t : zN} (hd : decode cc pc = .ok (.if_icmp .le o, 3)) (h : z_br (z_cc .le x y) pc 3 o L r q = some t) (k : z_W p l e R s m args below meth c Q s0 D cA n0 u0 t.1 t.2.1 t.2.2.1 t.2.2.2) : z_W p l e R s m args below meth c Q s0 D cA n0 u0 pc L (.int y :: .int x :: r) q := fun H locs ls hR hf hl => by
  obtain ⟨e1, rfl⟩ := zs_br h
  simp only at k
  refine lv_icmp_le hx hb hd e1 (fun hc => ?_) (fun hc => ?_)
  · rw [if_pos (by simpa [z_cc] using hc)] at k
    exact k H locs ls hR hf hl
  · rw [if_neg (by simpa [z_cc] using hc)] at k
    exact k H locs ls hR hf hl
theorem zs_acmp_eq (hx : p.tables.exec = Jvm.exec) (hb : c.code = cc) {v w : Value} (hv : v.isRef = true) (hw : w.isRef = true) {o : Int} {t : zN} (hd : decode cc pc = .ok (.if_acmp .eq o, 3)) (h : z_br (decide (v = w)) pc 3 o L r q = some t) (k : z_W p l e R s m args below meth c Q s0 D cA n0 u0 t.1 t.2.1 t.2.2.1 t.2.2.2) : z_W p l e R s m args below meth c Q s0 D cA n0 u0 pc L (w :: v :: r) q := fun H locs ls hR hf hl => by
  obtain ⟨e1, rfl⟩ := zs_br h
  simp only at k
  obtain ⟨rv, rfl⟩ : ∃ rv, v = va_rf rv := by
    cases v <;> first | exact ⟨none, rfl⟩ | exact ⟨some _, rfl⟩ | simp [Value.isRef] at hv
  obtain ⟨rw9, rfl⟩ : ∃ rw9, w = va_rf rw9 := by
    cases w <;> first | exact ⟨none, rfl⟩ | exact ⟨some _, rfl⟩ | simp [Value.isRef] at hw
  have hinj : va_rf rv = va_rf rw9 ↔ rv = rw9 := by cases rv <;> cases rw9 <;> simp [va_rf]
  refine lv_acmp_eq hx hb hd e1 (fun hc => ?_) (fun hc => ?_)
  · rw [if_pos (by simpa [hinj] using hc)] at k
    exact k H locs ls hR hf hl
  · rw [if_neg (by simpa [hinj] using hc)] at k
    exact k H locs ls hR hf hl
theorem zs_acmp_ne (hx : p.tables.exec = Jvm.exec) (hb : c.code = cc) {v w : Value} (hv : v.isRef = true) (hw : w.isRef = true) {o : Int} {t : zN} (hd : decode cc pc = .ok (.if_acmp .ne o, 3)) (h : z_br (!decide (v = w)) pc 3 o L r q = some t) (k : z_W p l e R s m args below meth c Q s0 D cA n0 u0 t.1 t.2.1 t.2.2.1 t.2.2.2) : z_W p l e R s m args below meth c Q s0 D cA n0 u0 pc L (w :: v :: r) q := fun H locs ls hR hf hl => by
  obtain ⟨e1, rfl⟩ := zs_br h
  simp only at k
  obtain ⟨rv, rfl⟩ : ∃ rv, v = va_rf rv := by
    cases v <;> first | exact ⟨none, rfl⟩ | exact ⟨some _, rfl⟩ | simp [Value.isRef] at hv
  obtain ⟨rw9, rfl⟩ : ∃ rw9, w = va_rf rw9 := by
    cases w <;> first | exact ⟨none, rfl⟩ | exact ⟨some _, rfl⟩ | simp [Value.isRef] at hw
  have hinj : va_rf rv = va_rf rw9 ↔ rv = rw9 := by cases rv <;> cases rw9 <;> simp [va_rf]
  refine lv_acmp_ne hx hb hd e1 (fun hc => ?_) (fun hc => ?_)
  · rw [if_pos (by simpa [hinj] using hc)] at k
    exact k H locs ls hR hf hl
  · rw [if_neg (by simpa [hinj] using hc)] at k
    exact k H locs ls hR hf hl
theorem zs_ifnull (hx : p.tables.exec = Jvm.exec) (hb : c.code = cc) {x : Nat} {o : Int} (hd : decode cc pc = .ok (.ifnull o, 3))  (k : z_W p l e R s m args below meth c Q s0 D cA n0 u0 (pc + 3) L r q) : z_W p l e R s m args below meth c Q s0 D cA n0 u0 pc L (.ref x :: r) q := fun H locs ls hR hf hl => by
  exact lv_ifnull hx hb hd (k H locs ls hR hf hl)
theorem zs_ifnullN (hx : p.tables.exec = Jvm.exec) (hb : c.code = cc) {o : Int} {t : zN} (hd : decode cc pc = .ok (.ifnull o, 3)) (h : z_to pc o L r q = some t) (k : z_W p l e R s m args below meth c Q s0 D cA n0 u0 t.1 t.2.1 t.2.2.1 t.2.2.2) : z_W p l e R s m args below meth c Q s0 D cA n0 u0 pc L (.null :: r) q := fun H locs ls hR hf hl => by
  obtain ⟨e1, e2⟩ := zs_to h
  obtain ⟨pc', t'⟩ := t
  simp only at e1 e2 k
  subst e2
  exact lv_ifnullN hx hb hd e1 (k H locs ls hR hf hl)
theorem zs_ifnonnull (hx : p.tables.exec = Jvm.exec) (hb : c.code = cc) {x : Nat} {o : Int} {t : zN} (hd : decode cc pc = .ok (.ifnonnull o, 3)) (h : z_to pc o L r q = some t) (k : z_W p l e R s m args below meth c Q s0 D cA n0 u0 t.1 t.2.1 t.2.2.1 t.2.2.2) : z_W p l e R s m args below meth c Q s0 D cA n0 u0 pc L (.ref x :: r) q := fun H locs ls hR hf hl => by
  obtain ⟨e1, e2⟩ := zs_to h
  obtain ⟨pc', t'⟩ := t
  simp only at e1 e2 k
  subst e2
  exact lv_ifnonnull hx hb hd e1 (k H locs ls hR hf hl)
theorem zs_ifnonnullN (hx : p.tables.exec = Jvm.exec) (hb : c.code = cc) {o : Int} (hd : decode cc pc = .ok (.ifnonnull o, 3))  (k : z_W p l e R s m args below meth c Q s0 D cA n0 u0 (pc + 3) L r q) : z_W p l e R s m args below meth c Q s0 D cA n0 u0 pc L (.null :: r) q := fun H locs ls hR hf hl => by
  exact lv_ifnonnullN hx hb hd (k H locs ls hR hf hl)
theorem zs_goto (hx : p.tables.exec = Jvm.exec) (hb : c.code = cc) {o : Int} {t : zN} (hd : decode cc pc = .ok (.goto o, 3)) (h : z_to pc o L S q = some t) (k : z_W p l e R s m args below meth c Q s0 D cA n0 u0 t.1 t.2.1 t.2.2.1 t.2.2.2) : z_W p l e R s m args below meth c Q s0 D cA n0 u0 pc L S q := fun H locs ls hR hf hl => by
  obtain ⟨e1, e2⟩ := zs_to h
  obtain ⟨pc', t'⟩ := t
  simp only at e1 e2 k
  subst e2
  exact lv_goto hx hb hd e1 (k H locs ls hR hf hl)
theorem zs_tableOut (hx : p.tables.exec = Jvm.exec) (hb : c.code = cc) {x : Int32} {dfl lo hi : Int} {offs : Array Int} {len : Nat} {t : zN} (hd : decode cc pc = .ok (.tableswitch dfl lo hi offs, len)) (hc : x.toInt < lo ∨ hi < x.toInt) (h : z_to pc dfl L r q = some t) (k : z_W p l e R s m args below meth c Q s0 D cA n0 u0 t.1 t.2.1 t.2.2.1 t.2.2.2) : z_W p l e R s m args below meth c Q s0 D cA n0 u0 pc L (.int x :: r) q := fun H locs ls hR hf hl => by
  obtain ⟨e1, e2⟩ := zs_to h
  obtain ⟨pc', t'⟩ := t
  simp only at e1 e2 k
  subst e2
  exact lv_tableOut hx hb hd hc e1 (k H locs ls hR hf hl)
theorem zs_tableIn (hx : p.tables.exec = Jvm.exec) (hb : c.code = cc) {x : Int32} {dfl lo hi o : Int} {offs : Array Int} {len : Nat} {t : zN} (hd : decode cc pc = .ok (.tableswitch dfl lo hi offs, len)) (hc : ¬ (x.toInt < lo ∨ hi < x.toInt)) (ho : offs[(x.toInt - lo).toNat]? = some o) (h : z_to pc o L r q = some t) (k : z_W p l e R s m args below meth c Q s0 D cA n0 u0 t.1 t.2.1 t.2.2.1 t.2.2.2) : z_W p l e R s m args below meth c Q s0 D cA n0 u0 pc L (.int x :: r) q := fun H locs ls hR hf hl => by
  obtain ⟨e1, e2⟩ := zs_to h
  obtain ⟨pc', t'⟩ := t
  simp only at e1 e2 k
  subst e2
  exact lv_tableIn hx hb hd (fun z => hc (Or.inl z)) (fun z => hc (Or.inr z)) ho e1 (k H locs ls hR hf hl)
end ZS
end
section
/-! INSTRUCTIONS THAT READ, WRITE OR MAKE -/
def z_tys (cA : Nat → ClassId) : List (ClassId × FieldType) := [(cA 100, zaty 100), (cA 101, zaty 101), (cA 102, zaty 102), (cA 103, zaty 103), (cA 104, zaty 104)]
theorem z_tys_at (cA : Nat → ClassId) {t : Nat} (h1 : 100 ≤ t) (h2 : t ≤ 104) : (z_tys cA)[t - 100]? = some (cA t, zaty t) := by
  obtain ⟨j, rfl⟩ := Nat.exists_eq_add_of_le h1
  have : j ≤ 4 := by omega
  rcases (show j = 0 ∨ j = 1 ∨ j = 2 ∨ j = 3 ∨ j = 4 by omega) with rfl | rfl | rfl | rfl | rfl <;> rfl
theorem z_arr_of {D : va_G} {cA : Nat → ClassId} {H : Heap} {a : Nat} {o : zO} (h : zo_R D cA H a o) (ht : 100 ≤ o.1) : 100 ≤ o.1 ∧ o.1 ≤ 104 ∧ H[a]? = some (arrV (cA o.1) o.2.1 o.2.2) := by
  rcases h with ⟨h9, -⟩ | h | ⟨h9, -⟩
  · omega
  · exact h
  · omega
theorem z_obj_of {D : va_G} {cA : Nat → ClassId} {H : Heap} {a : Nat} {o : zO} (h : zo_R D cA H a o) (ht : o.1 < 90) : ∃ r : vw_C, zcl[o.1]? = some r ∧ t_OB a (D.1 o.1) r.2.2 (D.2 o.1) H o.2.2 := by
  rcases h with ⟨-, h⟩ | ⟨h9, -⟩ | ⟨h9, -⟩
  · exact h
  · omega
  · omega
theorem z_nm : ∀ (i : Nat) (r : vw_C), zcl[i]? = some r → (∀ a, a < r.2.2 → ∀ b, b < r.2.2 → a ≠ b → (r.2.1 a).2.1 ≠ (r.2.1 b).2.1) ∧ ∀ k, k < r.2.2 → parseFieldDescriptor (r.2.1 k).2.2.1 = some (zty i k) := by
  intro i r h
  match i, h with
  | 0, h => cases h; exact ⟨nmX0, tyX0_ok⟩
  | 1, h => cases h; exact ⟨nmX1, tyX1_ok⟩
  | 2, h => cases h; exact ⟨nmX2, tyX2_ok⟩
  | 3, h => cases h; exact ⟨nmX3, tyX3_ok⟩
  | 4, h => cases h; exact ⟨nmX4, tyX4_ok⟩
  | 5, h => cases h; exact ⟨nmX5, tyX5_ok⟩
  | 6, h => cases h; exact ⟨nmX6, tyX6_ok⟩
  | 7, h => cases h; exact ⟨nmX8, tyX8_ok⟩
  | 8, h => cases h; exact ⟨nmX9, tyX9_ok⟩
  | 9, h => cases h; exact ⟨nmX10, tyX10_ok⟩
  | j + 10, h => simp [zcl] at h
section ZH
variable {p : Program} {l : Launch} {e : Env} {R : Room} {s : State} {m : MethodId} {args : Array Value} {below : List Frame} {meth : Method} {c : Code} {Q : State → Prop} {s0 : State} {D : va_G} {cA : Nat → ClassId} {n0 u0 : Nat}
variable {cc : ByteArray} {pc : Nat} {L : zL} {S r : List Value} {q : zS} {own : String}
theorem zs_getf (hx : p.tables.exec = Jvm.exec) (hb : c.code = cc) (hown : s.vm.findClass own = some m.cls) (hK : va_K D zcl (z_tys cA) s) (hlay : ∀ (i : Nat) (r : vw_C), zcl[i]? = some r → ∀ w ∈ u_ws r.1 r.2.1 r.2.2, w.before args s = true)
    {a k idx : Nat} {o : zO} (ha : q.1 a = some o) (h90 : o.1 < 90) {rr : vw_C} (hc : zcl[o.1]? = some rr) (hk : k < rr.2.2) (hlink : (Cond.fieldLink own idx (rr.2.1 k).1 (rr.2.1 k).2.1 (rr.2.1 k).2.2.1).before args s = true) (hd : decode cc pc = .ok (.getfield idx, 3))
    (kk : z_W p l e R s m args below meth c Q s0 D cA n0 u0 (pc + 3) L (o.2.2 k :: r) q) : z_W p l e R s m args below meth c Q s0 D cA n0 u0 pc L (.ref a :: r) q := fun H locs ls hR hf hl => by
  obtain ⟨r', h1, cell, q1, q2, q3, q4⟩ := z_obj_of (hR.2.2.2 a o ha).1 h90
  cases hc.symm.trans h1
  obtain ⟨hS, hfc, kC, hkC, hkind⟩ := hK.1 o.1 _ hc
  obtain ⟨cf, kf, fi, f, hi, hsl⟩ := hS k hk
  refine W.getf hx hb hown hlink hi (u_facts hfc hkC (u_lays (ws := u_ws rr.1 rr.2.1 rr.2.2) (hlay o.1 rr hc) (fun _ h => h) hk) hi).1 q1 (by rw [q3]; exact fun h => by cases h) (v := o.2.2 k) ?_ rfl rfl hd (kk H locs ls hR hf hl)
  rw [hsl]
  exact q4 k hk
/-- a field written: one that is not final, or one of the constructor's own -/
theorem zs_putf (hx : p.tables.exec = Jvm.exec) (hb : c.code = cc) (hown : s.vm.findClass own = some m.cls) (hK : va_K D zcl (z_tys cA) s) (hlay : ∀ (i : Nat) (r : vw_C), zcl[i]? = some r → ∀ w ∈ u_ws r.1 r.2.1 r.2.2, w.before args s = true)
    {a k idx : Nat} {o : zO} {v : Value} (ha : q.1 a = some o) (h90 : o.1 < 90) {rr : vw_C} (hc : zcl[o.1]? = some rr) (hk : k < rr.2.2) (hlink : (Cond.fieldLink own idx (rr.2.1 k).1 (rr.2.1 k).2.1 (rr.2.1 k).2.2.1).before args s = true)
    (hfin : (rr.2.1 k).2.2.2 = false ∨ (meth.name = "<init>" ∧ (rr.2.1 k).1 = own)) (hn : narrow (zty o.1 k) v = v) (hfit : fits (zty o.1 k) v = true) (hd : decode cc pc = .ok (.putfield idx, 3))
    (kk : z_W p l e R s m args below meth c Q s0 D cA n0 u0 (pc + 3) L r (z_up q.1 a (o.1, o.2.1, z_uf o.2.2 k v), q.2)) : z_W p l e R s m args below meth c Q s0 D cA n0 u0 pc L (v :: .ref a :: r) q := fun H locs ls hR hf hl => by
  have hge := (hR.2.2.2 a o ha).2 (by omega)
  obtain ⟨r', h1, cell, q1, q2, q3, q4⟩ := z_obj_of (hR.2.2.2 a o ha).1 h90
  cases hc.symm.trans h1
  obtain ⟨hnm, hty⟩ := z_nm o.1 rr hc
  have hap := va_apart (own := own) (hlay o.1 rr hc) (fun _ h => h) (zty o.1) hty hnm hK hc
  obtain ⟨hS, hfc, kC, hkC, hkind⟩ := hK.1 o.1 _ hc
  obtain ⟨cf, kf, fi, f, hi, hsl⟩ := hS k hk
  have hlays := u_lays (ws := u_ws rr.1 rr.2.1 rr.2.2) (hlay o.1 rr hc) (fun _ h => h) hk
  have hlay2 := hlay o.1 rr hc _ (u_in_lay hk)
  have hst := (u_facts hfc hkC hlays hi).1
  have hgo : ∀ H' : Heap, H'[a]? = some (cell.setSlot f.slot v) → H'.size = H.size → (∀ b, b ≠ a → H'[b]? = H[b]?) → W p l e R s m args below meth c H' (locs ++ [⟨a, f.slot⟩]) (q.2.1 - n0) (q.2.2 - u0) Q (F0 m (pc + 3) ls r) := by
    intro H' e1 e2 e3
    rw [hsl] at e1
    refine kk H' _ ls (hR.set ha (by omega) (Or.inl ⟨h90, rr, hc, ?_⟩) (by show o.1 ≠ 99; omega) e2 e3) ?_ hl
    · exact ⟨_, e1, q2, q3, t_set q4 hap hk v⟩
    · intro z hz
      rcases List.mem_append.mp hz with h | h
      · exact hf z h
      · rw [List.mem_singleton] at h
        subst h
        exact hge
  unfold u_lay at hlay2
  cases hfb : (rr.2.1 k).2.2.2 with
  | false =>
    rw [if_neg (by rw [hfb]; decide)] at hlay2
    have h6 := u_store hfc hkC hkind hlay2 hi (hty k hk) hn hfit
    exact W.putK hx hb (f := f) ⟨hown, hlink, ⟨_, _, _, hi⟩, hst⟩ (by rw [q2]; exact h6) q1 q3 (by rw [hsl]; exact k2_hasslot (q4 k hk)) rfl rfl hd hgo
  | true =>
    rw [if_pos hfb] at hlay2
    obtain ⟨hin2, hdecl⟩ : meth.name = "<init>" ∧ (rr.2.1 k).1 = own := by
      rcases hfin with h | h
      · rw [hfb] at h; cases h
      · exact h
    have hcf : m.cls = cf := by
      obtain ⟨_, _, c', _, _, _, -, -, hf', -, -, -, hown2, -⟩ := Cond.laysFinal_spec hlay2
      have e1 : c' = cf := by have := hi.symm.trans hf'; simp at this; exact this.1.symm
      rw [hdecl] at hown2
      rw [← e1]; exact Option.some.inj (hown.symm.trans hown2)
    have h6 := u_fits hfc hkC hkind (Or.inr hlay2) hi (hty k hk) hn hfit
    exact W.putFinK hx hb hown hlink hi hst hcf hin2 (by rw [q2]; exact h6) q1 q3 (by rw [hsl]; exact k2_hasslot (q4 k hk)) rfl rfl hd hgo
theorem z_arrs (hK : va_K D zcl (z_tys cA) s) {t : Nat} (h1 : 100 ≤ t) (h2 : t ≤ 104) (n : Nat) (f : Nat → Value) : s.isArrayOf (arrV (cA t) n f) (zaty t) := (hK.2 (t - 100) _ (z_tys_at cA h1 h2)).1 n f
theorem z_scr (h99 : ArrOfT s (cA 99) .int) {scr : Cell} (h1 : scr.cls = cA 99) (h2 : ∀ k, scr.vm ≠ .statics k) : s.isArrayOf scr .int := by
  obtain ⟨-, k, hk, comp, hkind⟩ := h99 0 (fun _ => .null)
  exact ⟨h2, k, by rw [h1]; exact hk, comp, hkind⟩
theorem zs_iald (hx : p.tables.exec = Jvm.exec) (hb : c.code = cc) (hK : va_K D zcl (z_tys cA) s) (h99 : ArrOfT s (cA 99) .int) {a : Nat} {o : zO} {j : Int32} (ha : q.1 a = some o) (ht : o.1 = 99 ∨ o.1 = 100) (hin : ¬ (j < 0 ∨ o.2.1 ≤ j.toNatClampNeg)) (hd : decode cc pc = .ok (.iaload, 1))
    (kk : z_W p l e R s m args below meth c Q s0 D cA n0 u0 (pc + 1) L (o.2.2 j.toNatClampNeg :: r) q) : z_W p l e R s m args below meth c Q s0 D cA n0 u0 pc L (.int j :: .ref a :: r) q := fun H locs ls hR hf hl => by
  have hlt : j.toNatClampNeg < o.2.1 := Nat.not_le.mp fun z => hin (Or.inr z)
  rcases ht with ht | ht
  · rcases (hR.2.2.2 a o ha).1 with ⟨h9, -⟩ | ⟨h9, -⟩ | ⟨-, scr, q1, q2, q3, q4, q5, q6⟩
    · omega
    · omega
    · exact W.iald hx hb q1 (z_scr h99 q2 q3) q4 (by rw [q5]; exact hin) (q6 _ hlt) rfl rfl hd (kk H locs ls hR hf hl)
  obtain ⟨h1, h2, h3⟩ := z_arr_of (hR.2.2.2 a o ha).1 (by omega)
  have ha9 := z_arrs hK h1 h2 o.2.1 o.2.2
  have hty : zaty o.1 = .int := by rw [ht]; rfl
  rw [hty] at ha9
  exact W.iald hx hb h3 ha9 (fun h => by cases h) (by rw [arrV_size]; exact hin) (arrV_read _ _ hlt) rfl rfl hd (kk H locs ls hR hf hl)
theorem zs_lald (hx : p.tables.exec = Jvm.exec) (hb : c.code = cc) (hK : va_K D zcl (z_tys cA) s) {a : Nat} {o : zO} {j : Int32} (ha : q.1 a = some o) (ht : o.1 = 101) (hin : ¬ (j < 0 ∨ o.2.1 ≤ j.toNatClampNeg)) (hd : decode cc pc = .ok (.laload, 1))
    (kk : z_W p l e R s m args below meth c Q s0 D cA n0 u0 (pc + 1) L (o.2.2 j.toNatClampNeg :: r) q) : z_W p l e R s m args below meth c Q s0 D cA n0 u0 pc L (.int j :: .ref a :: r) q := fun H locs ls hR hf hl => by
  obtain ⟨h1, h2, h3⟩ := z_arr_of (hR.2.2.2 a o ha).1 (by omega)
  have hlt : j.toNatClampNeg < o.2.1 := Nat.not_le.mp fun z => hin (Or.inr z)
  have ha9 := z_arrs hK h1 h2 o.2.1 o.2.2
  have hty : zaty o.1 = .long := by rw [ht]; rfl
  rw [hty] at ha9
  exact W.lald hx hb h3 ha9 (fun h => by cases h) (by rw [arrV_size]; exact hin) (arrV_read _ _ hlt) rfl rfl hd (kk H locs ls hR hf hl)
theorem zs_bald (hx : p.tables.exec = Jvm.exec) (hb : c.code = cc) (hK : va_K D zcl (z_tys cA) s) {a : Nat} {o : zO} {j : Int32} (ha : q.1 a = some o) (ht : o.1 = 102) (hin : ¬ (j < 0 ∨ o.2.1 ≤ j.toNatClampNeg)) (hd : decode cc pc = .ok (.baload, 1))
    (kk : z_W p l e R s m args below meth c Q s0 D cA n0 u0 (pc + 1) L (o.2.2 j.toNatClampNeg :: r) q) : z_W p l e R s m args below meth c Q s0 D cA n0 u0 pc L (.int j :: .ref a :: r) q := fun H locs ls hR hf hl => by
  obtain ⟨h1, h2, h3⟩ := z_arr_of (hR.2.2.2 a o ha).1 (by omega)
  have hlt : j.toNatClampNeg < o.2.1 := Nat.not_le.mp fun z => hin (Or.inr z)
  have ha9 := z_arrs hK h1 h2 o.2.1 o.2.2
  have hty : zaty o.1 = .boolean := by rw [ht]; rfl
  rw [hty] at ha9
  exact W.zald hx hb h3 ha9 (fun h => by cases h) (by rw [arrV_size]; exact hin) (arrV_read _ _ hlt) rfl rfl hd (kk H locs ls hR hf hl)
theorem zs_aald (hx : p.tables.exec = Jvm.exec) (hb : c.code = cc) (hK : va_K D zcl (z_tys cA) s) {a : Nat} {o : zO} {j : Int32} (ha : q.1 a = some o) (ht : o.1 = 103 ∨ o.1 = 104) (hin : ¬ (j < 0 ∨ o.2.1 ≤ j.toNatClampNeg)) (hd : decode cc pc = .ok (.aaload, 1))
    (kk : z_W p l e R s m args below meth c Q s0 D cA n0 u0 (pc + 1) L (o.2.2 j.toNatClampNeg :: r) q) : z_W p l e R s m args below meth c Q s0 D cA n0 u0 pc L (.int j :: .ref a :: r) q := fun H locs ls hR hf hl => by
  obtain ⟨h1, h2, h3⟩ := z_arr_of (hR.2.2.2 a o ha).1 (by omega)
  have hlt : j.toNatClampNeg < o.2.1 := Nat.not_le.mp fun z => hin (Or.inr z)
  exact W.aald hx hb h3 (z_arrs hK h1 h2 o.2.1 o.2.2) (by rcases ht with h | h <;> rw [h] <;> rfl) (fun h => by cases h) (by rw [arrV_size]; exact hin) (arrV_read _ _ hlt) rfl rfl hd (kk H locs ls hR hf hl)
theorem zs_alen (hx : p.tables.exec = Jvm.exec) (hb : c.code = cc) (hK : va_K D zcl (z_tys cA) s) (h99 : ArrOfT s (cA 99) .int) {a : Nat} {o : zO} (ha : q.1 a = some o) (ht : 99 ≤ o.1) (hd : decode cc pc = .ok (.arraylength, 1))
    (kk : z_W p l e R s m args below meth c Q s0 D cA n0 u0 (pc + 1) L (.int o.2.1.toInt32 :: r) q) : z_W p l e R s m args below meth c Q s0 D cA n0 u0 pc L (.ref a :: r) q := fun H locs ls hR hf hl => by
  rcases (hR.2.2.2 a o ha).1 with ⟨h9, -⟩ | h9 | ⟨-, scr, q1, q2, q3, q4, q5, q6⟩
  · omega
  rotate_left
  · exact W.alen hx hb q1 (z_scr h99 q2 q3) (by rw [q5]) rfl rfl hd (kk H locs ls hR hf hl)
  obtain ⟨h1, h2, h3⟩ := h9
  exact W.alen hx hb h3 (z_arrs hK h1 h2 o.2.1 o.2.2) (by rw [arrV_size]) rfl rfl hd (kk H locs ls hR hf hl)
/-- behind a store into an array -/
theorem z_stored {a : Nat} {o : zO} {i : Nat} {v : Value} {H H' : Heap} {locs : List Loc} (hR : z_R s0 D cA q H) (hf : ∀ z ∈ locs, s0.heap.size ≤ z.base) (ha : q.1 a = some o) (ht : 100 ≤ o.1) (e1 : H'[a]? = some ((arrV (cA o.1) o.2.1 o.2.2).setSlot i v)) (e2 : H'.size = H.size) (e3 : ∀ b, b ≠ a → H'[b]? = H[b]?) :
    z_R s0 D cA (z_up q.1 a (o.1, o.2.1, z_uf o.2.2 i v), q.2) H' ∧ ∀ z ∈ locs ++ [(⟨a, i⟩ : Loc)], s0.heap.size ≤ z.base := by
  have hge := (hR.2.2.2 a o ha).2 (by omega)
  obtain ⟨h1, h2, h3⟩ := z_arr_of (hR.2.2.2 a o ha).1 (by omega)
  refine ⟨hR.set ha (by omega) (Or.inr (Or.inl ⟨h1, h2, ?_⟩)) (by show o.1 ≠ 99; omega) e2 e3, fun z hz => ?_⟩
  · rw [e1, arrV_store]
    rfl
  · rcases List.mem_append.mp hz with h | h
    · exact hf z h
    · rw [List.mem_singleton] at h
      subst h
      exact hge
theorem zs_iast (hx : p.tables.exec = Jvm.exec) (hb : c.code = cc) (hK : va_K D zcl (z_tys cA) s) {a : Nat} {o : zO} {j v : Int32} (ha : q.1 a = some o) (ht : o.1 = 100) (hin : ¬ (j < 0 ∨ o.2.1 ≤ j.toNatClampNeg)) (hd : decode cc pc = .ok (.iastore, 1))
    (kk : z_W p l e R s m args below meth c Q s0 D cA n0 u0 (pc + 1) L r (z_up q.1 a (o.1, o.2.1, z_uf o.2.2 j.toNatClampNeg (.int v)), q.2)) : z_W p l e R s m args below meth c Q s0 D cA n0 u0 pc L (.int v :: .int j :: .ref a :: r) q := fun H locs ls hR hf hl => by
  obtain ⟨h1, h2, h3⟩ := z_arr_of (hR.2.2.2 a o ha).1 (by omega)
  have ha9 := z_arrs hK h1 h2 o.2.1 o.2.2
  have hty : zaty o.1 = .int := by rw [ht]; rfl
  rw [hty] at ha9
  refine W.iast hx hb h3 ha9 (fun h => by cases h) (by rw [arrV_size]; exact hin) rfl rfl hd fun H' e1 e2 e3 => ?_
  obtain ⟨g1, g2⟩ := z_stored hR hf ha (by omega) e1 e2 e3
  exact kk H' _ ls g1 g2 hl
theorem zs_last (hx : p.tables.exec = Jvm.exec) (hb : c.code = cc) (hK : va_K D zcl (z_tys cA) s) {a : Nat} {o : zO} {j : Int32} {v : Int64} (ha : q.1 a = some o) (ht : o.1 = 101) (hin : ¬ (j < 0 ∨ o.2.1 ≤ j.toNatClampNeg)) (hd : decode cc pc = .ok (.lastore, 1))
    (kk : z_W p l e R s m args below meth c Q s0 D cA n0 u0 (pc + 1) L r (z_up q.1 a (o.1, o.2.1, z_uf o.2.2 j.toNatClampNeg (.long v)), q.2)) : z_W p l e R s m args below meth c Q s0 D cA n0 u0 pc L (.long v :: .int j :: .ref a :: r) q := fun H locs ls hR hf hl => by
  obtain ⟨h1, h2, h3⟩ := z_arr_of (hR.2.2.2 a o ha).1 (by omega)
  have ha9 := z_arrs hK h1 h2 o.2.1 o.2.2
  have hty : zaty o.1 = .long := by rw [ht]; rfl
  rw [hty] at ha9
  refine W.last hx hb h3 ha9 (fun h => by cases h) (by rw [arrV_size]; exact hin) rfl rfl hd fun H' e1 e2 e3 => ?_
  obtain ⟨g1, g2⟩ := z_stored hR hf ha (by omega) e1 e2 e3
  exact kk H' _ ls g1 g2 hl
theorem zs_bast (hx : p.tables.exec = Jvm.exec) (hb : c.code = cc) (hK : va_K D zcl (z_tys cA) s) {a : Nat} {o : zO} {j v : Int32} (ha : q.1 a = some o) (ht : o.1 = 102) (hin : ¬ (j < 0 ∨ o.2.1 ≤ j.toNatClampNeg)) (hd : decode cc pc = .ok (.bastore, 1))
    (kk : z_W p l e R s m args below meth c Q s0 D cA n0 u0 (pc + 1) L r (z_up q.1 a (o.1, o.2.1, z_uf o.2.2 j.toNatClampNeg (narrow .boolean (.int v))), q.2)) : z_W p l e R s m args below meth c Q s0 D cA n0 u0 pc L (.int v :: .int j :: .ref a :: r) q := fun H locs ls hR hf hl => by
  obtain ⟨h1, h2, h3⟩ := z_arr_of (hR.2.2.2 a o ha).1 (by omega)
  have ha9 := z_arrs hK h1 h2 o.2.1 o.2.2
  have hty : zaty o.1 = .boolean := by rw [ht]; rfl
  rw [hty] at ha9
  refine W.zast hx hb h3 ha9 (fun h => by cases h) (by rw [arrV_size]; exact hin) rfl rfl hd fun H' e1 e2 e3 => ?_
  obtain ⟨g1, g2⟩ := z_stored hR hf ha (by omega) e1 e2 e3
  exact kk H' _ ls g1 g2 hl
theorem zs_aastN (hx : p.tables.exec = Jvm.exec) (hb : c.code = cc) (hK : va_K D zcl (z_tys cA) s) {a : Nat} {o : zO} {j : Int32} (ha : q.1 a = some o) (ht : o.1 = 103 ∨ o.1 = 104) (hin : ¬ (j < 0 ∨ o.2.1 ≤ j.toNatClampNeg)) (hd : decode cc pc = .ok (.aastore, 1))
    (kk : z_W p l e R s m args below meth c Q s0 D cA n0 u0 (pc + 1) L r (z_up q.1 a (o.1, o.2.1, z_uf o.2.2 j.toNatClampNeg .null), q.2)) : z_W p l e R s m args below meth c Q s0 D cA n0 u0 pc L (.null :: .int j :: .ref a :: r) q := fun H locs ls hR hf hl => by
  obtain ⟨h1, h2, h3⟩ := z_arr_of (hR.2.2.2 a o ha).1 (by omega)
  have ha9 := z_arrs hK h1 h2 o.2.1 o.2.2
  obtain ⟨C, hty⟩ : ∃ C, zaty o.1 = .object C := by rcases ht with h | h <;> rw [h] <;> exact ⟨_, rfl⟩
  rw [hty] at ha9
  refine va_WaastN hx hb h3 ha9 (fun h => by cases h) (by rw [arrV_size]; exact hin) rfl rfl hd fun H' e1 e2 e3 => ?_
  obtain ⟨g1, g2⟩ := z_stored hR hf ha (by omega) e1 e2 e3
  exact kk H' _ ls g1 g2 hl
/-- a thing into an array of things: its class is one that the array takes -/
theorem zs_aast (hx : p.tables.exec = Jvm.exec) (hb : c.code = cc) (hK : va_K D zcl (z_tys cA) s) (hcst : ∀ i ∈ zth, ∀ rr : vw_C, zcl[i]? = some rr → va_Nw (.castable rr.1 "ProcessorHouse$Thing") s) {a b : Nat} {o o2 : zO} {j : Int32} (ha : q.1 a = some o) (hv : q.1 b = some o2)
    (ht : (o.1 = 103 ∧ o2.1 ∈ zth) ∨ (o.1 = 104 ∧ o2.1 = 7)) (hin : ¬ (j < 0 ∨ o.2.1 ≤ j.toNatClampNeg)) (hd : decode cc pc = .ok (.aastore, 1))
    (kk : z_W p l e R s m args below meth c Q s0 D cA n0 u0 (pc + 1) L r (z_up q.1 a (o.1, o.2.1, z_uf o.2.2 j.toNatClampNeg (.ref b)), q.2)) : z_W p l e R s m args below meth c Q s0 D cA n0 u0 pc L (.ref b :: .int j :: .ref a :: r) q := fun H locs ls hR hf hl => by
  obtain ⟨h1, h2, h3⟩ := z_arr_of (hR.2.2.2 a o ha).1 (by omega)
  have hlt : j.toNatClampNeg < o.2.1 := Nat.not_le.mp fun z => hin (Or.inr z)
  have h0 : ¬ j < 0 := fun z => hin (Or.inl z)
  have h90 : o2.1 < 90 := by
    rcases ht with ⟨-, h⟩ | ⟨-, h⟩
    · simp [zth] at h; omega
    · omega
  obtain ⟨rr, hrr, cellV, g1, g2, g3, -⟩ := z_obj_of (hR.2.2.2 b o2 hv).1 h90
  have hcls := (hK.1 o2.1 rr hrr).2
  obtain ⟨kC, hkC, -⟩ := hcls.2
  have hRA := (hK.2 (o.1 - 100) _ (z_tys_at cA h1 h2)).2
  have hgo : ∀ (kA : Class) (comp : ClassId) (C : String), s.vm.classes[cA o.1]? = some kA → kA.kind = .array comp (.object C) → s.vm.findClass C = some comp → s.vm.assignable (D.1 o2.1) comp = true → W p l e R s m args below meth c H locs (q.2.1 - n0) (q.2.2 - u0) Q (F0 m pc ls (.ref b :: .int j :: .ref a :: r)) := by
    intro kA comp C k1 k2 k3 k4
    obtain ⟨kcomp, hkcomp, -⟩ := Vm.findClass_spec k3
    refine W.aast hx hb h3 (fun z h => by cases h) (fun h => by cases h) k1 k2 rfl hkcomp ⟨h0, by rw [arrV_size]; exact hlt⟩ g1 (fun z h => by rw [g3] at h; cases h) (by rw [g2]; exact hkC) (by rw [g2]; exact k4) rfl rfl hd fun H' e1 e2 e3 => ?_
    obtain ⟨w1, w2⟩ := z_stored hR hf ha (by omega) e1 e2 e3
    exact kk H' _ ls w1 w2 hl
  rcases ht with ⟨ht, hz⟩ | ⟨ht, hz⟩
  · rw [show zaty o.1 = .object "ProcessorHouse$Thing" by rw [ht]; rfl] at hRA
    obtain ⟨kA, comp, k1, k2, k3, -⟩ := hRA
    obtain ⟨c3, c4, hc3, hc4, hasg⟩ := Cond.castable_spec (va_Nw.use (A := args) rfl (hcst o2.1 hz rr hrr))
    cases Option.some.inj (hc3.symm.trans hcls.1)
    cases Option.some.inj (hc4.symm.trans k3)
    exact hgo kA comp _ k1 k2 k3 hasg
  · rw [show zaty o.1 = .object "ProcessorHouse$Word" by rw [ht]; rfl] at hRA
    obtain ⟨kA, comp, k1, k2, k3, -⟩ := hRA
    rw [hz] at hrr
    cases hrr
    have : comp = D.1 o2.1 := Option.some.inj (k3.symm.trans hcls.1)
    subst this
    exact hgo kA _ _ k1 k2 k3 (va_assign hcls)
theorem z_cs {H : Heap} {locs : List Loc} {g : JFrame} {k1 k2 w1 w2 : Nat} (h1 : k1 = w1) (h2 : k2 = w2) (h : W p l e R s m args below meth c H locs w1 w2 Q g) : W p l e R s m args below meth c H locs k1 k2 Q g := by
  subst h1; subst h2; exact h
theorem zs_new (hx : p.tables.exec = Jvm.exec) (hb : c.code = cc) (hown : s.vm.findClass own = some m.cls) (hK : va_K D zcl (z_tys cA) s) (hlay : ∀ (i : Nat) (r : vw_C), zcl[i]? = some r → ∀ w ∈ u_ws r.1 r.2.1 r.2.2, w.before args s = true)
    {i idx : Nat} {rr : vw_C} (h90 : i < 90) (hc : zcl[i]? = some rr) (hcl : (Cond.classLink own idx rr.1).before args s = true) (hinst : (Cond.instantiable rr.1 rr.2.2).before args s = true) (hini : (Cond.initialized rr.1).before args s = true)
    (hn0 : n0 ≤ q.2.1) (hu0 : u0 ≤ q.2.2) (hrc : q.2.1 + 1 - n0 ≤ R.cells) (hrs : q.2.2 + rr.2.2 - u0 ≤ R.slots) (hd : decode cc pc = .ok (.new idx, 3))
    (kk : z_W p l e R s m args below meth c Q s0 D cA n0 u0 (pc + 3) L (.ref q.2.1 :: S) (z_new i rr.2.2 (fun k => defaultValue (zty i k)) q)) : z_W p l e R s m args below meth c Q s0 D cA n0 u0 pc L S q := fun H locs ls hR hf hl => by
  have hKn := hK.1 i rr hc
  refine W.newcK hx hb hown hcl hinst hini rfl hd (by omega) (by omega) hKn.2.1 rfl fun H1 kC hkC e1 z1 o1 => ?_
  have hb9 := u_born (zty i) (hlay i rr hc) (fun _ h => h) hKn hkC e1 (z_nm i rr hc).2
  have hw := kk H1 locs ls (hR.new (Or.inl ⟨h90, rr, hc, hb9⟩) z1 o1) hf hl
  rw [hR.2.2.1]
  refine z_cs ?_ ?_ hw
  · show q.2.1 - n0 + 1 = q.2.1 + 1 - n0; omega
  · show q.2.2 - u0 + rr.2.2 = q.2.2 + rr.2.2 - u0; omega
theorem zs_newa (hx : p.tables.exec = Jvm.exec) (hb : c.code = cc) (hK : va_K D zcl (z_tys cA) s) {at9 : ArrayType} {n : Int32} {t : Nat × Value × Nat} (hat : z_aty at9 = some t) (harr : (Cond.arrayClass (newarray.typeOf at9)).before args s = true) (hn : ¬ n < 0) (hby : n.toNatClampNeg * t.2.2 ≤ 536870912)
    (hn0 : n0 ≤ q.2.1) (hu0 : u0 ≤ q.2.2) (hrc : q.2.1 + 1 - n0 ≤ R.cells) (hrs : q.2.2 + n.toNatClampNeg - u0 ≤ R.slots) (hd : decode cc pc = .ok (.newarray at9, 2))
    (kk : z_W p l e R s m args below meth c Q s0 D cA n0 u0 (pc + 2) L (.ref q.2.1 :: r) (z_new t.1 n.toNatClampNeg (fun _ => t.2.1) q)) : z_W p l e R s m args below meth c Q s0 D cA n0 u0 pc L (.int n :: r) q := fun H locs ls hR hf hl => by
  have ht : 100 ≤ t.1 ∧ t.1 ≤ 104 ∧ zaty t.1 = newarray.typeOf at9 ∧ t.2.1 = defaultValue (newarray.typeOf at9) ∧ t.2.2 = componentBytes (newarray.typeOf at9) ∧ zaty t.1 ≠ .object "" := by
    cases at9 <;> simp [z_aty] at hat <;> subst hat <;> refine ⟨by decide, by decide, rfl, rfl, rfl, ?_⟩ <;> (intro h; cases h)
  obtain ⟨t1, t2, t3, t4, t5, -⟩ := ht
  refine W.newa hx hb harr rfl hd rfl hn (by rw [← t5]; exact hby) (by omega) (by omega) fun cA9 kA comp g1 g2 g3 => ?_
  have hRA := (hK.2 (t.1 - 100) _ (z_tys_at cA (by omega) t2)).2
  have hcA : cA t.1 = cA9 := by
    rw [t3] at hRA
    have h9 : s.vm.findClass ("[" ++ (newarray.typeOf at9).toString) = some (cA t.1) := by cases at9 <;> exact hRA
    exact Option.some.inj (h9.symm.trans g1)
  have e1 : (H.push { cls := cA9, slots := Array.replicate n.toNatClampNeg (defaultValue (newarray.typeOf at9)), vm := .none })[H.size]? = some (arrV (cA t.1) n.toNatClampNeg (fun _ => t.2.1)) := by
    rw [hcA, t4, ← arrV_new]; simp
  have hw := kk (H.push { cls := cA9, slots := Array.replicate n.toNatClampNeg (defaultValue (newarray.typeOf at9)), vm := .none }) locs ls (hR.new (Or.inr (Or.inl ⟨by show 100 ≤ t.1; omega, t2, e1⟩)) (by simp) (fun b hb9 => by rw [Array.getElem?_push, if_neg (Nat.ne_of_lt hb9)])) hf hl
  rw [hR.2.2.1]
  refine z_cs ?_ ?_ hw
  · show q.2.1 - n0 + 1 = q.2.1 + 1 - n0; omega
  · show q.2.2 - u0 + n.toNatClampNeg = q.2.2 + n.toNatClampNeg - u0; omega
theorem zs_anew (hx : p.tables.exec = Jvm.exec) (hb : c.code = cc) (hown : s.vm.findClass own = some m.cls) (hK : va_K D zcl (z_tys cA) s) {t idx : Nat} {C : String} {n : Int32} (ht : t = 103 ∨ t = 104) (hC : zaty t = .object C) (hclink : (Cond.classLink own idx C).before args s = true) (hover : (Cond.arrayOver (.object C)).before args s = true) (hn : ¬ n < 0) (hby : n.toNatClampNeg * 4 ≤ 536870912)
    (hn0 : n0 ≤ q.2.1) (hu0 : u0 ≤ q.2.2) (hrc : q.2.1 + 1 - n0 ≤ R.cells) (hrs : q.2.2 + n.toNatClampNeg - u0 ≤ R.slots) (hd : decode cc pc = .ok (.anewarray idx, 3))
    (kk : z_W p l e R s m args below meth c Q s0 D cA n0 u0 (pc + 3) L (.ref q.2.1 :: r) (z_new t n.toNatClampNeg (fun _ => .null) q)) : z_W p l e R s m args below meth c Q s0 D cA n0 u0 pc L (.int n :: r) q := fun H locs ls hR hf hl => by
  refine W.anew hx hb hown hclink hover rfl hd rfl hn hby (by omega) (by omega) fun cA9 kA comp g1 g2 g3 g4 => ?_
  have hRA := (hK.2 (t - 100) _ (z_tys_at cA (by omega) (by omega))).2
  rw [hC] at hRA
  obtain ⟨_, _, -, -, -, h9⟩ := hRA
  have hcA : cA t = cA9 := Option.some.inj (h9.symm.trans g1)
  have e1 : (H.push { cls := cA9, slots := Array.replicate n.toNatClampNeg .null, vm := .none })[H.size]? = some (arrV (cA t) n.toNatClampNeg (fun _ => .null)) := by
    rw [hcA, ← arrV_new]; simp
  have hw := kk (H.push { cls := cA9, slots := Array.replicate n.toNatClampNeg .null, vm := .none }) locs ls (hR.new (Or.inr (Or.inl ⟨by show 100 ≤ t; omega, by show t ≤ 104; omega, e1⟩)) (by simp) (fun b hb9 => by rw [Array.getElem?_push, if_neg (Nat.ne_of_lt hb9)])) hf hl
  rw [hR.2.2.1]
  refine z_cs ?_ ?_ hw
  · show q.2.1 - n0 + 1 = q.2.1 + 1 - n0; omega
  · show q.2.2 - u0 + n.toNatClampNeg = q.2.2 + n.toNatClampNeg - u0; omega
end ZH
end
section
/-! CONSTANTS, CASTS, Object's constructor, System.arraycopy, throws, answers -/
def zex : Nat → String := fun e => match e with
  | 0 => "java/lang/IllegalStateException"
  | 1 => "java/lang/IllegalArgumentException"
  | 2 => "java/lang/UnsupportedOperationException"
  | _ => "java/lang/IndexOutOfBoundsException"
/-- where a method may write: what came since the law began -/
def z_free (s0 : State) : Addr → Prop := fun a => s0.heap.size ≤ a
section ZM
variable {p : Program} {l : Launch} {e : Env} {R : Room} {s : State} {m : MethodId} {args : Array Value} {below : List Frame} {meth : Method} {c : Code} {Q : State → Prop} {s0 : State} {D : va_G} {cA : Nat → ClassId} {n0 u0 : Nat}
variable {cc : ByteArray} {pc : Nat} {L : zL} {S r : List Value} {q : zS} {own : String}
theorem zs_ldc (hx : p.tables.exec = Jvm.exec) (hb : c.code = cc) (hown : s.vm.findClass own = some m.cls) {idx : Nat} {v : Int32} (hc : (Cond.constant own idx v).before args s = true) (hd : decode cc pc = .ok (.ldc idx, 2))
    (k : z_W p l e R s m args below meth c Q s0 D cA n0 u0 (pc + 2) L (.int v :: S) q) : z_W p l e R s m args below meth c Q s0 D cA n0 u0 pc L S q := fun H locs ls hR hf hl => lv_ldc hx hb hown hc hd (k H locs ls hR hf hl)
theorem zs_ldc2 (hx : p.tables.exec = Jvm.exec) (hb : c.code = cc) (hown : s.vm.findClass own = some m.cls) {idx : Nat} {v : Int64} (hc : (Cond.constantLong own idx v).before args s = true) (hd : decode cc pc = .ok (.ldc2_w idx, 3))
    (k : z_W p l e R s m args below meth c Q s0 D cA n0 u0 (pc + 3) L (.long v :: S) q) : z_W p l e R s m args below meth c Q s0 D cA n0 u0 pc L S q := fun H locs ls hR hf hl => lv_ldc2 hx hb hown hc hd (k H locs ls hR hf hl)
theorem z_is (hK : va_K D zcl (z_tys cA) s) {H : Heap} (hR : z_R s0 D cA q H) {a : Nat} {o : zO} (ha : q.1 a = some o) (h90 : o.1 < 90) {rr : vw_C} (hc : zcl[o.1]? = some rr) : ∃ cell : Cell, H[a]? = some cell ∧ cell.vm.isStatics = false ∧ s.vm.findClass rr.1 = some cell.cls := by
  obtain ⟨r', h1, cell, q1, q2, q3, q4⟩ := z_obj_of (hR.2.2.2 a o ha).1 h90
  cases hc.symm.trans h1
  exact ⟨cell, q1, by rw [q3]; rfl, by rw [q2]; exact (hK.1 o.1 rr hc).2.1⟩
theorem zs_castY (hx : p.tables.exec = Jvm.exec) (hb : c.code = cc) (hown : s.vm.findClass own = some m.cls) (hK : va_K D zcl (z_tys cA) s) {a idx : Nat} {o : zO} (ha : q.1 a = some o) (h90 : o.1 < 90) {rr : vw_C} (hc : zcl[o.1]? = some rr) (hlink : (Cond.classLink own idx rr.1).before args s = true) (hd : decode cc pc = .ok (.checkcast idx, 3))
    (k : z_W p l e R s m args below meth c Q s0 D cA n0 u0 (pc + 3) L (.ref a :: r) q) : z_W p l e R s m args below meth c Q s0 D cA n0 u0 pc L (.ref a :: r) q := fun H locs ls hR hf hl => va_castS hx hb hown hlink (hK.1 o.1 rr hc).2 (z_is hK hR ha h90 hc) hd (k H locs ls hR hf hl)
theorem zs_castN (hx : p.tables.exec = Jvm.exec) (hb : c.code = cc) {idx : Nat} (hd : decode cc pc = .ok (.checkcast idx, 3))
    (k : z_W p l e R s m args below meth c Q s0 D cA n0 u0 (pc + 3) L (.null :: r) q) : z_W p l e R s m args below meth c Q s0 D cA n0 u0 pc L (.null :: r) q := fun H locs ls hR hf hl => lv_castN hx hb hd (k H locs ls hR hf hl)
theorem zs_instY (hx : p.tables.exec = Jvm.exec) (hb : c.code = cc) (hown : s.vm.findClass own = some m.cls) (hK : va_K D zcl (z_tys cA) s) {a idx : Nat} {o : zO} (ha : q.1 a = some o) (h90 : o.1 < 90) {rr : vw_C} (hc : zcl[o.1]? = some rr) (hlink : (Cond.classLink own idx rr.1).before args s = true) (hd : decode cc pc = .ok (.instanceof idx, 3))
    (k : z_W p l e R s m args below meth c Q s0 D cA n0 u0 (pc + 3) L (.int 1 :: r) q) : z_W p l e R s m args below meth c Q s0 D cA n0 u0 pc L (.ref a :: r) q := fun H locs ls hR hf hl => va_instS hx hb hown hlink (hK.1 o.1 rr hc).2 (z_is hK hR ha h90 hc) hd (k H locs ls hR hf hl)
theorem zs_instNo (hx : p.tables.exec = Jvm.exec) (hb : c.code = cc) (hown : s.vm.findClass own = some m.cls) (hK : va_K D zcl (z_tys cA) s) {a idx : Nat} {o : zO} {nm : String} (ha : q.1 a = some o) (h90 : o.1 < 90) {rr : vw_C} (hc : zcl[o.1]? = some rr) (hlink : (Cond.classLink own idx nm).before args s = true) (hno : va_Nc rr.1 nm s) (hd : decode cc pc = .ok (.instanceof idx, 3))
    (k : z_W p l e R s m args below meth c Q s0 D cA n0 u0 (pc + 3) L (.int 0 :: r) q) : z_W p l e R s m args below meth c Q s0 D cA n0 u0 pc L (.ref a :: r) q := fun H locs ls hR hf hl => va_instNo hx hb hown hlink hno (z_is hK hR ha h90 hc) hd (k H locs ls hR hf hl)
theorem zs_instN (hx : p.tables.exec = Jvm.exec) (hb : c.code = cc) {idx : Nat} (hd : decode cc pc = .ok (.instanceof idx, 3))
    (k : z_W p l e R s m args below meth c Q s0 D cA n0 u0 (pc + 3) L (.int 0 :: r) q) : z_W p l e R s m args below meth c Q s0 D cA n0 u0 pc L (.null :: r) q := fun H locs ls hR hf hl => lv_instN hx hb hd (k H locs ls hR hf hl)
theorem z_wb_le {S : List Value} (h : z_wb S = true) : (S.map fun v => v.category).sum ≤ 8 := by simpa [z_wb] using h
theorem zs_obj (hx : p.tables.exec = Jvm.exec) (hb : c.code = cc) (hown : s.vm.findClass own = some m.cls) (hLn : L.length = c.maxLocals) {a idx : Nat} (hlink : (Cond.methodLink own idx objectInit).before args s = true) (hinst : (Cond.instanceMethod objectInit).before args s = true) (hcode : (Cond.code objectInit ⟨#[0xb1]⟩ 1 none).before args s = true)
    (hw : z_wb r = true) (hfr : 1 ≤ R.frames) (hlo : 20 ≤ R.locals) (hd : decode cc pc = .ok (.invokespecial idx, 3)) (k : z_W p l e R s m args below meth c Q s0 D cA n0 u0 (pc + 3) L r q) : z_W p l e R s m args below meth c Q s0 D cA n0 u0 pc L (.ref a :: r) q := fun H locs ls hR hf hl => by
  have hw8 := z_wb_le hw
  exact W.objInit hx hb hown hlink hinst hcode rfl (by rw [← hLn]; exact hl.1) rfl hd hfr (by show 2 * 0 + _ + 12 ≤ _; omega) (k H locs ls hR hf hl)
theorem zs_cpy (hx : p.tables.exec = Jvm.exec) (hb : c.code = cc) (hown : s.vm.findClass own = some m.cls) (hLn : L.length = c.maxLocals) (hK : va_K D zcl (z_tys cA) s) {idx : Nat} (hlink : (Cond.methodLink own idx arraycopyName).before args s = true) (hnat : (Cond.native arraycopyName).before args s = true) (hstat : (Cond.static arraycopyName).before args s = true) (hini : (Cond.initialized "java/lang/System").before args s = true)
    {a0 a1 : Nat} {sp dp n : Int32} {q' : zS} (hc : z_cpy q a0 sp a1 dp n = some q') (hw : z_wb r = true) (hfr : 1 ≤ R.frames) (hlo : 8 + (nativeFrameWords "java/lang/System" "arraycopy" 5 + 11) ≤ R.locals) (hd : decode cc pc = .ok (.invokestatic idx, 3))
    (k : z_W p l e R s m args below meth c Q s0 D cA n0 u0 (pc + 3) L r q') : z_W p l e R s m args below meth c Q s0 D cA n0 u0 pc L (.int n :: .int dp :: .ref a1 :: .int sp :: .ref a0 :: r) q := fun H locs ls hR hf hl => by
  have hw8 := z_wb_le hw
  unfold z_cpy at hc
  split at hc
  next o0 o1 h0 h1 =>
    split at hc
    next hcond =>
      obtain ⟨t0, t1, h2, h3, h4, h5, h6, h7⟩ := hcond
      cases hc
      have nn : ∀ z : Int32, ¬ z < 0 → z.toInt = (z.toNatClampNeg : Int) := by
        intro z hz
        have hz0 : (0 : Int) ≤ z.toInt := by
          have := Int32.not_lt.mp hz
          simpa using Int32.le_iff_toInt_le.mp this
        show z.toInt = ((z.toInt.toNat : Nat) : Int)
        omega
      obtain ⟨b1, b2, b3⟩ := z_arr_of (hR.2.2.2 a0 o0 h0).1 (by omega)
      obtain ⟨d1, d2, d3⟩ := z_arr_of (hR.2.2.2 a1 o1 h1).1 (by omega)
      have hge := (hR.2.2.2 a1 o1 h1).2 (by omega)
      have ha0 := z_arrs hK b1 b2 o0.2.1 o0.2.2
      have ha1 := z_arrs hK d1 d2 o1.2.1 o1.2.2
      rw [show zaty o0.1 = .long by rw [t0]; rfl] at ha0
      rw [show zaty o1.1 = .long by rw [t1]; rfl] at ha1
      obtain ⟨-, k0, hk0, cm0, hkk0⟩ := ha0
      obtain ⟨-, k1, hk1, cm1, hkk1⟩ := ha1
      intro T hT X
      obtain ⟨vm', X', step⟩ := X.arraycopy hx hown hlink hnat hstat hini (src := a0) (dst := a1) (cs := arrV (cA o0.1) o0.2.1 o0.2.2) (cd := arrV (cA o1.1) o1.2.1 o1.2.2) (srcPos := sp) (destPos := dp) (n := n) (by rw [hT]; exact b3) (by rw [hT]; exact d3)
        (fun _ h => by cases h) (fun _ h => by cases h) (fun h => by cases h) (fun h => by cases h) hk0 hk1 hkk0 hkk1 (by decide) h2 h3 h4
        (by rw [nn sp h2, nn n h4, arrV_size]; omega) (by rw [nn dp h3, nn n h4, arrV_size]; omega)
        (fun vm₁ _ i hi => by
          have e9 : (arrV (cA o0.1) o0.2.1 o0.2.2).slots.getD (sp.toNatClampNeg + i) .null = o0.2.2 (sp.toNatClampNeg + i) := by
            rw [Array.getD_eq_getD_getElem?, arrV_read _ _ (by omega)]
            rfl
          rw [e9]
          have h8 := h7 i hi
          refine ⟨h8, ?_⟩
          cases hv : o0.2.2 (sp.toNatClampNeg + i) with
          | long x => exact trivial
          | int x => rw [hv] at h8; simp [fits] at h8
          | float x => rw [hv] at h8; simp [fits] at h8
          | double x => rw [hv] at h8; simp [fits] at h8
          | null => rw [hv] at h8; simp [fits] at h8
          | ref x => rw [hv] at h8; simp [fits] at h8
          | retAddr x => rw [hv] at h8; simp [fits] at h8)
        (g := F0 m pc ls (.int n :: .int dp :: .ref a1 :: .int sp :: .ref a0 :: r)) rfl (by rw [← hLn]; exact hl.1) (rest := r) rfl (by rw [hb]; exact hd) hfr (by show 2 * 0 + _ + _ ≤ _; omega)
      have e1 : copied (arrV (cA o0.1) o0.2.1 o0.2.2) (arrV (cA o1.1) o1.2.1 o1.2.2) sp dp n = arrV (cA o1.1) o1.2.1 (va_cpy o0.2.2 o1.2.2 sp.toNatClampNeg dp.toNatClampNeg n.toNatClampNeg) := va_copied (fun z : Value => z) (cA o0.1) (cA o1.1) o0.2.2 o1.2.2 h5
      rw [e1] at X' step
      have hlt : a1 < H.size := (Array.getElem?_eq_some_iff.mp d3).1
      have hheap : ((T.setVm vm').setCell a1 (arrV (cA o1.1) o1.2.1 (va_cpy o0.2.2 o1.2.2 sp.toNatClampNeg dp.toNatClampNeg n.toNatClampNeg))).heap = H.setIfInBounds a1 (arrV (cA o1.1) o1.2.1 (va_cpy o0.2.2 o1.2.2 sp.toNatClampNeg dp.toNatClampNeg n.toNatClampNeg)) := by rw [← hT]; rfl
      have hw9 := k (H.setIfInBounds a1 (arrV (cA o1.1) o1.2.1 (va_cpy o0.2.2 o1.2.2 sp.toNatClampNeg dp.toNatClampNeg n.toNatClampNeg))) (locs ++ ((arrV (cA o0.1) o0.2.1 o0.2.2).stretch sp.toNatClampNeg n.toNatClampNeg).zipIdx.map fun z => ⟨a1, dp.toNatClampNeg + z.2⟩) ls
        (hR.set (o' := (101, o1.2.1, va_cpy o0.2.2 o1.2.2 sp.toNatClampNeg dp.toNatClampNeg n.toNatClampNeg)) h1 (by omega) (Or.inr (Or.inl ⟨by show 100 ≤ 101; decide, by show 101 ≤ 104; decide, by
          show (H.setIfInBounds a1 _)[a1]? = _
          rw [← t1]
          simp [Array.getElem?_setIfInBounds, hlt]⟩)) (by show 101 ≠ 99; decide) (by simp) (fun b hb9 => by simp [Array.getElem?_setIfInBounds, Ne.symm hb9])) (fun z hz => by
          rcases List.mem_append.mp hz with h | h
          · exact hf z h
          · obtain ⟨w, -, hw9⟩ := List.mem_map.mp h
            rw [← hw9]
            exact hge) hl
      obtain ⟨t, a9, b9⟩ := hw9 _ hheap X'
      exact ⟨t, step t a9, b9⟩
    next => cases hc
  next => cases hc
end ZM
end
section
/-! WHAT IS CHECKED OF A METHOD'S CODE BY PROGRAM, and: an instruction that goes on, goes on -/
/-- words that stay true while the tables warm -/
def z_gw (w : Jvm.Cond) : Bool := goodWord w || (match w with
  | .castable _ _ => true
  | .declares _ => true
  | .methodLinkNest _ _ _ _ => true
  | .arrayOver (.object _) => true
  | _ => false)
theorem z_word {s0 s : State} (hW : s0.WarmedH s.vm) {w : Jvm.Cond} (hg : z_gw w = true) {a0 a : Array Value} (h : w.before a0 s0 = true) : w.before a s = true := by
  unfold z_gw at hg
  rw [Bool.or_eq_true] at hg
  rcases hg with hg | hg
  · exact word_at hW (good_of_word hg) h
  · split at hg
    · exact va_Nw.use rfl (va_Nw.warmC hW (va_Nw.of rfl h))
    · exact va_Nw.use rfl (va_Nw.warmD hW (va_Nw.of rfl h))
    · exact va_Nw.use rfl (va_Nw.warmM hW (va_Nw.of rfl h))
    · exact va_AO.use (va_AO.moved hW.alike (va_AO.of h))
    · cases hg
def z_wd (ps : List Nat) (j : Nat) (w : Jvm.Cond) : Bool := (match ps[j]? with
  | some p => decide (lw_tbl[p]? = some w)
  | none => false) && z_gw w
theorem z_wd_ok {ps : List Nat} {j : Nat} {w : Jvm.Cond} (h : z_wd ps j w = true) : w ∈ lw_tbl ∧ z_gw w = true := by
  unfold z_wd at h
  rw [Bool.and_eq_true] at h
  obtain ⟨h1, h2⟩ := h
  split at h1
  next p hp => exact ⟨List.mem_of_getElem? (of_decide_eq_true h1), h2⟩
  next => cases h1
/-- an instruction's length -/
def z_ln (i : Instr) : Nat := match i with
  | .bipush _ => 2
  | .iload _ => 2
  | .lload _ => 2
  | .aload _ => 2
  | .istore _ => 2
  | .lstore _ => 2
  | .astore _ => 2
  | .ldc _ => 2
  | .newarray _ => 2
  | .sipush _ => 3
  | .ldc_w _ => 3
  | .ldc2_w _ => 3
  | .iinc _ _ => 3
  | .ifCond _ _ => 3
  | .if_icmp _ _ => 3
  | .if_acmp _ _ => 3
  | .ifnull _ => 3
  | .ifnonnull _ => 3
  | .goto _ => 3
  | .getfield _ => 3
  | .putfield _ => 3
  | .new _ => 3
  | .anewarray _ => 3
  | .checkcast _ => 3
  | .instanceof _ => 3
  | .invokespecial _ => 3
  | .invokestatic _ => 3
  | .invokevirtual _ => 3
  | _ => 1
def z_swi (i : Instr) : Bool := match i with
  | .tableswitch _ _ _ _ => true
  | _ => false
/-- the words that an instruction within the frame leans on -/
def z_okn (M : zM) (i : Instr) (x : zX) (ps : List Nat) : Bool := match i with
  | .getfield idx => x.2.2.all fun t => decide (t < 90) && (match zcl[t]? with
      | some r => decide (x.1 < r.2.2) && z_wd ps 0 (.fieldLink (zm_y M).cls idx (r.2.1 x.1).1 (r.2.1 x.1).2.1 (r.2.1 x.1).2.2.1)
      | none => false)
  | .putfield idx => x.2.2.all fun t => decide (t < 90) && (match zcl[t]? with
      | some r => decide (x.1 < r.2.2) && z_wd ps 0 (.fieldLink (zm_y M).cls idx (r.2.1 x.1).1 (r.2.1 x.1).2.1 (r.2.1 x.1).2.2.1) && (!(r.2.1 x.1).2.2.2 || (decide ((zm_y M).name = "<init>") && decide ((r.2.1 x.1).1 = (zm_y M).cls)))
      | none => false)
  | .ldc idx => decide (x.2.2 ≠ []) || z_wd ps 0 (.constant (zm_y M).cls idx (Int32.ofNat x.1))
  | .ldc2_w idx => z_wd ps 0 (.constantLong (zm_y M).cls idx (Int64.ofNat x.1))
  | .new idx => decide (90 ≤ x.1) || (match zcl[x.1]? with
      | some r => z_wd ps 0 (.classLink (zm_y M).cls idx r.1) && z_wd ps 1 (.instantiable r.1 r.2.2) && z_wd ps 2 (.initialized r.1)
      | none => false)
  | .newarray t => z_wd ps 0 (.arrayClass (newarray.typeOf t))
  | .anewarray idx => match zaty x.1 with
      | .object C => z_wd ps 0 (.classLink (zm_y M).cls idx C) && z_wd ps 1 (.arrayOver (.object C))
      | _ => false
  | .checkcast idx => decide (x.1 ∈ zth) && (match zcl[x.1]? with
      | some r => z_wd ps 0 (.classLink (zm_y M).cls idx r.1)
      | none => false)
  | .instanceof idx => decide (x.1 ∈ zth) && (match zcl[x.1]? with
      | some r => z_wd ps 0 (.classLink (zm_y M).cls idx r.1)
      | none => false)
  | .invokespecial idx => decide (x.2.1 ≠ 7) || (z_wd ps 0 (.methodLink (zm_y M).cls idx objectInit) && z_wd ps 1 (.instanceMethod objectInit) && z_wd ps 2 (.code objectInit ⟨#[0xb1]⟩ 1 none) && decide (1 ≤ zm_f M) && decide (20 ≤ zm_w M))
  | .invokestatic idx => decide (x.2.1 ≠ 8) || (z_wd ps 0 (.methodLink (zm_y M).cls idx arraycopyName) && z_wd ps 1 (.native arraycopyName) && z_wd ps 2 (.static arraycopyName) && z_wd ps 3 (.initialized "java/lang/System") && decide (1 ≤ zm_f M) && decide (8 + (nativeFrameWords "java/lang/System" "arraycopy" 5 + 11) ≤ zm_w M))
  | _ => true
def z_oke (M : zM) (q : Nat × Instr × Nat × zX) (ps : List Nat) : Bool := decide (decode (zm_b M) q.1 = .ok (q.2.1, q.2.2.1)) && (z_swi q.2.1 || decide (q.2.2.1 = z_ln q.2.1)) && z_okn M q.2.1 q.2.2.2 ps
/-! what a step was -/
section ZI
variable {pc : Nat} {L : zL} {S : List Value} {s : zS} {j : Nat} {t : zN}
theorem zi_ldi (h : z_psh pc L S s (z_ldi L j) = some t) : ∃ v : Int32, L[j]? = some (some (.int v)) ∧ t = (pc, L, .int v :: S, s) := by
  unfold z_psh z_ldi at h
  split at h
  next v hv =>
    split at hv
    next w hw => cases hv; cases h; exact ⟨w, hw, rfl⟩
    next => cases hv
  next => cases h
theorem zi_ldl (h : z_psh pc L S s (z_ldl L j) = some t) : ∃ v : Int64, L[j]? = some (some (.long v)) ∧ t = (pc, L, .long v :: S, s) := by
  unfold z_psh z_ldl at h
  split at h
  next v hv =>
    split at hv
    next w hw => cases hv; cases h; exact ⟨w, hw, rfl⟩
    next => cases hv
  next => cases h
theorem zi_lda (h : z_psh pc L S s (z_lda L j) = some t) : (∃ v : Nat, L[j]? = some (some (.ref v)) ∧ t = (pc, L, .ref v :: S, s)) ∨ (L[j]? = some (some .null) ∧ t = (pc, L, .null :: S, s)) := by
  unfold z_psh z_lda at h
  split at h
  next v hv =>
    split at hv
    next w hw => cases hv; cases h; exact Or.inl ⟨w, hw, rfl⟩
    next hw => cases hv; cases h; exact Or.inr ⟨hw, rfl⟩
    next => cases hv
  next => cases h
theorem zi_sti (h : z_sti pc L S s j = some t) : ∃ (v : Int32) (r : List Value), S = .int v :: r ∧ j < L.length ∧ t = (pc, z_set1 L j (.int v), r, s) := by
  unfold z_sti at h
  split at h
  next v r =>
    split at h
    next hj => cases h; exact ⟨v, r, rfl, hj, rfl⟩
    next => cases h
  next => cases h
theorem zi_stl (h : z_stl pc L S s j = some t) : ∃ (v : Int64) (r : List Value), S = .long v :: r ∧ j + 1 < L.length ∧ t = (pc, z_set2 L j (.long v), r, s) := by
  unfold z_stl at h
  split at h
  next v r =>
    split at h
    next hj => cases h; exact ⟨v, r, rfl, hj, rfl⟩
    next => cases h
  next => cases h
theorem zi_sta (h : z_sta pc L S s j = some t) : (∃ (v : Nat) (r : List Value), S = .ref v :: r ∧ j < L.length ∧ t = (pc, z_set1 L j (.ref v), r, s)) ∨ (∃ r : List Value, S = .null :: r ∧ j < L.length ∧ t = (pc, z_set1 L j .null, r, s)) := by
  unfold z_sta at h
  split at h
  next v r =>
    split at h
    next hj => cases h; exact Or.inl ⟨v, r, rfl, hj, rfl⟩
    next => cases h
  next r =>
    split at h
    next hj => cases h; exact Or.inr ⟨r, rfl, hj, rfl⟩
    next => cases h
  next => cases h
theorem zi_bi {f : Int32 → Int32 → Int32} (h : z_bi pc L S s f = some t) : ∃ (x y : Int32) (r : List Value), S = .int y :: .int x :: r ∧ t = (pc, L, .int (f x y) :: r, s) := by
  unfold z_bi at h
  split at h
  next y x r => cases h; exact ⟨x, y, r, rfl, rfl⟩
  next => cases h
theorem zi_bl {f : Int64 → Int64 → Int64} (h : z_bl pc L S s f = some t) : ∃ (x y : Int64) (r : List Value), S = .long y :: .long x :: r ∧ t = (pc, L, .long (f x y) :: r, s) := by
  unfold z_bl at h
  split at h
  next y x r => cases h; exact ⟨x, y, r, rfl, rfl⟩
  next => cases h
theorem zi_sl {f : Int64 → Int32 → Int64} (h : z_sl pc L S s f = some t) : ∃ (x : Int64) (y : Int32) (r : List Value), S = .int y :: .long x :: r ∧ t = (pc, L, .long (f x y) :: r, s) := by
  unfold z_sl at h
  split at h
  next y x r => cases h; exact ⟨x, y, r, rfl, rfl⟩
  next => cases h
theorem zi_psh {r : Option Value} (h : z_psh pc L S s r = some t) : ∃ v, r = some v ∧ t = (pc, L, v :: S, s) := by
  unfold z_psh at h
  split at h
  next v => cases h; exact ⟨v, rfl, rfl⟩
  next => cases h
theorem zi_get {tags : List Nat} {k a : Nat} {h9 : zH} {v : Value} (h : z_get tags k h9 a = some v) : ∃ o, h9 a = some o ∧ o.1 ∈ tags ∧ v = o.2.2 k := by
  unfold z_get at h
  split at h
  next o ho =>
    split at h
    next ht => cases h; exact ⟨o, ho, ht, rfl⟩
    next => cases h
  next => cases h
theorem zi_put {tags : List Nat} {k a : Nat} {v : Value} {s' : zS} (h : z_put tags k s a v = some s') : ∃ o, s.1 a = some o ∧ o.1 ∈ tags ∧ narrow (zty o.1 k) v = v ∧ fits (zty o.1 k) v = true ∧ s' = (z_up s.1 a (o.1, o.2.1, z_uf o.2.2 k v), s.2) := by
  unfold z_put at h
  split at h
  next o ho =>
    split at h
    next ht => cases h; exact ⟨o, ho, ht.1, ht.2.1, ht.2.2, rfl⟩
    next => cases h
  next => cases h
theorem zi_at {tags : List Nat} {a : Nat} {i : Int32} {h9 : zH} {v : Value} (h : z_at tags h9 a i = some v) : ∃ o, h9 a = some o ∧ o.1 ∈ tags ∧ ¬ (i < 0 ∨ o.2.1 ≤ i.toNatClampNeg) ∧ v = o.2.2 i.toNatClampNeg := by
  unfold z_at at h
  split at h
  next o ho =>
    split at h
    next ht => cases h; exact ⟨o, ho, ht.1, ht.2, rfl⟩
    next => cases h
  next => cases h
theorem zi_st {tag a : Nat} {i : Int32} {v : Value} {s' : zS} (h : z_st tag s a i v = some s') : ∃ o, s.1 a = some o ∧ o.1 = tag ∧ ¬ (i < 0 ∨ o.2.1 ≤ i.toNatClampNeg) ∧ s' = (z_up s.1 a (o.1, o.2.1, z_uf o.2.2 i.toNatClampNeg v), s.2) := by
  unfold z_st at h
  split at h
  next o ho =>
    split at h
    next ht => cases h; exact ⟨o, ho, ht.1, ht.2, rfl⟩
    next => cases h
  next => cases h
theorem zi_ast {a : Nat} {i : Int32} {v : Value} {s' : zS} (h : z_ast s a i v = some s') : ∃ o, s.1 a = some o ∧ (o.1 = 103 ∨ o.1 = 104) ∧ z_may o.1 s.1 v = true ∧ ¬ (i < 0 ∨ o.2.1 ≤ i.toNatClampNeg) ∧ s' = (z_up s.1 a (o.1, o.2.1, z_uf o.2.2 i.toNatClampNeg v), s.2) := by
  unfold z_ast at h
  split at h
  next o ho =>
    split at h
    next ht =>
      obtain ⟨o', h1, h2, h3, h4⟩ := zi_st h
      cases ho.symm.trans h1
      exact ⟨o, ho, ht.1, ht.2, h3, h4⟩
    next => cases h
  next => cases h
theorem zi_len {a : Nat} {h9 : zH} {v : Value} (h : z_len h9 a = some v) : ∃ o, h9 a = some o ∧ 99 ≤ o.1 ∧ v = .int o.2.1.toInt32 := by
  unfold z_len at h
  split at h
  next o ho =>
    split at h
    next ht => cases h; exact ⟨o, ho, ht.1, rfl⟩
    next => cases h
  next => cases h
theorem zi_nwa {tag b : Nat} {d : Value} (h : z_nwa tag d b pc L S s = some t) : ∃ (n : Int32) (r : List Value), S = .int n :: r ∧ ¬ n < 0 ∧ n.toNatClampNeg * b ≤ 536870912 ∧ t = (pc, L, .ref s.2.1 :: r, z_new tag n.toNatClampNeg (fun _ => d) s) := by
  unfold z_nwa at h
  split at h
  next n r =>
    split at h
    next ht => cases h; exact ⟨n, r, rfl, ht.1, ht.2, rfl⟩
    next => cases h
  next => cases h
end ZI
end
section
/-! AN INSTRUCTION THAT GOES ON WITHIN THE FRAME -/
/-- where a method of the little machine stands in the machine -/
def z_C (p : Program) (R : Room) (s : State) (m : MethodId) (args : Array Value) (meth : Method) (c : Code) (M : zM) (D : va_G) (cA : Nat → ClassId) : Prop :=
  p.tables.exec = Jvm.exec ∧ c.code = zm_b M ∧ c.maxLocals = zm_n M ∧ s.vm.findClass (zm_y M).cls = some m.cls ∧ meth.name = (zm_y M).name ∧ zm_f M ≤ R.frames ∧ zm_w M ≤ R.locals ∧
  (va_K D zcl (z_tys cA) s ∧ ArrOfT s (cA 99) .int) ∧ (∀ (i : Nat) (r : vw_C), zcl[i]? = some r → ∀ w ∈ u_ws r.1 r.2.1 r.2.2, w.before args s = true) ∧ (∀ i ∈ zth, ∀ rr : vw_C, zcl[i]? = some rr → va_Nw (.castable rr.1 "ProcessorHouse$Thing") s) ∧
  (∀ i ∈ zth, ∀ j ∈ zth, i ≠ j → ∀ r1 r2 : vw_C, zcl[i]? = some r1 → zcl[j]? = some r2 → va_Nc r1.1 r2.1 s) ∧ (∀ w, w ∈ lw_tbl → z_gw w = true → w.before args s = true)
section ZX
variable {p : Program} {l : Launch} {e : Env} {R : Room} {s : State} {m : MethodId} {args : Array Value} {below : List Frame} {meth : Method} {c : Code} {Q : State → Prop} {s0 : State} {D : va_G} {cA : Nat → ClassId} {n0 u0 : Nat}
variable {M : zM} {pc len : Nat} {L : zL} {S : List Value} {q : zS} {x : zX} {ps : List Nat} {t : zN}

theorem zn_iconst {n : Int} (C : z_C p R s m args meth c M D cA) (hLn : L.length = zm_n M) (hok : z_oke M (pc, .iconst n, len, x) ps = true) (hn0 : n0 ≤ q.2.1) (hu0 : u0 ≤ q.2.2) (hrc : t.2.2.2.2.1 - n0 ≤ R.cells) (hrs : t.2.2.2.2.2 - u0 ≤ R.slots) (h : z_nx (.iconst n) x pc len L S q = some t) (k : z_W p l e R s m args below meth c Q s0 D cA n0 u0 t.1 t.2.1 t.2.2.1 t.2.2.2) : z_W p l e R s m args below meth c Q s0 D cA n0 u0 pc L S q := by
  obtain ⟨hx, hb, hml, hown, hnm, hfr, hlo, ⟨hK, h99⟩, hlay, hcst, hno, hw⟩ := C
  simp only [z_oke, Bool.and_eq_true, Bool.or_eq_true, decide_eq_true_eq] at hok
  have hd0 := hok.1.1
  simp only [z_okn, z_swi, z_ln, Bool.false_eq_true, false_or, Bool.and_eq_true, Bool.or_eq_true, decide_eq_true_eq] at hok
  simp only [z_nx] at h
  obtain ⟨⟨hd, hlen⟩, -⟩ := hok
  subst hlen
  cases h
  exact zs_iconst hx hb hd k
theorem zn_bipush {n : Int} (C : z_C p R s m args meth c M D cA) (hLn : L.length = zm_n M) (hok : z_oke M (pc, .bipush n, len, x) ps = true) (hn0 : n0 ≤ q.2.1) (hu0 : u0 ≤ q.2.2) (hrc : t.2.2.2.2.1 - n0 ≤ R.cells) (hrs : t.2.2.2.2.2 - u0 ≤ R.slots) (h : z_nx (.bipush n) x pc len L S q = some t) (k : z_W p l e R s m args below meth c Q s0 D cA n0 u0 t.1 t.2.1 t.2.2.1 t.2.2.2) : z_W p l e R s m args below meth c Q s0 D cA n0 u0 pc L S q := by
  obtain ⟨hx, hb, hml, hown, hnm, hfr, hlo, ⟨hK, h99⟩, hlay, hcst, hno, hw⟩ := C
  simp only [z_oke, Bool.and_eq_true, Bool.or_eq_true, decide_eq_true_eq] at hok
  have hd0 := hok.1.1
  simp only [z_okn, z_swi, z_ln, Bool.false_eq_true, false_or, Bool.and_eq_true, Bool.or_eq_true, decide_eq_true_eq] at hok
  simp only [z_nx] at h
  obtain ⟨⟨hd, hlen⟩, -⟩ := hok
  subst hlen
  cases h
  exact zs_bipush hx hb hd k
theorem zn_sipush {n : Int} (C : z_C p R s m args meth c M D cA) (hLn : L.length = zm_n M) (hok : z_oke M (pc, .sipush n, len, x) ps = true) (hn0 : n0 ≤ q.2.1) (hu0 : u0 ≤ q.2.2) (hrc : t.2.2.2.2.1 - n0 ≤ R.cells) (hrs : t.2.2.2.2.2 - u0 ≤ R.slots) (h : z_nx (.sipush n) x pc len L S q = some t) (k : z_W p l e R s m args below meth c Q s0 D cA n0 u0 t.1 t.2.1 t.2.2.1 t.2.2.2) : z_W p l e R s m args below meth c Q s0 D cA n0 u0 pc L S q := by
  obtain ⟨hx, hb, hml, hown, hnm, hfr, hlo, ⟨hK, h99⟩, hlay, hcst, hno, hw⟩ := C
  simp only [z_oke, Bool.and_eq_true, Bool.or_eq_true, decide_eq_true_eq] at hok
  have hd0 := hok.1.1
  simp only [z_okn, z_swi, z_ln, Bool.false_eq_true, false_or, Bool.and_eq_true, Bool.or_eq_true, decide_eq_true_eq] at hok
  simp only [z_nx] at h
  obtain ⟨⟨hd, hlen⟩, -⟩ := hok
  subst hlen
  cases h
  exact zs_sipush hx hb hd k
theorem zn_lconst {n : Fin 2} (C : z_C p R s m args meth c M D cA) (hLn : L.length = zm_n M) (hok : z_oke M (pc, .lconst n, len, x) ps = true) (hn0 : n0 ≤ q.2.1) (hu0 : u0 ≤ q.2.2) (hrc : t.2.2.2.2.1 - n0 ≤ R.cells) (hrs : t.2.2.2.2.2 - u0 ≤ R.slots) (h : z_nx (.lconst n) x pc len L S q = some t) (k : z_W p l e R s m args below meth c Q s0 D cA n0 u0 t.1 t.2.1 t.2.2.1 t.2.2.2) : z_W p l e R s m args below meth c Q s0 D cA n0 u0 pc L S q := by
  obtain ⟨hx, hb, hml, hown, hnm, hfr, hlo, ⟨hK, h99⟩, hlay, hcst, hno, hw⟩ := C
  simp only [z_oke, Bool.and_eq_true, Bool.or_eq_true, decide_eq_true_eq] at hok
  have hd0 := hok.1.1
  simp only [z_okn, z_swi, z_ln, Bool.false_eq_true, false_or, Bool.and_eq_true, Bool.or_eq_true, decide_eq_true_eq] at hok
  simp only [z_nx] at h
  obtain ⟨⟨hd, hlen⟩, -⟩ := hok
  subst hlen
  cases h
  exact zs_lconst hx hb hd k
theorem zn_null  (C : z_C p R s m args meth c M D cA) (hLn : L.length = zm_n M) (hok : z_oke M (pc, .aconst_null, len, x) ps = true) (hn0 : n0 ≤ q.2.1) (hu0 : u0 ≤ q.2.2) (hrc : t.2.2.2.2.1 - n0 ≤ R.cells) (hrs : t.2.2.2.2.2 - u0 ≤ R.slots) (h : z_nx (.aconst_null) x pc len L S q = some t) (k : z_W p l e R s m args below meth c Q s0 D cA n0 u0 t.1 t.2.1 t.2.2.1 t.2.2.2) : z_W p l e R s m args below meth c Q s0 D cA n0 u0 pc L S q := by
  obtain ⟨hx, hb, hml, hown, hnm, hfr, hlo, ⟨hK, h99⟩, hlay, hcst, hno, hw⟩ := C
  simp only [z_oke, Bool.and_eq_true, Bool.or_eq_true, decide_eq_true_eq] at hok
  have hd0 := hok.1.1
  simp only [z_okn, z_swi, z_ln, Bool.false_eq_true, false_or, Bool.and_eq_true, Bool.or_eq_true, decide_eq_true_eq] at hok
  simp only [z_nx] at h
  obtain ⟨⟨hd, hlen⟩, -⟩ := hok
  subst hlen
  cases h
  exact zs_null hx hb hd k
theorem zn_iload_n {j : Fin 4} (C : z_C p R s m args meth c M D cA) (hLn : L.length = zm_n M) (hok : z_oke M (pc, .iload_n j, len, x) ps = true) (hn0 : n0 ≤ q.2.1) (hu0 : u0 ≤ q.2.2) (hrc : t.2.2.2.2.1 - n0 ≤ R.cells) (hrs : t.2.2.2.2.2 - u0 ≤ R.slots) (h : z_nx (.iload_n j) x pc len L S q = some t) (k : z_W p l e R s m args below meth c Q s0 D cA n0 u0 t.1 t.2.1 t.2.2.1 t.2.2.2) : z_W p l e R s m args below meth c Q s0 D cA n0 u0 pc L S q := by
  obtain ⟨hx, hb, hml, hown, hnm, hfr, hlo, ⟨hK, h99⟩, hlay, hcst, hno, hw⟩ := C
  simp only [z_oke, Bool.and_eq_true, Bool.or_eq_true, decide_eq_true_eq] at hok
  have hd0 := hok.1.1
  simp only [z_okn, z_swi, z_ln, Bool.false_eq_true, false_or, Bool.and_eq_true, Bool.or_eq_true, decide_eq_true_eq] at hok
  simp only [z_nx] at h
  obtain ⟨⟨hd, hlen⟩, -⟩ := hok
  subst hlen
  obtain ⟨v, hv, rfl⟩ := zi_ldi h
  exact zs_iload_n hx hb hv hd k
theorem zn_iload {j : Nat} (C : z_C p R s m args meth c M D cA) (hLn : L.length = zm_n M) (hok : z_oke M (pc, .iload j, len, x) ps = true) (hn0 : n0 ≤ q.2.1) (hu0 : u0 ≤ q.2.2) (hrc : t.2.2.2.2.1 - n0 ≤ R.cells) (hrs : t.2.2.2.2.2 - u0 ≤ R.slots) (h : z_nx (.iload j) x pc len L S q = some t) (k : z_W p l e R s m args below meth c Q s0 D cA n0 u0 t.1 t.2.1 t.2.2.1 t.2.2.2) : z_W p l e R s m args below meth c Q s0 D cA n0 u0 pc L S q := by
  obtain ⟨hx, hb, hml, hown, hnm, hfr, hlo, ⟨hK, h99⟩, hlay, hcst, hno, hw⟩ := C
  simp only [z_oke, Bool.and_eq_true, Bool.or_eq_true, decide_eq_true_eq] at hok
  have hd0 := hok.1.1
  simp only [z_okn, z_swi, z_ln, Bool.false_eq_true, false_or, Bool.and_eq_true, Bool.or_eq_true, decide_eq_true_eq] at hok
  simp only [z_nx] at h
  obtain ⟨⟨hd, hlen⟩, -⟩ := hok
  subst hlen
  obtain ⟨v, hv, rfl⟩ := zi_ldi h
  exact zs_iload hx hb hv hd k
theorem zn_lload_n {j : Fin 4} (C : z_C p R s m args meth c M D cA) (hLn : L.length = zm_n M) (hok : z_oke M (pc, .lload_n j, len, x) ps = true) (hn0 : n0 ≤ q.2.1) (hu0 : u0 ≤ q.2.2) (hrc : t.2.2.2.2.1 - n0 ≤ R.cells) (hrs : t.2.2.2.2.2 - u0 ≤ R.slots) (h : z_nx (.lload_n j) x pc len L S q = some t) (k : z_W p l e R s m args below meth c Q s0 D cA n0 u0 t.1 t.2.1 t.2.2.1 t.2.2.2) : z_W p l e R s m args below meth c Q s0 D cA n0 u0 pc L S q := by
  obtain ⟨hx, hb, hml, hown, hnm, hfr, hlo, ⟨hK, h99⟩, hlay, hcst, hno, hw⟩ := C
  simp only [z_oke, Bool.and_eq_true, Bool.or_eq_true, decide_eq_true_eq] at hok
  have hd0 := hok.1.1
  simp only [z_okn, z_swi, z_ln, Bool.false_eq_true, false_or, Bool.and_eq_true, Bool.or_eq_true, decide_eq_true_eq] at hok
  simp only [z_nx] at h
  obtain ⟨⟨hd, hlen⟩, -⟩ := hok
  subst hlen
  obtain ⟨v, hv, rfl⟩ := zi_ldl h
  exact zs_lload_n hx hb hv hd k
theorem zn_lload {j : Nat} (C : z_C p R s m args meth c M D cA) (hLn : L.length = zm_n M) (hok : z_oke M (pc, .lload j, len, x) ps = true) (hn0 : n0 ≤ q.2.1) (hu0 : u0 ≤ q.2.2) (hrc : t.2.2.2.2.1 - n0 ≤ R.cells) (hrs : t.2.2.2.2.2 - u0 ≤ R.slots) (h : z_nx (.lload j) x pc len L S q = some t) (k : z_W p l e R s m args below meth c Q s0 D cA n0 u0 t.1 t.2.1 t.2.2.1 t.2.2.2) : z_W p l e R s m args below meth c Q s0 D cA n0 u0 pc L S q := by
  obtain ⟨hx, hb, hml, hown, hnm, hfr, hlo, ⟨hK, h99⟩, hlay, hcst, hno, hw⟩ := C
  simp only [z_oke, Bool.and_eq_true, Bool.or_eq_true, decide_eq_true_eq] at hok
  have hd0 := hok.1.1
  simp only [z_okn, z_swi, z_ln, Bool.false_eq_true, false_or, Bool.and_eq_true, Bool.or_eq_true, decide_eq_true_eq] at hok
  simp only [z_nx] at h
  obtain ⟨⟨hd, hlen⟩, -⟩ := hok
  subst hlen
  obtain ⟨v, hv, rfl⟩ := zi_ldl h
  exact zs_lload hx hb hv hd k
theorem zn_aload_n {j : Fin 4} (C : z_C p R s m args meth c M D cA) (hLn : L.length = zm_n M) (hok : z_oke M (pc, .aload_n j, len, x) ps = true) (hn0 : n0 ≤ q.2.1) (hu0 : u0 ≤ q.2.2) (hrc : t.2.2.2.2.1 - n0 ≤ R.cells) (hrs : t.2.2.2.2.2 - u0 ≤ R.slots) (h : z_nx (.aload_n j) x pc len L S q = some t) (k : z_W p l e R s m args below meth c Q s0 D cA n0 u0 t.1 t.2.1 t.2.2.1 t.2.2.2) : z_W p l e R s m args below meth c Q s0 D cA n0 u0 pc L S q := by
  obtain ⟨hx, hb, hml, hown, hnm, hfr, hlo, ⟨hK, h99⟩, hlay, hcst, hno, hw⟩ := C
  simp only [z_oke, Bool.and_eq_true, Bool.or_eq_true, decide_eq_true_eq] at hok
  have hd0 := hok.1.1
  simp only [z_okn, z_swi, z_ln, Bool.false_eq_true, false_or, Bool.and_eq_true, Bool.or_eq_true, decide_eq_true_eq] at hok
  simp only [z_nx] at h
  obtain ⟨⟨hd, hlen⟩, -⟩ := hok
  subst hlen
  rcases zi_lda h with ⟨v, hv, rfl⟩ | ⟨hv, rfl⟩
  · exact zs_aload_n hx hb hv hd k
  · exact zs_aload_nN hx hb hv hd k
theorem zn_aload {j : Nat} (C : z_C p R s m args meth c M D cA) (hLn : L.length = zm_n M) (hok : z_oke M (pc, .aload j, len, x) ps = true) (hn0 : n0 ≤ q.2.1) (hu0 : u0 ≤ q.2.2) (hrc : t.2.2.2.2.1 - n0 ≤ R.cells) (hrs : t.2.2.2.2.2 - u0 ≤ R.slots) (h : z_nx (.aload j) x pc len L S q = some t) (k : z_W p l e R s m args below meth c Q s0 D cA n0 u0 t.1 t.2.1 t.2.2.1 t.2.2.2) : z_W p l e R s m args below meth c Q s0 D cA n0 u0 pc L S q := by
  obtain ⟨hx, hb, hml, hown, hnm, hfr, hlo, ⟨hK, h99⟩, hlay, hcst, hno, hw⟩ := C
  simp only [z_oke, Bool.and_eq_true, Bool.or_eq_true, decide_eq_true_eq] at hok
  have hd0 := hok.1.1
  simp only [z_okn, z_swi, z_ln, Bool.false_eq_true, false_or, Bool.and_eq_true, Bool.or_eq_true, decide_eq_true_eq] at hok
  simp only [z_nx] at h
  obtain ⟨⟨hd, hlen⟩, -⟩ := hok
  subst hlen
  rcases zi_lda h with ⟨v, hv, rfl⟩ | ⟨hv, rfl⟩
  · exact zs_aload hx hb hv hd k
  · exact zs_aloadN hx hb hv hd k
theorem zn_istore_n {j : Fin 4} (C : z_C p R s m args meth c M D cA) (hLn : L.length = zm_n M) (hok : z_oke M (pc, .istore_n j, len, x) ps = true) (hn0 : n0 ≤ q.2.1) (hu0 : u0 ≤ q.2.2) (hrc : t.2.2.2.2.1 - n0 ≤ R.cells) (hrs : t.2.2.2.2.2 - u0 ≤ R.slots) (h : z_nx (.istore_n j) x pc len L S q = some t) (k : z_W p l e R s m args below meth c Q s0 D cA n0 u0 t.1 t.2.1 t.2.2.1 t.2.2.2) : z_W p l e R s m args below meth c Q s0 D cA n0 u0 pc L S q := by
  obtain ⟨hx, hb, hml, hown, hnm, hfr, hlo, ⟨hK, h99⟩, hlay, hcst, hno, hw⟩ := C
  simp only [z_oke, Bool.and_eq_true, Bool.or_eq_true, decide_eq_true_eq] at hok
  have hd0 := hok.1.1
  simp only [z_okn, z_swi, z_ln, Bool.false_eq_true, false_or, Bool.and_eq_true, Bool.or_eq_true, decide_eq_true_eq] at hok
  simp only [z_nx] at h
  obtain ⟨⟨hd, hlen⟩, -⟩ := hok
  subst hlen
  obtain ⟨v, r, rfl, hj, rfl⟩ := zi_sti h
  exact zs_istore_n hx hb hj hd k
theorem zn_istore {j : Nat} (C : z_C p R s m args meth c M D cA) (hLn : L.length = zm_n M) (hok : z_oke M (pc, .istore j, len, x) ps = true) (hn0 : n0 ≤ q.2.1) (hu0 : u0 ≤ q.2.2) (hrc : t.2.2.2.2.1 - n0 ≤ R.cells) (hrs : t.2.2.2.2.2 - u0 ≤ R.slots) (h : z_nx (.istore j) x pc len L S q = some t) (k : z_W p l e R s m args below meth c Q s0 D cA n0 u0 t.1 t.2.1 t.2.2.1 t.2.2.2) : z_W p l e R s m args below meth c Q s0 D cA n0 u0 pc L S q := by
  obtain ⟨hx, hb, hml, hown, hnm, hfr, hlo, ⟨hK, h99⟩, hlay, hcst, hno, hw⟩ := C
  simp only [z_oke, Bool.and_eq_true, Bool.or_eq_true, decide_eq_true_eq] at hok
  have hd0 := hok.1.1
  simp only [z_okn, z_swi, z_ln, Bool.false_eq_true, false_or, Bool.and_eq_true, Bool.or_eq_true, decide_eq_true_eq] at hok
  simp only [z_nx] at h
  obtain ⟨⟨hd, hlen⟩, -⟩ := hok
  subst hlen
  obtain ⟨v, r, rfl, hj, rfl⟩ := zi_sti h
  exact zs_istore hx hb hj hd k
theorem zn_lstore_n {j : Fin 4} (C : z_C p R s m args meth c M D cA) (hLn : L.length = zm_n M) (hok : z_oke M (pc, .lstore_n j, len, x) ps = true) (hn0 : n0 ≤ q.2.1) (hu0 : u0 ≤ q.2.2) (hrc : t.2.2.2.2.1 - n0 ≤ R.cells) (hrs : t.2.2.2.2.2 - u0 ≤ R.slots) (h : z_nx (.lstore_n j) x pc len L S q = some t) (k : z_W p l e R s m args below meth c Q s0 D cA n0 u0 t.1 t.2.1 t.2.2.1 t.2.2.2) : z_W p l e R s m args below meth c Q s0 D cA n0 u0 pc L S q := by
  obtain ⟨hx, hb, hml, hown, hnm, hfr, hlo, ⟨hK, h99⟩, hlay, hcst, hno, hw⟩ := C
  simp only [z_oke, Bool.and_eq_true, Bool.or_eq_true, decide_eq_true_eq] at hok
  have hd0 := hok.1.1
  simp only [z_okn, z_swi, z_ln, Bool.false_eq_true, false_or, Bool.and_eq_true, Bool.or_eq_true, decide_eq_true_eq] at hok
  simp only [z_nx] at h
  obtain ⟨⟨hd, hlen⟩, -⟩ := hok
  subst hlen
  obtain ⟨v, r, rfl, hj, rfl⟩ := zi_stl h
  exact zs_lstore_n hx hb hj hd k
theorem zn_lstore {j : Nat} (C : z_C p R s m args meth c M D cA) (hLn : L.length = zm_n M) (hok : z_oke M (pc, .lstore j, len, x) ps = true) (hn0 : n0 ≤ q.2.1) (hu0 : u0 ≤ q.2.2) (hrc : t.2.2.2.2.1 - n0 ≤ R.cells) (hrs : t.2.2.2.2.2 - u0 ≤ R.slots) (h : z_nx (.lstore j) x pc len L S q = some t) (k : z_W p l e R s m args below meth c Q s0 D cA n0 u0 t.1 t.2.1 t.2.2.1 t.2.2.2) : z_W p l e R s m args below meth c Q s0 D cA n0 u0 pc L S q := by
  obtain ⟨hx, hb, hml, hown, hnm, hfr, hlo, ⟨hK, h99⟩, hlay, hcst, hno, hw⟩ := C
  simp only [z_oke, Bool.and_eq_true, Bool.or_eq_true, decide_eq_true_eq] at hok
  have hd0 := hok.1.1
  simp only [z_okn, z_swi, z_ln, Bool.false_eq_true, false_or, Bool.and_eq_true, Bool.or_eq_true, decide_eq_true_eq] at hok
  simp only [z_nx] at h
  obtain ⟨⟨hd, hlen⟩, -⟩ := hok
  subst hlen
  obtain ⟨v, r, rfl, hj, rfl⟩ := zi_stl h
  exact zs_lstore hx hb hj hd k
theorem zn_astore_n {j : Fin 4} (C : z_C p R s m args meth c M D cA) (hLn : L.length = zm_n M) (hok : z_oke M (pc, .astore_n j, len, x) ps = true) (hn0 : n0 ≤ q.2.1) (hu0 : u0 ≤ q.2.2) (hrc : t.2.2.2.2.1 - n0 ≤ R.cells) (hrs : t.2.2.2.2.2 - u0 ≤ R.slots) (h : z_nx (.astore_n j) x pc len L S q = some t) (k : z_W p l e R s m args below meth c Q s0 D cA n0 u0 t.1 t.2.1 t.2.2.1 t.2.2.2) : z_W p l e R s m args below meth c Q s0 D cA n0 u0 pc L S q := by
  obtain ⟨hx, hb, hml, hown, hnm, hfr, hlo, ⟨hK, h99⟩, hlay, hcst, hno, hw⟩ := C
  simp only [z_oke, Bool.and_eq_true, Bool.or_eq_true, decide_eq_true_eq] at hok
  have hd0 := hok.1.1
  simp only [z_okn, z_swi, z_ln, Bool.false_eq_true, false_or, Bool.and_eq_true, Bool.or_eq_true, decide_eq_true_eq] at hok
  simp only [z_nx] at h
  obtain ⟨⟨hd, hlen⟩, -⟩ := hok
  subst hlen
  rcases zi_sta h with ⟨v, r, rfl, hj, rfl⟩ | ⟨r, rfl, hj, rfl⟩
  · exact zs_astore_n hx hb hj hd k
  · exact zs_astoreN_n hx hb hj hd k
theorem zn_astore {j : Nat} (C : z_C p R s m args meth c M D cA) (hLn : L.length = zm_n M) (hok : z_oke M (pc, .astore j, len, x) ps = true) (hn0 : n0 ≤ q.2.1) (hu0 : u0 ≤ q.2.2) (hrc : t.2.2.2.2.1 - n0 ≤ R.cells) (hrs : t.2.2.2.2.2 - u0 ≤ R.slots) (h : z_nx (.astore j) x pc len L S q = some t) (k : z_W p l e R s m args below meth c Q s0 D cA n0 u0 t.1 t.2.1 t.2.2.1 t.2.2.2) : z_W p l e R s m args below meth c Q s0 D cA n0 u0 pc L S q := by
  obtain ⟨hx, hb, hml, hown, hnm, hfr, hlo, ⟨hK, h99⟩, hlay, hcst, hno, hw⟩ := C
  simp only [z_oke, Bool.and_eq_true, Bool.or_eq_true, decide_eq_true_eq] at hok
  have hd0 := hok.1.1
  simp only [z_okn, z_swi, z_ln, Bool.false_eq_true, false_or, Bool.and_eq_true, Bool.or_eq_true, decide_eq_true_eq] at hok
  simp only [z_nx] at h
  obtain ⟨⟨hd, hlen⟩, -⟩ := hok
  subst hlen
  rcases zi_sta h with ⟨v, r, rfl, hj, rfl⟩ | ⟨r, rfl, hj, rfl⟩
  · exact zs_astore hx hb hj hd k
  · exact zs_astoreN hx hb hj hd k
theorem zn_iinc {j : Nat} {n : Int} (C : z_C p R s m args meth c M D cA) (hLn : L.length = zm_n M) (hok : z_oke M (pc, .iinc j n, len, x) ps = true) (hn0 : n0 ≤ q.2.1) (hu0 : u0 ≤ q.2.2) (hrc : t.2.2.2.2.1 - n0 ≤ R.cells) (hrs : t.2.2.2.2.2 - u0 ≤ R.slots) (h : z_nx (.iinc j n) x pc len L S q = some t) (k : z_W p l e R s m args below meth c Q s0 D cA n0 u0 t.1 t.2.1 t.2.2.1 t.2.2.2) : z_W p l e R s m args below meth c Q s0 D cA n0 u0 pc L S q := by
  obtain ⟨hx, hb, hml, hown, hnm, hfr, hlo, ⟨hK, h99⟩, hlay, hcst, hno, hw⟩ := C
  simp only [z_oke, Bool.and_eq_true, Bool.or_eq_true, decide_eq_true_eq] at hok
  have hd0 := hok.1.1
  simp only [z_okn, z_swi, z_ln, Bool.false_eq_true, false_or, Bool.and_eq_true, Bool.or_eq_true, decide_eq_true_eq] at hok
  simp only [z_nx] at h
  obtain ⟨⟨hd, hlen⟩, -⟩ := hok
  subst hlen
  split at h
  next v hv =>
    split at h
    next hj =>
      cases h
      unfold z_ldi at hv
      split at hv
      next w hw2 => cases hv; exact zs_iinc hx hb hw2 hd k
      next => cases hv
    next => cases h
  next => cases h
theorem zn_iadd  (C : z_C p R s m args meth c M D cA) (hLn : L.length = zm_n M) (hok : z_oke M (pc, .iadd, len, x) ps = true) (hn0 : n0 ≤ q.2.1) (hu0 : u0 ≤ q.2.2) (hrc : t.2.2.2.2.1 - n0 ≤ R.cells) (hrs : t.2.2.2.2.2 - u0 ≤ R.slots) (h : z_nx (.iadd) x pc len L S q = some t) (k : z_W p l e R s m args below meth c Q s0 D cA n0 u0 t.1 t.2.1 t.2.2.1 t.2.2.2) : z_W p l e R s m args below meth c Q s0 D cA n0 u0 pc L S q := by
  obtain ⟨hx, hb, hml, hown, hnm, hfr, hlo, ⟨hK, h99⟩, hlay, hcst, hno, hw⟩ := C
  simp only [z_oke, Bool.and_eq_true, Bool.or_eq_true, decide_eq_true_eq] at hok
  have hd0 := hok.1.1
  simp only [z_okn, z_swi, z_ln, Bool.false_eq_true, false_or, Bool.and_eq_true, Bool.or_eq_true, decide_eq_true_eq] at hok
  simp only [z_nx] at h
  obtain ⟨⟨hd, hlen⟩, -⟩ := hok
  subst hlen
  obtain ⟨x9, y9, r, rfl, rfl⟩ := zi_bi h
  exact zs_iadd hx hb hd k
theorem zn_isub  (C : z_C p R s m args meth c M D cA) (hLn : L.length = zm_n M) (hok : z_oke M (pc, .isub, len, x) ps = true) (hn0 : n0 ≤ q.2.1) (hu0 : u0 ≤ q.2.2) (hrc : t.2.2.2.2.1 - n0 ≤ R.cells) (hrs : t.2.2.2.2.2 - u0 ≤ R.slots) (h : z_nx (.isub) x pc len L S q = some t) (k : z_W p l e R s m args below meth c Q s0 D cA n0 u0 t.1 t.2.1 t.2.2.1 t.2.2.2) : z_W p l e R s m args below meth c Q s0 D cA n0 u0 pc L S q := by
  obtain ⟨hx, hb, hml, hown, hnm, hfr, hlo, ⟨hK, h99⟩, hlay, hcst, hno, hw⟩ := C
  simp only [z_oke, Bool.and_eq_true, Bool.or_eq_true, decide_eq_true_eq] at hok
  have hd0 := hok.1.1
  simp only [z_okn, z_swi, z_ln, Bool.false_eq_true, false_or, Bool.and_eq_true, Bool.or_eq_true, decide_eq_true_eq] at hok
  simp only [z_nx] at h
  obtain ⟨⟨hd, hlen⟩, -⟩ := hok
  subst hlen
  obtain ⟨x9, y9, r, rfl, rfl⟩ := zi_bi h
  exact zs_isub hx hb hd k
theorem zn_imul  (C : z_C p R s m args meth c M D cA) (hLn : L.length = zm_n M) (hok : z_oke M (pc, .imul, len, x) ps = true) (hn0 : n0 ≤ q.2.1) (hu0 : u0 ≤ q.2.2) (hrc : t.2.2.2.2.1 - n0 ≤ R.cells) (hrs : t.2.2.2.2.2 - u0 ≤ R.slots) (h : z_nx (.imul) x pc len L S q = some t) (k : z_W p l e R s m args below meth c Q s0 D cA n0 u0 t.1 t.2.1 t.2.2.1 t.2.2.2) : z_W p l e R s m args below meth c Q s0 D cA n0 u0 pc L S q := by
  obtain ⟨hx, hb, hml, hown, hnm, hfr, hlo, ⟨hK, h99⟩, hlay, hcst, hno, hw⟩ := C
  simp only [z_oke, Bool.and_eq_true, Bool.or_eq_true, decide_eq_true_eq] at hok
  have hd0 := hok.1.1
  simp only [z_okn, z_swi, z_ln, Bool.false_eq_true, false_or, Bool.and_eq_true, Bool.or_eq_true, decide_eq_true_eq] at hok
  simp only [z_nx] at h
  obtain ⟨⟨hd, hlen⟩, -⟩ := hok
  subst hlen
  obtain ⟨x9, y9, r, rfl, rfl⟩ := zi_bi h
  exact zs_imul hx hb hd k
theorem zn_iand  (C : z_C p R s m args meth c M D cA) (hLn : L.length = zm_n M) (hok : z_oke M (pc, .iand, len, x) ps = true) (hn0 : n0 ≤ q.2.1) (hu0 : u0 ≤ q.2.2) (hrc : t.2.2.2.2.1 - n0 ≤ R.cells) (hrs : t.2.2.2.2.2 - u0 ≤ R.slots) (h : z_nx (.iand) x pc len L S q = some t) (k : z_W p l e R s m args below meth c Q s0 D cA n0 u0 t.1 t.2.1 t.2.2.1 t.2.2.2) : z_W p l e R s m args below meth c Q s0 D cA n0 u0 pc L S q := by
  obtain ⟨hx, hb, hml, hown, hnm, hfr, hlo, ⟨hK, h99⟩, hlay, hcst, hno, hw⟩ := C
  simp only [z_oke, Bool.and_eq_true, Bool.or_eq_true, decide_eq_true_eq] at hok
  have hd0 := hok.1.1
  simp only [z_okn, z_swi, z_ln, Bool.false_eq_true, false_or, Bool.and_eq_true, Bool.or_eq_true, decide_eq_true_eq] at hok
  simp only [z_nx] at h
  obtain ⟨⟨hd, hlen⟩, -⟩ := hok
  subst hlen
  obtain ⟨x9, y9, r, rfl, rfl⟩ := zi_bi h
  exact zs_iand hx hb hd k
theorem zn_ixor  (C : z_C p R s m args meth c M D cA) (hLn : L.length = zm_n M) (hok : z_oke M (pc, .ixor, len, x) ps = true) (hn0 : n0 ≤ q.2.1) (hu0 : u0 ≤ q.2.2) (hrc : t.2.2.2.2.1 - n0 ≤ R.cells) (hrs : t.2.2.2.2.2 - u0 ≤ R.slots) (h : z_nx (.ixor) x pc len L S q = some t) (k : z_W p l e R s m args below meth c Q s0 D cA n0 u0 t.1 t.2.1 t.2.2.1 t.2.2.2) : z_W p l e R s m args below meth c Q s0 D cA n0 u0 pc L S q := by
  obtain ⟨hx, hb, hml, hown, hnm, hfr, hlo, ⟨hK, h99⟩, hlay, hcst, hno, hw⟩ := C
  simp only [z_oke, Bool.and_eq_true, Bool.or_eq_true, decide_eq_true_eq] at hok
  have hd0 := hok.1.1
  simp only [z_okn, z_swi, z_ln, Bool.false_eq_true, false_or, Bool.and_eq_true, Bool.or_eq_true, decide_eq_true_eq] at hok
  simp only [z_nx] at h
  obtain ⟨⟨hd, hlen⟩, -⟩ := hok
  subst hlen
  obtain ⟨x9, y9, r, rfl, rfl⟩ := zi_bi h
  exact zs_ixor hx hb hd k
theorem zn_ladd  (C : z_C p R s m args meth c M D cA) (hLn : L.length = zm_n M) (hok : z_oke M (pc, .ladd, len, x) ps = true) (hn0 : n0 ≤ q.2.1) (hu0 : u0 ≤ q.2.2) (hrc : t.2.2.2.2.1 - n0 ≤ R.cells) (hrs : t.2.2.2.2.2 - u0 ≤ R.slots) (h : z_nx (.ladd) x pc len L S q = some t) (k : z_W p l e R s m args below meth c Q s0 D cA n0 u0 t.1 t.2.1 t.2.2.1 t.2.2.2) : z_W p l e R s m args below meth c Q s0 D cA n0 u0 pc L S q := by
  obtain ⟨hx, hb, hml, hown, hnm, hfr, hlo, ⟨hK, h99⟩, hlay, hcst, hno, hw⟩ := C
  simp only [z_oke, Bool.and_eq_true, Bool.or_eq_true, decide_eq_true_eq] at hok
  have hd0 := hok.1.1
  simp only [z_okn, z_swi, z_ln, Bool.false_eq_true, false_or, Bool.and_eq_true, Bool.or_eq_true, decide_eq_true_eq] at hok
  simp only [z_nx] at h
  obtain ⟨⟨hd, hlen⟩, -⟩ := hok
  subst hlen
  obtain ⟨x9, y9, r, rfl, rfl⟩ := zi_bl h
  exact zs_ladd hx hb hd k
theorem zn_lsub  (C : z_C p R s m args meth c M D cA) (hLn : L.length = zm_n M) (hok : z_oke M (pc, .lsub, len, x) ps = true) (hn0 : n0 ≤ q.2.1) (hu0 : u0 ≤ q.2.2) (hrc : t.2.2.2.2.1 - n0 ≤ R.cells) (hrs : t.2.2.2.2.2 - u0 ≤ R.slots) (h : z_nx (.lsub) x pc len L S q = some t) (k : z_W p l e R s m args below meth c Q s0 D cA n0 u0 t.1 t.2.1 t.2.2.1 t.2.2.2) : z_W p l e R s m args below meth c Q s0 D cA n0 u0 pc L S q := by
  obtain ⟨hx, hb, hml, hown, hnm, hfr, hlo, ⟨hK, h99⟩, hlay, hcst, hno, hw⟩ := C
  simp only [z_oke, Bool.and_eq_true, Bool.or_eq_true, decide_eq_true_eq] at hok
  have hd0 := hok.1.1
  simp only [z_okn, z_swi, z_ln, Bool.false_eq_true, false_or, Bool.and_eq_true, Bool.or_eq_true, decide_eq_true_eq] at hok
  simp only [z_nx] at h
  obtain ⟨⟨hd, hlen⟩, -⟩ := hok
  subst hlen
  obtain ⟨x9, y9, r, rfl, rfl⟩ := zi_bl h
  exact zs_lsub hx hb hd k
theorem zn_lmul  (C : z_C p R s m args meth c M D cA) (hLn : L.length = zm_n M) (hok : z_oke M (pc, .lmul, len, x) ps = true) (hn0 : n0 ≤ q.2.1) (hu0 : u0 ≤ q.2.2) (hrc : t.2.2.2.2.1 - n0 ≤ R.cells) (hrs : t.2.2.2.2.2 - u0 ≤ R.slots) (h : z_nx (.lmul) x pc len L S q = some t) (k : z_W p l e R s m args below meth c Q s0 D cA n0 u0 t.1 t.2.1 t.2.2.1 t.2.2.2) : z_W p l e R s m args below meth c Q s0 D cA n0 u0 pc L S q := by
  obtain ⟨hx, hb, hml, hown, hnm, hfr, hlo, ⟨hK, h99⟩, hlay, hcst, hno, hw⟩ := C
  simp only [z_oke, Bool.and_eq_true, Bool.or_eq_true, decide_eq_true_eq] at hok
  have hd0 := hok.1.1
  simp only [z_okn, z_swi, z_ln, Bool.false_eq_true, false_or, Bool.and_eq_true, Bool.or_eq_true, decide_eq_true_eq] at hok
  simp only [z_nx] at h
  obtain ⟨⟨hd, hlen⟩, -⟩ := hok
  subst hlen
  obtain ⟨x9, y9, r, rfl, rfl⟩ := zi_bl h
  exact zs_lmul hx hb hd k
theorem zn_land  (C : z_C p R s m args meth c M D cA) (hLn : L.length = zm_n M) (hok : z_oke M (pc, .land, len, x) ps = true) (hn0 : n0 ≤ q.2.1) (hu0 : u0 ≤ q.2.2) (hrc : t.2.2.2.2.1 - n0 ≤ R.cells) (hrs : t.2.2.2.2.2 - u0 ≤ R.slots) (h : z_nx (.land) x pc len L S q = some t) (k : z_W p l e R s m args below meth c Q s0 D cA n0 u0 t.1 t.2.1 t.2.2.1 t.2.2.2) : z_W p l e R s m args below meth c Q s0 D cA n0 u0 pc L S q := by
  obtain ⟨hx, hb, hml, hown, hnm, hfr, hlo, ⟨hK, h99⟩, hlay, hcst, hno, hw⟩ := C
  simp only [z_oke, Bool.and_eq_true, Bool.or_eq_true, decide_eq_true_eq] at hok
  have hd0 := hok.1.1
  simp only [z_okn, z_swi, z_ln, Bool.false_eq_true, false_or, Bool.and_eq_true, Bool.or_eq_true, decide_eq_true_eq] at hok
  simp only [z_nx] at h
  obtain ⟨⟨hd, hlen⟩, -⟩ := hok
  subst hlen
  obtain ⟨x9, y9, r, rfl, rfl⟩ := zi_bl h
  exact zs_land hx hb hd k
theorem zn_lxor  (C : z_C p R s m args meth c M D cA) (hLn : L.length = zm_n M) (hok : z_oke M (pc, .lxor, len, x) ps = true) (hn0 : n0 ≤ q.2.1) (hu0 : u0 ≤ q.2.2) (hrc : t.2.2.2.2.1 - n0 ≤ R.cells) (hrs : t.2.2.2.2.2 - u0 ≤ R.slots) (h : z_nx (.lxor) x pc len L S q = some t) (k : z_W p l e R s m args below meth c Q s0 D cA n0 u0 t.1 t.2.1 t.2.2.1 t.2.2.2) : z_W p l e R s m args below meth c Q s0 D cA n0 u0 pc L S q := by
  obtain ⟨hx, hb, hml, hown, hnm, hfr, hlo, ⟨hK, h99⟩, hlay, hcst, hno, hw⟩ := C
  simp only [z_oke, Bool.and_eq_true, Bool.or_eq_true, decide_eq_true_eq] at hok
  have hd0 := hok.1.1
  simp only [z_okn, z_swi, z_ln, Bool.false_eq_true, false_or, Bool.and_eq_true, Bool.or_eq_true, decide_eq_true_eq] at hok
  simp only [z_nx] at h
  obtain ⟨⟨hd, hlen⟩, -⟩ := hok
  subst hlen
  obtain ⟨x9, y9, r, rfl, rfl⟩ := zi_bl h
  exact zs_lxor hx hb hd k
theorem zn_lshl  (C : z_C p R s m args meth c M D cA) (hLn : L.length = zm_n M) (hok : z_oke M (pc, .lshl, len, x) ps = true) (hn0 : n0 ≤ q.2.1) (hu0 : u0 ≤ q.2.2) (hrc : t.2.2.2.2.1 - n0 ≤ R.cells) (hrs : t.2.2.2.2.2 - u0 ≤ R.slots) (h : z_nx (.lshl) x pc len L S q = some t) (k : z_W p l e R s m args below meth c Q s0 D cA n0 u0 t.1 t.2.1 t.2.2.1 t.2.2.2) : z_W p l e R s m args below meth c Q s0 D cA n0 u0 pc L S q := by
  obtain ⟨hx, hb, hml, hown, hnm, hfr, hlo, ⟨hK, h99⟩, hlay, hcst, hno, hw⟩ := C
  simp only [z_oke, Bool.and_eq_true, Bool.or_eq_true, decide_eq_true_eq] at hok
  have hd0 := hok.1.1
  simp only [z_okn, z_swi, z_ln, Bool.false_eq_true, false_or, Bool.and_eq_true, Bool.or_eq_true, decide_eq_true_eq] at hok
  simp only [z_nx] at h
  obtain ⟨⟨hd, hlen⟩, -⟩ := hok
  subst hlen
  obtain ⟨x9, y9, r, rfl, rfl⟩ := zi_sl h
  exact zs_lshl hx hb hd k
theorem zn_lushr  (C : z_C p R s m args meth c M D cA) (hLn : L.length = zm_n M) (hok : z_oke M (pc, .lushr, len, x) ps = true) (hn0 : n0 ≤ q.2.1) (hu0 : u0 ≤ q.2.2) (hrc : t.2.2.2.2.1 - n0 ≤ R.cells) (hrs : t.2.2.2.2.2 - u0 ≤ R.slots) (h : z_nx (.lushr) x pc len L S q = some t) (k : z_W p l e R s m args below meth c Q s0 D cA n0 u0 t.1 t.2.1 t.2.2.1 t.2.2.2) : z_W p l e R s m args below meth c Q s0 D cA n0 u0 pc L S q := by
  obtain ⟨hx, hb, hml, hown, hnm, hfr, hlo, ⟨hK, h99⟩, hlay, hcst, hno, hw⟩ := C
  simp only [z_oke, Bool.and_eq_true, Bool.or_eq_true, decide_eq_true_eq] at hok
  have hd0 := hok.1.1
  simp only [z_okn, z_swi, z_ln, Bool.false_eq_true, false_or, Bool.and_eq_true, Bool.or_eq_true, decide_eq_true_eq] at hok
  simp only [z_nx] at h
  obtain ⟨⟨hd, hlen⟩, -⟩ := hok
  subst hlen
  obtain ⟨x9, y9, r, rfl, rfl⟩ := zi_sl h
  exact zs_lushr hx hb hd k
theorem zn_irem  (C : z_C p R s m args meth c M D cA) (hLn : L.length = zm_n M) (hok : z_oke M (pc, .irem, len, x) ps = true) (hn0 : n0 ≤ q.2.1) (hu0 : u0 ≤ q.2.2) (hrc : t.2.2.2.2.1 - n0 ≤ R.cells) (hrs : t.2.2.2.2.2 - u0 ≤ R.slots) (h : z_nx (.irem) x pc len L S q = some t) (k : z_W p l e R s m args below meth c Q s0 D cA n0 u0 t.1 t.2.1 t.2.2.1 t.2.2.2) : z_W p l e R s m args below meth c Q s0 D cA n0 u0 pc L S q := by
  obtain ⟨hx, hb, hml, hown, hnm, hfr, hlo, ⟨hK, h99⟩, hlay, hcst, hno, hw⟩ := C
  simp only [z_oke, Bool.and_eq_true, Bool.or_eq_true, decide_eq_true_eq] at hok
  have hd0 := hok.1.1
  simp only [z_okn, z_swi, z_ln, Bool.false_eq_true, false_or, Bool.and_eq_true, Bool.or_eq_true, decide_eq_true_eq] at hok
  simp only [z_nx] at h
  obtain ⟨⟨hd, hlen⟩, -⟩ := hok
  subst hlen
  split at h
  next y9 x9 r =>
    split at h
    next => cases h
    next hy => cases h; exact zs_irem hx hb hy hd k
  next => cases h
theorem zn_lrem  (C : z_C p R s m args meth c M D cA) (hLn : L.length = zm_n M) (hok : z_oke M (pc, .lrem, len, x) ps = true) (hn0 : n0 ≤ q.2.1) (hu0 : u0 ≤ q.2.2) (hrc : t.2.2.2.2.1 - n0 ≤ R.cells) (hrs : t.2.2.2.2.2 - u0 ≤ R.slots) (h : z_nx (.lrem) x pc len L S q = some t) (k : z_W p l e R s m args below meth c Q s0 D cA n0 u0 t.1 t.2.1 t.2.2.1 t.2.2.2) : z_W p l e R s m args below meth c Q s0 D cA n0 u0 pc L S q := by
  obtain ⟨hx, hb, hml, hown, hnm, hfr, hlo, ⟨hK, h99⟩, hlay, hcst, hno, hw⟩ := C
  simp only [z_oke, Bool.and_eq_true, Bool.or_eq_true, decide_eq_true_eq] at hok
  have hd0 := hok.1.1
  simp only [z_okn, z_swi, z_ln, Bool.false_eq_true, false_or, Bool.and_eq_true, Bool.or_eq_true, decide_eq_true_eq] at hok
  simp only [z_nx] at h
  obtain ⟨⟨hd, hlen⟩, -⟩ := hok
  subst hlen
  split at h
  next y9 x9 r =>
    split at h
    next => cases h
    next hy => cases h; exact zs_lrem hx hb hy hd k
  next => cases h
theorem zn_i2l  (C : z_C p R s m args meth c M D cA) (hLn : L.length = zm_n M) (hok : z_oke M (pc, .i2l, len, x) ps = true) (hn0 : n0 ≤ q.2.1) (hu0 : u0 ≤ q.2.2) (hrc : t.2.2.2.2.1 - n0 ≤ R.cells) (hrs : t.2.2.2.2.2 - u0 ≤ R.slots) (h : z_nx (.i2l) x pc len L S q = some t) (k : z_W p l e R s m args below meth c Q s0 D cA n0 u0 t.1 t.2.1 t.2.2.1 t.2.2.2) : z_W p l e R s m args below meth c Q s0 D cA n0 u0 pc L S q := by
  obtain ⟨hx, hb, hml, hown, hnm, hfr, hlo, ⟨hK, h99⟩, hlay, hcst, hno, hw⟩ := C
  simp only [z_oke, Bool.and_eq_true, Bool.or_eq_true, decide_eq_true_eq] at hok
  have hd0 := hok.1.1
  simp only [z_okn, z_swi, z_ln, Bool.false_eq_true, false_or, Bool.and_eq_true, Bool.or_eq_true, decide_eq_true_eq] at hok
  simp only [z_nx] at h
  obtain ⟨⟨hd, hlen⟩, -⟩ := hok
  subst hlen
  split at h
  next => cases h; exact zs_i2l hx hb hd k
  next => cases h
theorem zn_l2i  (C : z_C p R s m args meth c M D cA) (hLn : L.length = zm_n M) (hok : z_oke M (pc, .l2i, len, x) ps = true) (hn0 : n0 ≤ q.2.1) (hu0 : u0 ≤ q.2.2) (hrc : t.2.2.2.2.1 - n0 ≤ R.cells) (hrs : t.2.2.2.2.2 - u0 ≤ R.slots) (h : z_nx (.l2i) x pc len L S q = some t) (k : z_W p l e R s m args below meth c Q s0 D cA n0 u0 t.1 t.2.1 t.2.2.1 t.2.2.2) : z_W p l e R s m args below meth c Q s0 D cA n0 u0 pc L S q := by
  obtain ⟨hx, hb, hml, hown, hnm, hfr, hlo, ⟨hK, h99⟩, hlay, hcst, hno, hw⟩ := C
  simp only [z_oke, Bool.and_eq_true, Bool.or_eq_true, decide_eq_true_eq] at hok
  have hd0 := hok.1.1
  simp only [z_okn, z_swi, z_ln, Bool.false_eq_true, false_or, Bool.and_eq_true, Bool.or_eq_true, decide_eq_true_eq] at hok
  simp only [z_nx] at h
  obtain ⟨⟨hd, hlen⟩, -⟩ := hok
  subst hlen
  split at h
  next => cases h; exact zs_l2i hx hb hd k
  next => cases h
theorem zn_lcmp  (C : z_C p R s m args meth c M D cA) (hLn : L.length = zm_n M) (hok : z_oke M (pc, .lcmp, len, x) ps = true) (hn0 : n0 ≤ q.2.1) (hu0 : u0 ≤ q.2.2) (hrc : t.2.2.2.2.1 - n0 ≤ R.cells) (hrs : t.2.2.2.2.2 - u0 ≤ R.slots) (h : z_nx (.lcmp) x pc len L S q = some t) (k : z_W p l e R s m args below meth c Q s0 D cA n0 u0 t.1 t.2.1 t.2.2.1 t.2.2.2) : z_W p l e R s m args below meth c Q s0 D cA n0 u0 pc L S q := by
  obtain ⟨hx, hb, hml, hown, hnm, hfr, hlo, ⟨hK, h99⟩, hlay, hcst, hno, hw⟩ := C
  simp only [z_oke, Bool.and_eq_true, Bool.or_eq_true, decide_eq_true_eq] at hok
  have hd0 := hok.1.1
  simp only [z_okn, z_swi, z_ln, Bool.false_eq_true, false_or, Bool.and_eq_true, Bool.or_eq_true, decide_eq_true_eq] at hok
  simp only [z_nx] at h
  obtain ⟨⟨hd, hlen⟩, -⟩ := hok
  subst hlen
  split at h
  next => cases h; exact zs_lcmp hx hb hd k
  next => cases h
theorem zn_dup  (C : z_C p R s m args meth c M D cA) (hLn : L.length = zm_n M) (hok : z_oke M (pc, .dup, len, x) ps = true) (hn0 : n0 ≤ q.2.1) (hu0 : u0 ≤ q.2.2) (hrc : t.2.2.2.2.1 - n0 ≤ R.cells) (hrs : t.2.2.2.2.2 - u0 ≤ R.slots) (h : z_nx (.dup) x pc len L S q = some t) (k : z_W p l e R s m args below meth c Q s0 D cA n0 u0 t.1 t.2.1 t.2.2.1 t.2.2.2) : z_W p l e R s m args below meth c Q s0 D cA n0 u0 pc L S q := by
  obtain ⟨hx, hb, hml, hown, hnm, hfr, hlo, ⟨hK, h99⟩, hlay, hcst, hno, hw⟩ := C
  simp only [z_oke, Bool.and_eq_true, Bool.or_eq_true, decide_eq_true_eq] at hok
  have hd0 := hok.1.1
  simp only [z_okn, z_swi, z_ln, Bool.false_eq_true, false_or, Bool.and_eq_true, Bool.or_eq_true, decide_eq_true_eq] at hok
  simp only [z_nx] at h
  obtain ⟨⟨hd, hlen⟩, -⟩ := hok
  subst hlen
  split at h
  next v r =>
    split at h
    next hv => cases h; exact zs_dup hx hb hv hd k
    next => cases h
  next => cases h
theorem zn_pop  (C : z_C p R s m args meth c M D cA) (hLn : L.length = zm_n M) (hok : z_oke M (pc, .pop, len, x) ps = true) (hn0 : n0 ≤ q.2.1) (hu0 : u0 ≤ q.2.2) (hrc : t.2.2.2.2.1 - n0 ≤ R.cells) (hrs : t.2.2.2.2.2 - u0 ≤ R.slots) (h : z_nx (.pop) x pc len L S q = some t) (k : z_W p l e R s m args below meth c Q s0 D cA n0 u0 t.1 t.2.1 t.2.2.1 t.2.2.2) : z_W p l e R s m args below meth c Q s0 D cA n0 u0 pc L S q := by
  obtain ⟨hx, hb, hml, hown, hnm, hfr, hlo, ⟨hK, h99⟩, hlay, hcst, hno, hw⟩ := C
  simp only [z_oke, Bool.and_eq_true, Bool.or_eq_true, decide_eq_true_eq] at hok
  have hd0 := hok.1.1
  simp only [z_okn, z_swi, z_ln, Bool.false_eq_true, false_or, Bool.and_eq_true, Bool.or_eq_true, decide_eq_true_eq] at hok
  simp only [z_nx] at h
  obtain ⟨⟨hd, hlen⟩, -⟩ := hok
  subst hlen
  split at h
  next v r =>
    split at h
    next hv => cases h; exact zs_pop hx hb hv hd k
    next => cases h
  next => cases h
theorem zn_dup2  (C : z_C p R s m args meth c M D cA) (hLn : L.length = zm_n M) (hok : z_oke M (pc, .dup2, len, x) ps = true) (hn0 : n0 ≤ q.2.1) (hu0 : u0 ≤ q.2.2) (hrc : t.2.2.2.2.1 - n0 ≤ R.cells) (hrs : t.2.2.2.2.2 - u0 ≤ R.slots) (h : z_nx (.dup2) x pc len L S q = some t) (k : z_W p l e R s m args below meth c Q s0 D cA n0 u0 t.1 t.2.1 t.2.2.1 t.2.2.2) : z_W p l e R s m args below meth c Q s0 D cA n0 u0 pc L S q := by
  obtain ⟨hx, hb, hml, hown, hnm, hfr, hlo, ⟨hK, h99⟩, hlay, hcst, hno, hw⟩ := C
  simp only [z_oke, Bool.and_eq_true, Bool.or_eq_true, decide_eq_true_eq] at hok
  have hd0 := hok.1.1
  simp only [z_okn, z_swi, z_ln, Bool.false_eq_true, false_or, Bool.and_eq_true, Bool.or_eq_true, decide_eq_true_eq] at hok
  simp only [z_nx] at h
  obtain ⟨⟨hd, hlen⟩, -⟩ := hok
  subst hlen
  split at h
  next v w r =>
    split at h
    next hv => cases h; exact zs_dup2 hx hb hv.1 hv.2 hd k
    next => cases h
  next => cases h
theorem zn_ifCond {cn : Jvm.ClassFile.Cond} {o : Int} (C : z_C p R s m args meth c M D cA) (hLn : L.length = zm_n M) (hok : z_oke M (pc, .ifCond cn o, len, x) ps = true) (hn0 : n0 ≤ q.2.1) (hu0 : u0 ≤ q.2.2) (hrc : t.2.2.2.2.1 - n0 ≤ R.cells) (hrs : t.2.2.2.2.2 - u0 ≤ R.slots) (h : z_nx (.ifCond cn o) x pc len L S q = some t) (k : z_W p l e R s m args below meth c Q s0 D cA n0 u0 t.1 t.2.1 t.2.2.1 t.2.2.2) : z_W p l e R s m args below meth c Q s0 D cA n0 u0 pc L S q := by
  obtain ⟨hx, hb, hml, hown, hnm, hfr, hlo, ⟨hK, h99⟩, hlay, hcst, hno, hw⟩ := C
  simp only [z_oke, Bool.and_eq_true, Bool.or_eq_true, decide_eq_true_eq] at hok
  have hd0 := hok.1.1
  simp only [z_okn, z_swi, z_ln, Bool.false_eq_true, false_or, Bool.and_eq_true, Bool.or_eq_true, decide_eq_true_eq] at hok
  simp only [z_nx] at h
  obtain ⟨⟨hd, hlen⟩, -⟩ := hok
  subst hlen
  split at h
  next v r =>
    cases cn with
    | eq => exact zs_if_eq hx hb hd h k
    | ne => exact zs_if_ne hx hb hd h k
    | lt => exact zs_if_lt hx hb hd h k
    | ge => exact zs_if_ge hx hb hd h k
    | gt => exact zs_if_gt hx hb hd h k
    | le => exact zs_if_le hx hb hd h k
  next => cases h
theorem zn_if_icmp {cn : Jvm.ClassFile.Cond} {o : Int} (C : z_C p R s m args meth c M D cA) (hLn : L.length = zm_n M) (hok : z_oke M (pc, .if_icmp cn o, len, x) ps = true) (hn0 : n0 ≤ q.2.1) (hu0 : u0 ≤ q.2.2) (hrc : t.2.2.2.2.1 - n0 ≤ R.cells) (hrs : t.2.2.2.2.2 - u0 ≤ R.slots) (h : z_nx (.if_icmp cn o) x pc len L S q = some t) (k : z_W p l e R s m args below meth c Q s0 D cA n0 u0 t.1 t.2.1 t.2.2.1 t.2.2.2) : z_W p l e R s m args below meth c Q s0 D cA n0 u0 pc L S q := by
  obtain ⟨hx, hb, hml, hown, hnm, hfr, hlo, ⟨hK, h99⟩, hlay, hcst, hno, hw⟩ := C
  simp only [z_oke, Bool.and_eq_true, Bool.or_eq_true, decide_eq_true_eq] at hok
  have hd0 := hok.1.1
  simp only [z_okn, z_swi, z_ln, Bool.false_eq_true, false_or, Bool.and_eq_true, Bool.or_eq_true, decide_eq_true_eq] at hok
  simp only [z_nx] at h
  obtain ⟨⟨hd, hlen⟩, -⟩ := hok
  subst hlen
  split at h
  next w v r =>
    cases cn with
    | eq => exact zs_icmp_eq hx hb hd h k
    | ne => exact zs_icmp_ne hx hb hd h k
    | lt => exact zs_icmp_lt hx hb hd h k
    | ge => exact zs_icmp_ge hx hb hd h k
    | gt => exact zs_icmp_gt hx hb hd h k
    | le => exact zs_icmp_le hx hb hd h k
  next => cases h
theorem zn_if_acmp {cn : Jvm.ClassFile.ACond} {o : Int} (C : z_C p R s m args meth c M D cA) (hLn : L.length = zm_n M) (hok : z_oke M (pc, .if_acmp cn o, len, x) ps = true) (hn0 : n0 ≤ q.2.1) (hu0 : u0 ≤ q.2.2) (hrc : t.2.2.2.2.1 - n0 ≤ R.cells) (hrs : t.2.2.2.2.2 - u0 ≤ R.slots) (h : z_nx (.if_acmp cn o) x pc len L S q = some t) (k : z_W p l e R s m args below meth c Q s0 D cA n0 u0 t.1 t.2.1 t.2.2.1 t.2.2.2) : z_W p l e R s m args below meth c Q s0 D cA n0 u0 pc L S q := by
  obtain ⟨hx, hb, hml, hown, hnm, hfr, hlo, ⟨hK, h99⟩, hlay, hcst, hno, hw⟩ := C
  simp only [z_oke, Bool.and_eq_true, Bool.or_eq_true, decide_eq_true_eq] at hok
  have hd0 := hok.1.1
  simp only [z_okn, z_swi, z_ln, Bool.false_eq_true, false_or, Bool.and_eq_true, Bool.or_eq_true, decide_eq_true_eq] at hok
  simp only [z_nx] at h
  obtain ⟨⟨hd, hlen⟩, -⟩ := hok
  subst hlen
  split at h
  next w v r =>
    split at h
    next hv =>
      cases cn with
      | eq => exact zs_acmp_eq hx hb hv.1 hv.2 hd h k
      | ne => exact zs_acmp_ne hx hb hv.1 hv.2 hd h k
    next => cases h
  next => cases h
theorem zn_ifnull {o : Int} (C : z_C p R s m args meth c M D cA) (hLn : L.length = zm_n M) (hok : z_oke M (pc, .ifnull o, len, x) ps = true) (hn0 : n0 ≤ q.2.1) (hu0 : u0 ≤ q.2.2) (hrc : t.2.2.2.2.1 - n0 ≤ R.cells) (hrs : t.2.2.2.2.2 - u0 ≤ R.slots) (h : z_nx (.ifnull o) x pc len L S q = some t) (k : z_W p l e R s m args below meth c Q s0 D cA n0 u0 t.1 t.2.1 t.2.2.1 t.2.2.2) : z_W p l e R s m args below meth c Q s0 D cA n0 u0 pc L S q := by
  obtain ⟨hx, hb, hml, hown, hnm, hfr, hlo, ⟨hK, h99⟩, hlay, hcst, hno, hw⟩ := C
  simp only [z_oke, Bool.and_eq_true, Bool.or_eq_true, decide_eq_true_eq] at hok
  have hd0 := hok.1.1
  simp only [z_okn, z_swi, z_ln, Bool.false_eq_true, false_or, Bool.and_eq_true, Bool.or_eq_true, decide_eq_true_eq] at hok
  simp only [z_nx] at h
  obtain ⟨⟨hd, hlen⟩, -⟩ := hok
  subst hlen
  split at h
  next => cases h; exact zs_ifnull hx hb hd k
  next => exact zs_ifnullN hx hb hd h k
  next => cases h
theorem zn_ifnonnull {o : Int} (C : z_C p R s m args meth c M D cA) (hLn : L.length = zm_n M) (hok : z_oke M (pc, .ifnonnull o, len, x) ps = true) (hn0 : n0 ≤ q.2.1) (hu0 : u0 ≤ q.2.2) (hrc : t.2.2.2.2.1 - n0 ≤ R.cells) (hrs : t.2.2.2.2.2 - u0 ≤ R.slots) (h : z_nx (.ifnonnull o) x pc len L S q = some t) (k : z_W p l e R s m args below meth c Q s0 D cA n0 u0 t.1 t.2.1 t.2.2.1 t.2.2.2) : z_W p l e R s m args below meth c Q s0 D cA n0 u0 pc L S q := by
  obtain ⟨hx, hb, hml, hown, hnm, hfr, hlo, ⟨hK, h99⟩, hlay, hcst, hno, hw⟩ := C
  simp only [z_oke, Bool.and_eq_true, Bool.or_eq_true, decide_eq_true_eq] at hok
  have hd0 := hok.1.1
  simp only [z_okn, z_swi, z_ln, Bool.false_eq_true, false_or, Bool.and_eq_true, Bool.or_eq_true, decide_eq_true_eq] at hok
  simp only [z_nx] at h
  obtain ⟨⟨hd, hlen⟩, -⟩ := hok
  subst hlen
  split at h
  next => exact zs_ifnonnull hx hb hd h k
  next => cases h; exact zs_ifnonnullN hx hb hd k
  next => cases h
theorem zn_goto {o : Int} (C : z_C p R s m args meth c M D cA) (hLn : L.length = zm_n M) (hok : z_oke M (pc, .goto o, len, x) ps = true) (hn0 : n0 ≤ q.2.1) (hu0 : u0 ≤ q.2.2) (hrc : t.2.2.2.2.1 - n0 ≤ R.cells) (hrs : t.2.2.2.2.2 - u0 ≤ R.slots) (h : z_nx (.goto o) x pc len L S q = some t) (k : z_W p l e R s m args below meth c Q s0 D cA n0 u0 t.1 t.2.1 t.2.2.1 t.2.2.2) : z_W p l e R s m args below meth c Q s0 D cA n0 u0 pc L S q := by
  obtain ⟨hx, hb, hml, hown, hnm, hfr, hlo, ⟨hK, h99⟩, hlay, hcst, hno, hw⟩ := C
  simp only [z_oke, Bool.and_eq_true, Bool.or_eq_true, decide_eq_true_eq] at hok
  have hd0 := hok.1.1
  simp only [z_okn, z_swi, z_ln, Bool.false_eq_true, false_or, Bool.and_eq_true, Bool.or_eq_true, decide_eq_true_eq] at hok
  simp only [z_nx] at h
  obtain ⟨⟨hd, hlen⟩, -⟩ := hok
  exact zs_goto hx hb (by rw [← hlen]; exact hd) h k
theorem zn_tableswitch {d lo hi : Int} {os : Array Int} (C : z_C p R s m args meth c M D cA) (hLn : L.length = zm_n M) (hok : z_oke M (pc, .tableswitch d lo hi os, len, x) ps = true) (hn0 : n0 ≤ q.2.1) (hu0 : u0 ≤ q.2.2) (hrc : t.2.2.2.2.1 - n0 ≤ R.cells) (hrs : t.2.2.2.2.2 - u0 ≤ R.slots) (h : z_nx (.tableswitch d lo hi os) x pc len L S q = some t) (k : z_W p l e R s m args below meth c Q s0 D cA n0 u0 t.1 t.2.1 t.2.2.1 t.2.2.2) : z_W p l e R s m args below meth c Q s0 D cA n0 u0 pc L S q := by
  obtain ⟨hx, hb, hml, hown, hnm, hfr, hlo, ⟨hK, h99⟩, hlay, hcst, hno, hw⟩ := C
  simp only [z_oke, Bool.and_eq_true, Bool.or_eq_true, decide_eq_true_eq] at hok
  have hd0 := hok.1.1
  simp only [z_okn, z_swi, z_ln, Bool.false_eq_true, false_or, Bool.and_eq_true, Bool.or_eq_true, decide_eq_true_eq] at hok
  simp only [z_nx] at h
  have hd := hd0
  split at h
  next v r =>
    split at h
    next hc => exact zs_tableOut hx hb hd hc h k
    next hc =>
      split at h
      next o ho => exact zs_tableIn hx hb hd hc ho h k
      next => cases h
  next => cases h
theorem zn_getfield {idx : Nat} (C : z_C p R s m args meth c M D cA) (hLn : L.length = zm_n M) (hok : z_oke M (pc, .getfield idx, len, x) ps = true) (hn0 : n0 ≤ q.2.1) (hu0 : u0 ≤ q.2.2) (hrc : t.2.2.2.2.1 - n0 ≤ R.cells) (hrs : t.2.2.2.2.2 - u0 ≤ R.slots) (h : z_nx (.getfield idx) x pc len L S q = some t) (k : z_W p l e R s m args below meth c Q s0 D cA n0 u0 t.1 t.2.1 t.2.2.1 t.2.2.2) : z_W p l e R s m args below meth c Q s0 D cA n0 u0 pc L S q := by
  obtain ⟨hx, hb, hml, hown, hnm, hfr, hlo, ⟨hK, h99⟩, hlay, hcst, hno, hw⟩ := C
  simp only [z_oke, Bool.and_eq_true, Bool.or_eq_true, decide_eq_true_eq] at hok
  have hd0 := hok.1.1
  simp only [z_okn, z_swi, z_ln, Bool.false_eq_true, false_or, Bool.and_eq_true, Bool.or_eq_true, decide_eq_true_eq] at hok
  simp only [z_nx] at h
  obtain ⟨hd, hlen⟩ := hok.1
  subst hlen
  split at h
  next a r =>
    obtain ⟨v, hv, rfl⟩ := zi_psh h
    obtain ⟨o, ho, ht, rfl⟩ := zi_get hv
    have h9 := List.all_eq_true.mp hok.2 o.1 ht
    simp only [Bool.and_eq_true, decide_eq_true_eq] at h9
    obtain ⟨h90, h9⟩ := h9
    split at h9
    next rr hr =>
      simp only [Bool.and_eq_true, decide_eq_true_eq] at h9
      exact zs_getf hx hb hown hK hlay ho h90 hr h9.1 (hw _ (z_wd_ok h9.2).1 (z_wd_ok h9.2).2) hd k
    next => cases h9
  next => cases h
theorem zn_putfield {idx : Nat} (C : z_C p R s m args meth c M D cA) (hLn : L.length = zm_n M) (hok : z_oke M (pc, .putfield idx, len, x) ps = true) (hn0 : n0 ≤ q.2.1) (hu0 : u0 ≤ q.2.2) (hrc : t.2.2.2.2.1 - n0 ≤ R.cells) (hrs : t.2.2.2.2.2 - u0 ≤ R.slots) (h : z_nx (.putfield idx) x pc len L S q = some t) (k : z_W p l e R s m args below meth c Q s0 D cA n0 u0 t.1 t.2.1 t.2.2.1 t.2.2.2) : z_W p l e R s m args below meth c Q s0 D cA n0 u0 pc L S q := by
  obtain ⟨hx, hb, hml, hown, hnm, hfr, hlo, ⟨hK, h99⟩, hlay, hcst, hno, hw⟩ := C
  simp only [z_oke, Bool.and_eq_true, Bool.or_eq_true, decide_eq_true_eq] at hok
  have hd0 := hok.1.1
  simp only [z_okn, z_swi, z_ln, Bool.false_eq_true, false_or, Bool.and_eq_true, Bool.or_eq_true, decide_eq_true_eq] at hok
  simp only [z_nx] at h
  obtain ⟨hd, hlen⟩ := hok.1
  subst hlen
  split at h
  next v a r =>
    split at h
    next s' hs =>
      cases h
      obtain ⟨o, ho, ht, hn, hf, rfl⟩ := zi_put hs
      have h9 := List.all_eq_true.mp hok.2 o.1 ht
      simp only [Bool.and_eq_true, decide_eq_true_eq] at h9
      obtain ⟨h90, h9⟩ := h9
      split at h9
      next rr hr =>
        simp only [Bool.and_eq_true, decide_eq_true_eq] at h9
        obtain ⟨⟨g1, g2⟩, g3⟩ := h9
        simp only [Bool.or_eq_true, Bool.not_eq_true', Bool.and_eq_true, decide_eq_true_eq] at g3
        exact zs_putf hx hb hown hK hlay ho h90 hr g1 (hw _ (z_wd_ok g2).1 (z_wd_ok g2).2) (g3.imp id (fun z => ⟨hnm.trans z.1, z.2⟩)) hn hf hd k
      next => cases h9
    next => cases h
  next => cases h
theorem zn_iaload  (C : z_C p R s m args meth c M D cA) (hLn : L.length = zm_n M) (hok : z_oke M (pc, .iaload, len, x) ps = true) (hn0 : n0 ≤ q.2.1) (hu0 : u0 ≤ q.2.2) (hrc : t.2.2.2.2.1 - n0 ≤ R.cells) (hrs : t.2.2.2.2.2 - u0 ≤ R.slots) (h : z_nx (.iaload) x pc len L S q = some t) (k : z_W p l e R s m args below meth c Q s0 D cA n0 u0 t.1 t.2.1 t.2.2.1 t.2.2.2) : z_W p l e R s m args below meth c Q s0 D cA n0 u0 pc L S q := by
  obtain ⟨hx, hb, hml, hown, hnm, hfr, hlo, ⟨hK, h99⟩, hlay, hcst, hno, hw⟩ := C
  simp only [z_oke, Bool.and_eq_true, Bool.or_eq_true, decide_eq_true_eq] at hok
  have hd0 := hok.1.1
  simp only [z_okn, z_swi, z_ln, Bool.false_eq_true, false_or, Bool.and_eq_true, Bool.or_eq_true, decide_eq_true_eq] at hok
  simp only [z_nx] at h
  obtain ⟨⟨hd, hlen⟩, -⟩ := hok
  subst hlen
  split at h
  next j a r =>
    obtain ⟨v, hv, rfl⟩ := zi_psh h
    obtain ⟨o, ho, ht, hin, rfl⟩ := zi_at hv
    exact zs_iald hx hb hK h99 ho (by simpa using ht) hin hd k
  next => cases h
theorem zn_laload  (C : z_C p R s m args meth c M D cA) (hLn : L.length = zm_n M) (hok : z_oke M (pc, .laload, len, x) ps = true) (hn0 : n0 ≤ q.2.1) (hu0 : u0 ≤ q.2.2) (hrc : t.2.2.2.2.1 - n0 ≤ R.cells) (hrs : t.2.2.2.2.2 - u0 ≤ R.slots) (h : z_nx (.laload) x pc len L S q = some t) (k : z_W p l e R s m args below meth c Q s0 D cA n0 u0 t.1 t.2.1 t.2.2.1 t.2.2.2) : z_W p l e R s m args below meth c Q s0 D cA n0 u0 pc L S q := by
  obtain ⟨hx, hb, hml, hown, hnm, hfr, hlo, ⟨hK, h99⟩, hlay, hcst, hno, hw⟩ := C
  simp only [z_oke, Bool.and_eq_true, Bool.or_eq_true, decide_eq_true_eq] at hok
  have hd0 := hok.1.1
  simp only [z_okn, z_swi, z_ln, Bool.false_eq_true, false_or, Bool.and_eq_true, Bool.or_eq_true, decide_eq_true_eq] at hok
  simp only [z_nx] at h
  obtain ⟨⟨hd, hlen⟩, -⟩ := hok
  subst hlen
  split at h
  next j a r =>
    obtain ⟨v, hv, rfl⟩ := zi_psh h
    obtain ⟨o, ho, ht, hin, rfl⟩ := zi_at hv
    exact zs_lald hx hb hK ho (by simpa using ht) hin hd k
  next => cases h
theorem zn_baload  (C : z_C p R s m args meth c M D cA) (hLn : L.length = zm_n M) (hok : z_oke M (pc, .baload, len, x) ps = true) (hn0 : n0 ≤ q.2.1) (hu0 : u0 ≤ q.2.2) (hrc : t.2.2.2.2.1 - n0 ≤ R.cells) (hrs : t.2.2.2.2.2 - u0 ≤ R.slots) (h : z_nx (.baload) x pc len L S q = some t) (k : z_W p l e R s m args below meth c Q s0 D cA n0 u0 t.1 t.2.1 t.2.2.1 t.2.2.2) : z_W p l e R s m args below meth c Q s0 D cA n0 u0 pc L S q := by
  obtain ⟨hx, hb, hml, hown, hnm, hfr, hlo, ⟨hK, h99⟩, hlay, hcst, hno, hw⟩ := C
  simp only [z_oke, Bool.and_eq_true, Bool.or_eq_true, decide_eq_true_eq] at hok
  have hd0 := hok.1.1
  simp only [z_okn, z_swi, z_ln, Bool.false_eq_true, false_or, Bool.and_eq_true, Bool.or_eq_true, decide_eq_true_eq] at hok
  simp only [z_nx] at h
  obtain ⟨⟨hd, hlen⟩, -⟩ := hok
  subst hlen
  split at h
  next j a r =>
    obtain ⟨v, hv, rfl⟩ := zi_psh h
    obtain ⟨o, ho, ht, hin, rfl⟩ := zi_at hv
    exact zs_bald hx hb hK ho (by simpa using ht) hin hd k
  next => cases h
theorem zn_aaload  (C : z_C p R s m args meth c M D cA) (hLn : L.length = zm_n M) (hok : z_oke M (pc, .aaload, len, x) ps = true) (hn0 : n0 ≤ q.2.1) (hu0 : u0 ≤ q.2.2) (hrc : t.2.2.2.2.1 - n0 ≤ R.cells) (hrs : t.2.2.2.2.2 - u0 ≤ R.slots) (h : z_nx (.aaload) x pc len L S q = some t) (k : z_W p l e R s m args below meth c Q s0 D cA n0 u0 t.1 t.2.1 t.2.2.1 t.2.2.2) : z_W p l e R s m args below meth c Q s0 D cA n0 u0 pc L S q := by
  obtain ⟨hx, hb, hml, hown, hnm, hfr, hlo, ⟨hK, h99⟩, hlay, hcst, hno, hw⟩ := C
  simp only [z_oke, Bool.and_eq_true, Bool.or_eq_true, decide_eq_true_eq] at hok
  have hd0 := hok.1.1
  simp only [z_okn, z_swi, z_ln, Bool.false_eq_true, false_or, Bool.and_eq_true, Bool.or_eq_true, decide_eq_true_eq] at hok
  simp only [z_nx] at h
  obtain ⟨⟨hd, hlen⟩, -⟩ := hok
  subst hlen
  split at h
  next j a r =>
    obtain ⟨v, hv, rfl⟩ := zi_psh h
    obtain ⟨o, ho, ht, hin, rfl⟩ := zi_at hv
    exact zs_aald hx hb hK ho (by simpa using ht) hin hd k
  next => cases h
theorem zn_iastore  (C : z_C p R s m args meth c M D cA) (hLn : L.length = zm_n M) (hok : z_oke M (pc, .iastore, len, x) ps = true) (hn0 : n0 ≤ q.2.1) (hu0 : u0 ≤ q.2.2) (hrc : t.2.2.2.2.1 - n0 ≤ R.cells) (hrs : t.2.2.2.2.2 - u0 ≤ R.slots) (h : z_nx (.iastore) x pc len L S q = some t) (k : z_W p l e R s m args below meth c Q s0 D cA n0 u0 t.1 t.2.1 t.2.2.1 t.2.2.2) : z_W p l e R s m args below meth c Q s0 D cA n0 u0 pc L S q := by
  obtain ⟨hx, hb, hml, hown, hnm, hfr, hlo, ⟨hK, h99⟩, hlay, hcst, hno, hw⟩ := C
  simp only [z_oke, Bool.and_eq_true, Bool.or_eq_true, decide_eq_true_eq] at hok
  have hd0 := hok.1.1
  simp only [z_okn, z_swi, z_ln, Bool.false_eq_true, false_or, Bool.and_eq_true, Bool.or_eq_true, decide_eq_true_eq] at hok
  simp only [z_nx] at h
  obtain ⟨⟨hd, hlen⟩, -⟩ := hok
  subst hlen
  split at h
  next v j a r =>
    split at h
    next s' hs =>
      cases h
      obtain ⟨o, ho, ht, hin, rfl⟩ := zi_st hs
      exact zs_iast hx hb hK ho ht hin hd k
    next => cases h
  next => cases h
theorem zn_lastore  (C : z_C p R s m args meth c M D cA) (hLn : L.length = zm_n M) (hok : z_oke M (pc, .lastore, len, x) ps = true) (hn0 : n0 ≤ q.2.1) (hu0 : u0 ≤ q.2.2) (hrc : t.2.2.2.2.1 - n0 ≤ R.cells) (hrs : t.2.2.2.2.2 - u0 ≤ R.slots) (h : z_nx (.lastore) x pc len L S q = some t) (k : z_W p l e R s m args below meth c Q s0 D cA n0 u0 t.1 t.2.1 t.2.2.1 t.2.2.2) : z_W p l e R s m args below meth c Q s0 D cA n0 u0 pc L S q := by
  obtain ⟨hx, hb, hml, hown, hnm, hfr, hlo, ⟨hK, h99⟩, hlay, hcst, hno, hw⟩ := C
  simp only [z_oke, Bool.and_eq_true, Bool.or_eq_true, decide_eq_true_eq] at hok
  have hd0 := hok.1.1
  simp only [z_okn, z_swi, z_ln, Bool.false_eq_true, false_or, Bool.and_eq_true, Bool.or_eq_true, decide_eq_true_eq] at hok
  simp only [z_nx] at h
  obtain ⟨⟨hd, hlen⟩, -⟩ := hok
  subst hlen
  split at h
  next v j a r =>
    split at h
    next s' hs =>
      cases h
      obtain ⟨o, ho, ht, hin, rfl⟩ := zi_st hs
      exact zs_last hx hb hK ho ht hin hd k
    next => cases h
  next => cases h
theorem zn_bastore  (C : z_C p R s m args meth c M D cA) (hLn : L.length = zm_n M) (hok : z_oke M (pc, .bastore, len, x) ps = true) (hn0 : n0 ≤ q.2.1) (hu0 : u0 ≤ q.2.2) (hrc : t.2.2.2.2.1 - n0 ≤ R.cells) (hrs : t.2.2.2.2.2 - u0 ≤ R.slots) (h : z_nx (.bastore) x pc len L S q = some t) (k : z_W p l e R s m args below meth c Q s0 D cA n0 u0 t.1 t.2.1 t.2.2.1 t.2.2.2) : z_W p l e R s m args below meth c Q s0 D cA n0 u0 pc L S q := by
  obtain ⟨hx, hb, hml, hown, hnm, hfr, hlo, ⟨hK, h99⟩, hlay, hcst, hno, hw⟩ := C
  simp only [z_oke, Bool.and_eq_true, Bool.or_eq_true, decide_eq_true_eq] at hok
  have hd0 := hok.1.1
  simp only [z_okn, z_swi, z_ln, Bool.false_eq_true, false_or, Bool.and_eq_true, Bool.or_eq_true, decide_eq_true_eq] at hok
  simp only [z_nx] at h
  obtain ⟨⟨hd, hlen⟩, -⟩ := hok
  subst hlen
  split at h
  next v j a r =>
    split at h
    next s' hs =>
      cases h
      obtain ⟨o, ho, ht, hin, rfl⟩ := zi_st hs
      exact zs_bast hx hb hK ho ht hin hd k
    next => cases h
  next => cases h
theorem zn_aastore  (C : z_C p R s m args meth c M D cA) (hLn : L.length = zm_n M) (hok : z_oke M (pc, .aastore, len, x) ps = true) (hn0 : n0 ≤ q.2.1) (hu0 : u0 ≤ q.2.2) (hrc : t.2.2.2.2.1 - n0 ≤ R.cells) (hrs : t.2.2.2.2.2 - u0 ≤ R.slots) (h : z_nx (.aastore) x pc len L S q = some t) (k : z_W p l e R s m args below meth c Q s0 D cA n0 u0 t.1 t.2.1 t.2.2.1 t.2.2.2) : z_W p l e R s m args below meth c Q s0 D cA n0 u0 pc L S q := by
  obtain ⟨hx, hb, hml, hown, hnm, hfr, hlo, ⟨hK, h99⟩, hlay, hcst, hno, hw⟩ := C
  simp only [z_oke, Bool.and_eq_true, Bool.or_eq_true, decide_eq_true_eq] at hok
  have hd0 := hok.1.1
  simp only [z_okn, z_swi, z_ln, Bool.false_eq_true, false_or, Bool.and_eq_true, Bool.or_eq_true, decide_eq_true_eq] at hok
  simp only [z_nx] at h
  obtain ⟨⟨hd, hlen⟩, -⟩ := hok
  subst hlen
  split at h
  next v j a r =>
    split at h
    next s' hs =>
      cases h
      obtain ⟨o, ho, ht, hmay, hin, rfl⟩ := zi_ast hs
      unfold z_may at hmay
      split at hmay
      next => exact zs_aastN hx hb hK ho ht hin hd k
      next b =>
        split at hmay
        next o2 ho2 =>
          refine zs_aast hx hb hK hcst ho ho2 ?_ hin hd k
          split at hmay
          next h3 => exact Or.inl ⟨h3, of_decide_eq_true hmay⟩
          next h3 => exact Or.inr ⟨ht.resolve_left h3, of_decide_eq_true hmay⟩
        next => cases hmay
      next => cases hmay
    next => cases h
  next => cases h
theorem zn_arraylength  (C : z_C p R s m args meth c M D cA) (hLn : L.length = zm_n M) (hok : z_oke M (pc, .arraylength, len, x) ps = true) (hn0 : n0 ≤ q.2.1) (hu0 : u0 ≤ q.2.2) (hrc : t.2.2.2.2.1 - n0 ≤ R.cells) (hrs : t.2.2.2.2.2 - u0 ≤ R.slots) (h : z_nx (.arraylength) x pc len L S q = some t) (k : z_W p l e R s m args below meth c Q s0 D cA n0 u0 t.1 t.2.1 t.2.2.1 t.2.2.2) : z_W p l e R s m args below meth c Q s0 D cA n0 u0 pc L S q := by
  obtain ⟨hx, hb, hml, hown, hnm, hfr, hlo, ⟨hK, h99⟩, hlay, hcst, hno, hw⟩ := C
  simp only [z_oke, Bool.and_eq_true, Bool.or_eq_true, decide_eq_true_eq] at hok
  have hd0 := hok.1.1
  simp only [z_okn, z_swi, z_ln, Bool.false_eq_true, false_or, Bool.and_eq_true, Bool.or_eq_true, decide_eq_true_eq] at hok
  simp only [z_nx] at h
  obtain ⟨⟨hd, hlen⟩, -⟩ := hok
  subst hlen
  split at h
  next a r =>
    obtain ⟨v, hv, rfl⟩ := zi_psh h
    obtain ⟨o, ho, ht, rfl⟩ := zi_len hv
    exact zs_alen hx hb hK h99 ho ht hd k
  next => cases h
theorem zn_ldc {idx : Nat} (C : z_C p R s m args meth c M D cA) (hLn : L.length = zm_n M) (hok : z_oke M (pc, .ldc idx, len, x) ps = true) (hn0 : n0 ≤ q.2.1) (hu0 : u0 ≤ q.2.2) (hrc : t.2.2.2.2.1 - n0 ≤ R.cells) (hrs : t.2.2.2.2.2 - u0 ≤ R.slots) (h : z_nx (.ldc idx) x pc len L S q = some t) (k : z_W p l e R s m args below meth c Q s0 D cA n0 u0 t.1 t.2.1 t.2.2.1 t.2.2.2) : z_W p l e R s m args below meth c Q s0 D cA n0 u0 pc L S q := by
  obtain ⟨hx, hb, hml, hown, hnm, hfr, hlo, ⟨hK, h99⟩, hlay, hcst, hno, hw⟩ := C
  simp only [z_oke, Bool.and_eq_true, Bool.or_eq_true, decide_eq_true_eq] at hok
  have hd0 := hok.1.1
  simp only [z_okn, z_swi, z_ln, Bool.false_eq_true, false_or, Bool.and_eq_true, Bool.or_eq_true, decide_eq_true_eq] at hok
  simp only [z_nx] at h
  obtain ⟨⟨hd, hlen⟩, h2⟩ := hok
  subst hlen
  split at h
  next he =>
    cases h
    rcases h2 with h2 | h2
    · exact absurd he h2
    · exact zs_ldc hx hb hown (hw _ (z_wd_ok h2).1 (z_wd_ok h2).2) hd k
  next => cases h
theorem zn_ldc2_w {idx : Nat} (C : z_C p R s m args meth c M D cA) (hLn : L.length = zm_n M) (hok : z_oke M (pc, .ldc2_w idx, len, x) ps = true) (hn0 : n0 ≤ q.2.1) (hu0 : u0 ≤ q.2.2) (hrc : t.2.2.2.2.1 - n0 ≤ R.cells) (hrs : t.2.2.2.2.2 - u0 ≤ R.slots) (h : z_nx (.ldc2_w idx) x pc len L S q = some t) (k : z_W p l e R s m args below meth c Q s0 D cA n0 u0 t.1 t.2.1 t.2.2.1 t.2.2.2) : z_W p l e R s m args below meth c Q s0 D cA n0 u0 pc L S q := by
  obtain ⟨hx, hb, hml, hown, hnm, hfr, hlo, ⟨hK, h99⟩, hlay, hcst, hno, hw⟩ := C
  simp only [z_oke, Bool.and_eq_true, Bool.or_eq_true, decide_eq_true_eq] at hok
  have hd0 := hok.1.1
  simp only [z_okn, z_swi, z_ln, Bool.false_eq_true, false_or, Bool.and_eq_true, Bool.or_eq_true, decide_eq_true_eq] at hok
  simp only [z_nx] at h
  obtain ⟨⟨hd, hlen⟩, h2⟩ := hok
  subst hlen
  cases h
  exact zs_ldc2 hx hb hown (hw _ (z_wd_ok h2).1 (z_wd_ok h2).2) hd k
theorem zn_new {idx : Nat} (C : z_C p R s m args meth c M D cA) (hLn : L.length = zm_n M) (hok : z_oke M (pc, .new idx, len, x) ps = true) (hn0 : n0 ≤ q.2.1) (hu0 : u0 ≤ q.2.2) (hrc : t.2.2.2.2.1 - n0 ≤ R.cells) (hrs : t.2.2.2.2.2 - u0 ≤ R.slots) (h : z_nx (.new idx) x pc len L S q = some t) (k : z_W p l e R s m args below meth c Q s0 D cA n0 u0 t.1 t.2.1 t.2.2.1 t.2.2.2) : z_W p l e R s m args below meth c Q s0 D cA n0 u0 pc L S q := by
  obtain ⟨hx, hb, hml, hown, hnm, hfr, hlo, ⟨hK, h99⟩, hlay, hcst, hno, hw⟩ := C
  simp only [z_oke, Bool.and_eq_true, Bool.or_eq_true, decide_eq_true_eq] at hok
  have hd0 := hok.1.1
  simp only [z_okn, z_swi, z_ln, Bool.false_eq_true, false_or, Bool.and_eq_true, Bool.or_eq_true, decide_eq_true_eq] at hok
  simp only [z_nx] at h
  obtain ⟨⟨hd, hlen⟩, h2⟩ := hok
  subst hlen
  split at h
  next h90 =>
    rcases h2 with h2 | h2
    · omega
    · split at h
      next rr hr =>
        rw [hr] at h2
        simp only [Bool.and_eq_true] at h2
        obtain ⟨⟨g1, g2⟩, g3⟩ := h2
        cases h
        exact zs_new hx hb hown hK hlay h90 hr (hw _ (z_wd_ok g1).1 (z_wd_ok g1).2) (hw _ (z_wd_ok g2).1 (z_wd_ok g2).2) (hw _ (z_wd_ok g3).1 (z_wd_ok g3).2) hn0 hu0 hrc hrs hd k
      next => cases h
  next => cases h
theorem zn_newarray {ty : ArrayType} (C : z_C p R s m args meth c M D cA) (hLn : L.length = zm_n M) (hok : z_oke M (pc, .newarray ty, len, x) ps = true) (hn0 : n0 ≤ q.2.1) (hu0 : u0 ≤ q.2.2) (hrc : t.2.2.2.2.1 - n0 ≤ R.cells) (hrs : t.2.2.2.2.2 - u0 ≤ R.slots) (h : z_nx (.newarray ty) x pc len L S q = some t) (k : z_W p l e R s m args below meth c Q s0 D cA n0 u0 t.1 t.2.1 t.2.2.1 t.2.2.2) : z_W p l e R s m args below meth c Q s0 D cA n0 u0 pc L S q := by
  obtain ⟨hx, hb, hml, hown, hnm, hfr, hlo, ⟨hK, h99⟩, hlay, hcst, hno, hw⟩ := C
  simp only [z_oke, Bool.and_eq_true, Bool.or_eq_true, decide_eq_true_eq] at hok
  have hd0 := hok.1.1
  simp only [z_okn, z_swi, z_ln, Bool.false_eq_true, false_or, Bool.and_eq_true, Bool.or_eq_true, decide_eq_true_eq] at hok
  simp only [z_nx] at h
  obtain ⟨⟨hd, hlen⟩, h2⟩ := hok
  subst hlen
  split at h
  next w hw2 =>
    obtain ⟨n, r, rfl, g1, g2, rfl⟩ := zi_nwa h
    exact zs_newa hx hb hK hw2 (hw _ (z_wd_ok h2).1 (z_wd_ok h2).2) g1 g2 hn0 hu0 hrc hrs hd k
  next => cases h
theorem zn_anewarray {idx : Nat} (C : z_C p R s m args meth c M D cA) (hLn : L.length = zm_n M) (hok : z_oke M (pc, .anewarray idx, len, x) ps = true) (hn0 : n0 ≤ q.2.1) (hu0 : u0 ≤ q.2.2) (hrc : t.2.2.2.2.1 - n0 ≤ R.cells) (hrs : t.2.2.2.2.2 - u0 ≤ R.slots) (h : z_nx (.anewarray idx) x pc len L S q = some t) (k : z_W p l e R s m args below meth c Q s0 D cA n0 u0 t.1 t.2.1 t.2.2.1 t.2.2.2) : z_W p l e R s m args below meth c Q s0 D cA n0 u0 pc L S q := by
  obtain ⟨hx, hb, hml, hown, hnm, hfr, hlo, ⟨hK, h99⟩, hlay, hcst, hno, hw⟩ := C
  simp only [z_oke, Bool.and_eq_true, Bool.or_eq_true, decide_eq_true_eq] at hok
  have hd0 := hok.1.1
  simp only [z_okn, z_swi, z_ln, Bool.false_eq_true, false_or, Bool.and_eq_true, Bool.or_eq_true, decide_eq_true_eq] at hok
  simp only [z_nx] at h
  obtain ⟨⟨hd, hlen⟩, h2⟩ := hok
  subst hlen
  split at h
  next ht =>
    obtain ⟨n, r, rfl, g1, g2, rfl⟩ := zi_nwa h
    split at h2
    next C hC =>
      simp only [Bool.and_eq_true] at h2
      exact zs_anew hx hb hown hK ht hC (hw _ (z_wd_ok h2.1).1 (z_wd_ok h2.1).2) (hw _ (z_wd_ok h2.2).1 (z_wd_ok h2.2).2) g1 g2 hn0 hu0 hrc hrs hd k
    next => cases h2
  next => cases h
theorem zn_checkcast {idx : Nat} (C : z_C p R s m args meth c M D cA) (hLn : L.length = zm_n M) (hok : z_oke M (pc, .checkcast idx, len, x) ps = true) (hn0 : n0 ≤ q.2.1) (hu0 : u0 ≤ q.2.2) (hrc : t.2.2.2.2.1 - n0 ≤ R.cells) (hrs : t.2.2.2.2.2 - u0 ≤ R.slots) (h : z_nx (.checkcast idx) x pc len L S q = some t) (k : z_W p l e R s m args below meth c Q s0 D cA n0 u0 t.1 t.2.1 t.2.2.1 t.2.2.2) : z_W p l e R s m args below meth c Q s0 D cA n0 u0 pc L S q := by
  obtain ⟨hx, hb, hml, hown, hnm, hfr, hlo, ⟨hK, h99⟩, hlay, hcst, hno, hw⟩ := C
  simp only [z_oke, Bool.and_eq_true, Bool.or_eq_true, decide_eq_true_eq] at hok
  have hd0 := hok.1.1
  simp only [z_okn, z_swi, z_ln, Bool.false_eq_true, false_or, Bool.and_eq_true, Bool.or_eq_true, decide_eq_true_eq] at hok
  simp only [z_nx] at h
  obtain ⟨⟨hd, hlen⟩, h2, h3⟩ := hok
  subst hlen
  split at h3
  next rr hr =>
    split at h
    next a r =>
      split at h
      next o ho =>
        split at h
        next hc =>
          cases h
          have h90 : o.1 < 90 := by
            have := hc.2
            simp [zth] at this
            omega
          exact zs_castY hx hb hown hK ho h90 (by rw [hc.1]; exact hr) (hw _ (z_wd_ok h3).1 (z_wd_ok h3).2) hd k
        next => cases h
      next => cases h
    next => cases h; exact zs_castN hx hb hd k
    next => cases h
  next => cases h3
theorem zn_instanceof {idx : Nat} (C : z_C p R s m args meth c M D cA) (hLn : L.length = zm_n M) (hok : z_oke M (pc, .instanceof idx, len, x) ps = true) (hn0 : n0 ≤ q.2.1) (hu0 : u0 ≤ q.2.2) (hrc : t.2.2.2.2.1 - n0 ≤ R.cells) (hrs : t.2.2.2.2.2 - u0 ≤ R.slots) (h : z_nx (.instanceof idx) x pc len L S q = some t) (k : z_W p l e R s m args below meth c Q s0 D cA n0 u0 t.1 t.2.1 t.2.2.1 t.2.2.2) : z_W p l e R s m args below meth c Q s0 D cA n0 u0 pc L S q := by
  obtain ⟨hx, hb, hml, hown, hnm, hfr, hlo, ⟨hK, h99⟩, hlay, hcst, hno, hw⟩ := C
  simp only [z_oke, Bool.and_eq_true, Bool.or_eq_true, decide_eq_true_eq] at hok
  have hd0 := hok.1.1
  simp only [z_okn, z_swi, z_ln, Bool.false_eq_true, false_or, Bool.and_eq_true, Bool.or_eq_true, decide_eq_true_eq] at hok
  simp only [z_nx] at h
  obtain ⟨⟨hd, hlen⟩, h2, h3⟩ := hok
  subst hlen
  split at h3
  next rr hr =>
    split at h
    next a r =>
      split at h
      next o ho =>
        split at h
        next hc =>
          cases h
          have h90 : o.1 < 90 := by
            have := hc
            simp [zth] at this
            omega
          by_cases ho1 : o.1 = x.1
          · rw [if_pos ho1] at k
            exact zs_instY hx hb hown hK ho h90 (by rw [ho1]; exact hr) (hw _ (z_wd_ok h3).1 (z_wd_ok h3).2) hd k
          · rw [if_neg ho1] at k
            obtain ⟨r1, hr1⟩ : ∃ r1, zcl[o.1]? = some r1 := by
              have h9 : o.1 < zcl.length := by
                have := hc
                simp [zth] at this
                simp [zcl]
                omega
              exact ⟨_, List.getElem?_eq_getElem h9⟩
            exact zs_instNo hx hb hown hK ho h90 hr1 (hw _ (z_wd_ok h3).1 (z_wd_ok h3).2) (hno o.1 hc x.1 h2 ho1 r1 rr hr1 hr) hd k
        next => cases h
      next => cases h
    next => cases h; exact zs_instN hx hb hd k
    next => cases h
  next => cases h3
theorem zn_invokespecial {idx : Nat} (C : z_C p R s m args meth c M D cA) (hLn : L.length = zm_n M) (hok : z_oke M (pc, .invokespecial idx, len, x) ps = true) (hn0 : n0 ≤ q.2.1) (hu0 : u0 ≤ q.2.2) (hrc : t.2.2.2.2.1 - n0 ≤ R.cells) (hrs : t.2.2.2.2.2 - u0 ≤ R.slots) (h : z_nx (.invokespecial idx) x pc len L S q = some t) (k : z_W p l e R s m args below meth c Q s0 D cA n0 u0 t.1 t.2.1 t.2.2.1 t.2.2.2) : z_W p l e R s m args below meth c Q s0 D cA n0 u0 pc L S q := by
  obtain ⟨hx, hb, hml, hown, hnm, hfr, hlo, ⟨hK, h99⟩, hlay, hcst, hno, hw⟩ := C
  simp only [z_oke, Bool.and_eq_true, Bool.or_eq_true, decide_eq_true_eq] at hok
  have hd0 := hok.1.1
  simp only [z_okn, z_swi, z_ln, Bool.false_eq_true, false_or, Bool.and_eq_true, Bool.or_eq_true, decide_eq_true_eq] at hok
  simp only [z_nx] at h
  obtain ⟨⟨hd, hlen⟩, h2⟩ := hok
  subst hlen
  split at h
  next h7 =>
    rcases h2 with h2 | ⟨⟨⟨⟨g1, g2⟩, g3⟩, g4⟩, g5⟩
    · exact absurd h7 h2
    · split at h
      next a r =>
        split at h
        next hwb =>
          cases h
          exact zs_obj hx hb hown (hLn.trans hml.symm) (hw _ (z_wd_ok g1).1 (z_wd_ok g1).2) (hw _ (z_wd_ok g2).1 (z_wd_ok g2).2) (hw _ (z_wd_ok g3).1 (z_wd_ok g3).2) hwb (Nat.le_trans g4 hfr) (Nat.le_trans g5 hlo) hd k
        next => cases h
      next => cases h
  next => cases h
theorem zn_invokestatic {idx : Nat} (C : z_C p R s m args meth c M D cA) (hLn : L.length = zm_n M) (hok : z_oke M (pc, .invokestatic idx, len, x) ps = true) (hn0 : n0 ≤ q.2.1) (hu0 : u0 ≤ q.2.2) (hrc : t.2.2.2.2.1 - n0 ≤ R.cells) (hrs : t.2.2.2.2.2 - u0 ≤ R.slots) (h : z_nx (.invokestatic idx) x pc len L S q = some t) (k : z_W p l e R s m args below meth c Q s0 D cA n0 u0 t.1 t.2.1 t.2.2.1 t.2.2.2) : z_W p l e R s m args below meth c Q s0 D cA n0 u0 pc L S q := by
  obtain ⟨hx, hb, hml, hown, hnm, hfr, hlo, ⟨hK, h99⟩, hlay, hcst, hno, hw⟩ := C
  simp only [z_oke, Bool.and_eq_true, Bool.or_eq_true, decide_eq_true_eq] at hok
  have hd0 := hok.1.1
  simp only [z_okn, z_swi, z_ln, Bool.false_eq_true, false_or, Bool.and_eq_true, Bool.or_eq_true, decide_eq_true_eq] at hok
  simp only [z_nx] at h
  obtain ⟨⟨hd, hlen⟩, h2⟩ := hok
  subst hlen
  split at h
  next h8 =>
    rcases h2 with h2 | ⟨⟨⟨⟨⟨g1, g2⟩, g3⟩, g4⟩, g5⟩, g6⟩
    · exact absurd h8 h2
    · split at h
      next n dp a1 sp a0 r =>
        split at h
        next hwb =>
          split at h
          next s' hs =>
            cases h
            exact zs_cpy hx hb hown (hLn.trans hml.symm) hK (hw _ (z_wd_ok g1).1 (z_wd_ok g1).2) (hw _ (z_wd_ok g2).1 (z_wd_ok g2).2) (hw _ (z_wd_ok g3).1 (z_wd_ok g3).2) (hw _ (z_wd_ok g4).1 (z_wd_ok g4).2) hs hwb (Nat.le_trans g5 hfr) (Nat.le_trans g6 hlo) hd k
          next => cases h
        next => cases h
      next => cases h
  next => cases h
/-- what the little machine does within a frame, the machine does -/
theorem z_next {i : Instr} (C : z_C p R s m args meth c M D cA) (hLn : L.length = zm_n M) (hok : z_oke M (pc, i, len, x) ps = true) (hn0 : n0 ≤ q.2.1) (hu0 : u0 ≤ q.2.2) (hrc : t.2.2.2.2.1 - n0 ≤ R.cells) (hrs : t.2.2.2.2.2 - u0 ≤ R.slots) (h : z_nx i x pc len L S q = some t) (k : z_W p l e R s m args below meth c Q s0 D cA n0 u0 t.1 t.2.1 t.2.2.1 t.2.2.2) : z_W p l e R s m args below meth c Q s0 D cA n0 u0 pc L S q := by
  cases i with
  | iconst n => exact zn_iconst C hLn hok hn0 hu0 hrc hrs h k
  | bipush n => exact zn_bipush C hLn hok hn0 hu0 hrc hrs h k
  | sipush n => exact zn_sipush C hLn hok hn0 hu0 hrc hrs h k
  | lconst n => exact zn_lconst C hLn hok hn0 hu0 hrc hrs h k
  | aconst_null => exact zn_null C hLn hok hn0 hu0 hrc hrs h k
  | iload_n j => exact zn_iload_n C hLn hok hn0 hu0 hrc hrs h k
  | iload j => exact zn_iload C hLn hok hn0 hu0 hrc hrs h k
  | lload_n j => exact zn_lload_n C hLn hok hn0 hu0 hrc hrs h k
  | lload j => exact zn_lload C hLn hok hn0 hu0 hrc hrs h k
  | aload_n j => exact zn_aload_n C hLn hok hn0 hu0 hrc hrs h k
  | aload j => exact zn_aload C hLn hok hn0 hu0 hrc hrs h k
  | istore_n j => exact zn_istore_n C hLn hok hn0 hu0 hrc hrs h k
  | istore j => exact zn_istore C hLn hok hn0 hu0 hrc hrs h k
  | lstore_n j => exact zn_lstore_n C hLn hok hn0 hu0 hrc hrs h k
  | lstore j => exact zn_lstore C hLn hok hn0 hu0 hrc hrs h k
  | astore_n j => exact zn_astore_n C hLn hok hn0 hu0 hrc hrs h k
  | astore j => exact zn_astore C hLn hok hn0 hu0 hrc hrs h k
  | iinc j n => exact zn_iinc C hLn hok hn0 hu0 hrc hrs h k
  | iadd => exact zn_iadd C hLn hok hn0 hu0 hrc hrs h k
  | isub => exact zn_isub C hLn hok hn0 hu0 hrc hrs h k
  | imul => exact zn_imul C hLn hok hn0 hu0 hrc hrs h k
  | iand => exact zn_iand C hLn hok hn0 hu0 hrc hrs h k
  | ixor => exact zn_ixor C hLn hok hn0 hu0 hrc hrs h k
  | ladd => exact zn_ladd C hLn hok hn0 hu0 hrc hrs h k
  | lsub => exact zn_lsub C hLn hok hn0 hu0 hrc hrs h k
  | lmul => exact zn_lmul C hLn hok hn0 hu0 hrc hrs h k
  | land => exact zn_land C hLn hok hn0 hu0 hrc hrs h k
  | lxor => exact zn_lxor C hLn hok hn0 hu0 hrc hrs h k
  | lshl => exact zn_lshl C hLn hok hn0 hu0 hrc hrs h k
  | lushr => exact zn_lushr C hLn hok hn0 hu0 hrc hrs h k
  | irem => exact zn_irem C hLn hok hn0 hu0 hrc hrs h k
  | lrem => exact zn_lrem C hLn hok hn0 hu0 hrc hrs h k
  | i2l => exact zn_i2l C hLn hok hn0 hu0 hrc hrs h k
  | l2i => exact zn_l2i C hLn hok hn0 hu0 hrc hrs h k
  | lcmp => exact zn_lcmp C hLn hok hn0 hu0 hrc hrs h k
  | dup => exact zn_dup C hLn hok hn0 hu0 hrc hrs h k
  | pop => exact zn_pop C hLn hok hn0 hu0 hrc hrs h k
  | dup2 => exact zn_dup2 C hLn hok hn0 hu0 hrc hrs h k
  | ifCond cn o => exact zn_ifCond C hLn hok hn0 hu0 hrc hrs h k
  | if_icmp cn o => exact zn_if_icmp C hLn hok hn0 hu0 hrc hrs h k
  | if_acmp cn o => exact zn_if_acmp C hLn hok hn0 hu0 hrc hrs h k
  | ifnull o => exact zn_ifnull C hLn hok hn0 hu0 hrc hrs h k
  | ifnonnull o => exact zn_ifnonnull C hLn hok hn0 hu0 hrc hrs h k
  | goto o => exact zn_goto C hLn hok hn0 hu0 hrc hrs h k
  | tableswitch d lo hi os => exact zn_tableswitch C hLn hok hn0 hu0 hrc hrs h k
  | getfield idx => exact zn_getfield C hLn hok hn0 hu0 hrc hrs h k
  | putfield idx => exact zn_putfield C hLn hok hn0 hu0 hrc hrs h k
  | iaload => exact zn_iaload C hLn hok hn0 hu0 hrc hrs h k
  | laload => exact zn_laload C hLn hok hn0 hu0 hrc hrs h k
  | baload => exact zn_baload C hLn hok hn0 hu0 hrc hrs h k
  | aaload => exact zn_aaload C hLn hok hn0 hu0 hrc hrs h k
  | iastore => exact zn_iastore C hLn hok hn0 hu0 hrc hrs h k
  | lastore => exact zn_lastore C hLn hok hn0 hu0 hrc hrs h k
  | bastore => exact zn_bastore C hLn hok hn0 hu0 hrc hrs h k
  | aastore => exact zn_aastore C hLn hok hn0 hu0 hrc hrs h k
  | arraylength => exact zn_arraylength C hLn hok hn0 hu0 hrc hrs h k
  | ldc idx => exact zn_ldc C hLn hok hn0 hu0 hrc hrs h k
  | ldc2_w idx => exact zn_ldc2_w C hLn hok hn0 hu0 hrc hrs h k
  | new idx => exact zn_new C hLn hok hn0 hu0 hrc hrs h k
  | newarray ty => exact zn_newarray C hLn hok hn0 hu0 hrc hrs h k
  | anewarray idx => exact zn_anewarray C hLn hok hn0 hu0 hrc hrs h k
  | checkcast idx => exact zn_checkcast C hLn hok hn0 hu0 hrc hrs h k
  | instanceof idx => exact zn_instanceof C hLn hok hn0 hu0 hrc hrs h k
  | invokespecial idx => exact zn_invokespecial C hLn hok hn0 hu0 hrc hrs h k
  | invokestatic idx => exact zn_invokestatic C hLn hok hn0 hu0 hrc hrs h k
  | _ => exact absurd h (by simp [z_nx])
/-- locals keep their number -/
theorem z_nx_len {i : Instr} (h : z_nx i x pc len L S q = some t) : t.2.1.length = L.length ∧ q.2.1 ≤ t.2.2.2.2.1 ∧ q.2.2 ≤ t.2.2.2.2.2 := by
  have up : ∀ (pc : Nat) (S : List Value) (v : Option Value), z_psh pc L S q v = some t → t.2.1.length = L.length ∧ q.2.1 ≤ t.2.2.2.2.1 ∧ q.2.2 ≤ t.2.2.2.2.2 := by
    intro pc S v h
    obtain ⟨w, -, rfl⟩ := zi_psh h
    exact ⟨rfl, Nat.le_refl _, Nat.le_refl _⟩
  have to : ∀ (o : Int) (S : List Value), z_to pc o L S q = some t → t.2.1.length = L.length ∧ q.2.1 ≤ t.2.2.2.2.1 ∧ q.2.2 ≤ t.2.2.2.2.2 := by
    intro o S h
    obtain ⟨-, e2⟩ := zs_to h
    rw [e2]
    exact ⟨rfl, Nat.le_refl _, Nat.le_refl _⟩
  have br : ∀ (b : Bool) (o : Int) (S : List Value), z_br b pc len o L S q = some t → t.2.1.length = L.length ∧ q.2.1 ≤ t.2.2.2.2.1 ∧ q.2.2 ≤ t.2.2.2.2.2 := by
    intro b o S h
    obtain ⟨-, e2⟩ := zs_br h
    rw [e2]
    exact ⟨rfl, Nat.le_refl _, Nat.le_refl _⟩
  have nw : ∀ (tag b : Nat) (d : Value) (pc : Nat), z_nwa tag d b pc L S q = some t → t.2.1.length = L.length ∧ q.2.1 ≤ t.2.2.2.2.1 ∧ q.2.2 ≤ t.2.2.2.2.2 := by
    intro tag b d pc h
    obtain ⟨n, r, -, -, -, rfl⟩ := zi_nwa h
    exact ⟨rfl, Nat.le_add_right _ _, Nat.le_add_right _ _⟩
  have st : ∀ (tag a : Nat) (i : Int32) (v : Value) (s' : zS), z_st tag q a i v = some s' → q.2.1 ≤ s'.2.1 ∧ q.2.2 ≤ s'.2.2 := by
    intro tag a i v s' h
    obtain ⟨o, -, -, -, rfl⟩ := zi_st h
    exact ⟨Nat.le_refl _, Nat.le_refl _⟩
  unfold z_nx at h
  split at h
  all_goals first
    | (cases h; exact ⟨rfl, Nat.le_refl _, Nat.le_refl _⟩)
    | exact up _ _ _ h
    | exact to _ _ h
    | exact br _ _ _ h
    | exact nw _ _ _ _ h
    | (obtain ⟨v, r, -, -, rfl⟩ := zi_sti h; exact ⟨z_set1_len _ _ _, Nat.le_refl _, Nat.le_refl _⟩)
    | (obtain ⟨v, r, -, -, rfl⟩ := zi_stl h; exact ⟨z_set2_len _ _ _, Nat.le_refl _, Nat.le_refl _⟩)
    | (rcases zi_sta h with ⟨v, r, -, -, rfl⟩ | ⟨r, -, -, rfl⟩ <;> exact ⟨z_set1_len _ _ _, Nat.le_refl _, Nat.le_refl _⟩)
    | (obtain ⟨x9, y9, r, -, rfl⟩ := zi_bi h; exact ⟨rfl, Nat.le_refl _, Nat.le_refl _⟩)
    | (obtain ⟨x9, y9, r, -, rfl⟩ := zi_bl h; exact ⟨rfl, Nat.le_refl _, Nat.le_refl _⟩)
    | (obtain ⟨x9, y9, r, -, rfl⟩ := zi_sl h; exact ⟨rfl, Nat.le_refl _, Nat.le_refl _⟩)
    | skip
  all_goals (repeat' (split at h))
  all_goals first
    | (cases h; done)
    | exact up _ _ _ h
    | exact to _ _ h
    | exact br _ _ _ h
    | exact nw _ _ _ _ h
    | (cases h; exact ⟨z_set1_len _ _ _, Nat.le_refl _, Nat.le_refl _⟩)
    | (cases h; exact ⟨rfl, Nat.le_refl _, Nat.le_refl _⟩)
    | (cases h; exact ⟨rfl, Nat.le_add_right _ _, Nat.le_add_right _ _⟩)
    | (rename_i hs; cases h; obtain ⟨o, -, -, -, -, rfl⟩ := zi_put hs; exact ⟨rfl, Nat.le_refl _, Nat.le_refl _⟩)
    | (rename_i hs; cases h; obtain ⟨o, -, -, -, rfl⟩ := zi_st hs; exact ⟨rfl, Nat.le_refl _, Nat.le_refl _⟩)
    | (rename_i hs; cases h; obtain ⟨o, -, -, -, -, rfl⟩ := zi_ast hs; exact ⟨rfl, Nat.le_refl _, Nat.le_refl _⟩)
    | (rename_i hs; cases h; unfold z_cpy at hs; repeat' (split at hs)
       all_goals first | (cases hs; done) | (cases hs; exact ⟨rfl, Nat.le_refl _, Nat.le_refl _⟩))
end ZX
end
section
/-! ANSWERS, THROWS, CALLS: what is checked, what they need -/
theorem zex_fit (i : Nat) : Bundle.fit (zex i) = true := by
  match i with
  | 0 => decide +kernel
  | 1 => decide +kernel
  | 2 => decide +kernel
  | i + 3 => exact (by decide +kernel : Bundle.fit "java/lang/IndexOutOfBoundsException" = true)
def z_F (l : Launch) (s0 : State) (a0 : Array Value) (D : va_G) (cA : Nat → ClassId) : Prop :=
  l.stackTraces = false ∧ (∀ w ∈ lw_tbl, w.before a0 s0 = true) ∧ (va_K D zcl (z_tys cA) s0 ∧ ArrOfT s0 (cA 99) .int) ∧
  (∀ i ∈ zth, ∀ j ∈ zth, i ≠ j → ∀ r1 r2 : vw_C, zcl[i]? = some r1 → zcl[j]? = some r2 → va_Nc r1.1 r2.1 s0) ∧
  (∀ i j : Nat, i < 4 → j < 4 → i ≠ j → va_Nc (zex i) (zex j) s0) ∧
  vx_Zq Bundle.tN "UNASSIGNED_STACK" Bundle.steD (z_free s0) s0 s0.heap ∧ vx_Zq Bundle.tN "SUPPRESSED_SENTINEL" Bundle.listD (z_free s0) s0 s0.heap ∧
  (∀ (own : String) (k : Nat) (text : String), Jvm.Cond.stringRef own k text ∈ lw_tbl → ∃ sa, vk_R own k text sa s0)
abbrev z_names : List String := ["java/lang/RuntimeException", "java/lang/Exception"]
/-- the words of a throw: of the class own, by its entries ik (class) and ic (constructor), of the exception e -/
def z_thw (q : String × Nat × Nat × Nat) : List Jvm.Cond := Jvm.Cond.classLink q.1 q.2.1 (zex q.2.2.2) :: Jvm.Cond.initialized (zex q.2.2.2) :: vx_atS q.1 q.2.2.1 (zex q.2.2.2) z_names
/-- what the tables say once for all methods -/
def z_T (TH : List (String × Nat × Nat × Nat)) : Prop :=
  (∀ (i : Nat) (r : vw_C), zcl[i]? = some r → ∀ w ∈ u_ws r.1 r.2.1 r.2.2, w ∈ lw_tbl ∧ z_gw w = true) ∧ (∀ i ∈ zth, ∀ rr : vw_C, zcl[i]? = some rr → Jvm.Cond.castable rr.1 "ProcessorHouse$Thing" ∈ lw_tbl) ∧
  (∀ i : Nat, i < 4 → Jvm.Cond.castable (zex i) (zex i) ∈ lw_tbl) ∧ (∀ q ∈ TH, q.2.2.2 < 4 ∧ ∀ w ∈ z_thw q, w ∈ lw_tbl ∧ z_gw w = true ∧ vx_ot w = true)
def z_str (ps : List Nat) (j : Nat) (own : String) (k : Nat) : Bool := match ps[j]? with
  | some p => match lw_tbl[p]? with
    | some (.stringRef o i _) => decide (o = own) && decide (i = k)
    | _ => false
  | none => false
theorem z_str_ok {ps : List Nat} {j k : Nat} {own : String} (h : z_str ps j own k = true) : ∃ text, Jvm.Cond.stringRef own k text ∈ lw_tbl := by
  unfold z_str at h
  split at h
  next p hp =>
    split at h
    next o i t ht =>
      simp only [Bool.and_eq_true, decide_eq_true_eq] at h
      obtain ⟨rfl, rfl⟩ := h
      exact ⟨t, List.mem_of_getElem? ht⟩
    next => cases h
  next => cases h
/-- a throw: new, dup, ldc, invokespecial, athrow -/
def z_okt (TH : List (String × Nat × Nat × Nat)) (M : zM) (pc : Nat) (i : Instr) (x : zX) (ps : List Nat) : Bool := match i with
  | .new idx => decide (x.1 < 100) || (match x.2.2 with
    | [ic, wide] => decide (((zm_y M).cls, idx, ic, x.1 - 100) ∈ TH) && decide (6 ≤ zm_f M) && decide (90 ≤ zm_w M) && decide (zm_h M = []) && z_str ps 0 (zm_y M).cls x.2.1 && decide (decode (zm_b M) (pc + 3) = .ok (.dup, 1)) &&
        (if wide = 0 then decide (decode (zm_b M) (pc + 4) = .ok (.ldc x.2.1, 2)) && decide (decode (zm_b M) (pc + 6) = .ok (.invokespecial ic, 3)) && decide (decode (zm_b M) (pc + 9) = .ok (.athrow, 1))
         else decide (decode (zm_b M) (pc + 4) = .ok (.ldc_w x.2.1, 3)) && decide (decode (zm_b M) (pc + 7) = .ok (.invokespecial ic, 3)) && decide (decode (zm_b M) (pc + 10) = .ok (.athrow, 1)))
    | _ => false)
  | _ => true
def z_cw (N : zM) : Jvm.Cond := if zm_h N = [] then .code (zm_y N) (zm_b N) (zm_n N) (zm_r N) else .codeWith (zm_y N) (zm_b N) (zm_n N) (zm_r N) (zm_h N)
/-- of every callee N, with n arguments beside the receiver: room, names, code -/
def z_okb (M N : zM) (n : Nat) (ps : List Nat) : Bool := decide (zm_f N + 1 ≤ zm_f M) && decide (8 + (zm_n N + 11) + zm_w N ≤ zm_w M) && plainFor (zm_y N) && decide ((zm_y N).cls ≠ "java/lang/invoke/MethodHandle") && decide ((zm_y N).cls ≠ "java/lang/invoke/VarHandle") &&
  decide ((parseMethodDescriptor (zm_y N).desc).map (fun d => d.parameters.length) = some n) && z_wd ps 0 (z_cw N) && z_wd ps 1 (.initialized (zm_y N).cls)
abbrev z_uses : MethodName := ⟨"ProcessorHouse$Thing", "uses", "(LProcessorHouse$Thing;)Z"⟩
def z_okc (P : List zM) (M : zM) (i : Instr) (x : zX) (ps : List Nat) : Bool := match i with
  | .invokevirtual idx => if x.2.1 = 0 then (match x.2.2, P[x.1]? with
      | [n, t], some N => z_okb M N n ps && decide (zm_h N = []) && z_wd ps 2 (.methodLink (zm_y M).cls idx (zm_y N)) && z_wd ps 3 (.instanceMethod (zm_y N)) && z_wd ps 4 (.selects (zm_y N).cls (zm_y N) (zm_y N)) && decide (t < 90) && (match zcl[t]? with
          | some r => decide (r.1 = (zm_y N).cls)
          | none => false)
      | _, _ => false)
    else if x.2.1 = 1 then (match x.2.2 with
      | 1 :: ms => z_wd ps 0 (.methodLink (zm_y M).cls idx z_uses) && z_wd ps 1 (.sameMethod "ProcessorHouse$Thing" "ProcessorHouse$Thing" "uses" "(LProcessorHouse$Thing;)Z") && z_wd ps 2 (.declares z_uses) &&
          zth.all fun t => match ms[t]?, zcl[t]? with
            | some k, some r => (match P[k]? with
              | some N => z_okb M N 1 (ps.drop (3 + 4 * t)) && decide (zm_h N = []) && z_wd (ps.drop (3 + 4 * t)) 2 (.selects r.1 z_uses (zm_y N)) && z_wd (ps.drop (3 + 4 * t)) 3 (.instanceMethod (zm_y N))
              | none => false)
            | _, _ => false
      | _ => false)
    else false
  | .invokestatic idx => if x.2.1 = 8 then true else (match x.2.2, P[x.1]? with
      | [n], some N => z_okb M N n ps && z_wd ps 2 (.static (zm_y N)) && (if x.2.1 = 2 then decide (zm_h N = []) && z_wd ps 3 (.methodLink (zm_y M).cls idx (zm_y N)) else if x.2.1 = 4 then decide (zm_h N = []) && z_wd ps 3 (.methodLinkNest (zm_y M).cls idx (zm_y N) "ProcessorHouse") else if x.2.1 = 6 then decide (zm_h N ≠ []) && z_wd ps 3 (.methodLink (zm_y M).cls idx (zm_y N)) else false)
      | _, _ => false)
  | .invokespecial idx => if x.2.1 = 7 then true else (match x.2.2, P[x.1]? with
      | [n], some N => z_okb M N n ps && decide (zm_h N = []) && decide (zm_r N = none) && decide ((zm_y N).name = "<init>") && z_wd ps 2 (.instanceMethod (zm_y N)) && (if x.2.1 = 3 then z_wd ps 3 (.methodLink (zm_y M).cls idx (zm_y N)) else if x.2.1 = 5 then z_wd ps 3 (.methodLinkNest (zm_y M).cls idx (zm_y N) "ProcessorHouse") else false)
      | _, _ => false)
  | _ => true
/-- a method's table: every row names an exception -/
def z_okh (M : zM) (ps : List Nat) : Bool := decide ((zm_h M).length = (zm_e M).length) && ((zm_h M).zip (zm_e M)).zipIdx.all fun w => decide (w.1.1.2.2.2 ≠ 0) && decide (w.1.2 < 4) && z_wd ps w.2 (.classLink (zm_y M).cls w.1.1.2.2.2 (zex w.1.2))
/-- all that is checked of a method; ph, pe: where its words stand -/
def z_okm (P : List zM) (TH : List (String × Nat × Nat × Nat)) (M : zM) (ph : List Nat) (pe : List (List Nat)) : Bool :=
  z_okh M ph && plainFor (zm_y M) && decide (pe.length = (zm_c M).length) && ((zm_c M).zip pe).all fun w => z_oke M w.1 w.2 && z_okt TH M w.1.1 w.1.2.1 w.1.2.2.2 w.2 && z_okc P M w.1.2.1 w.1.2.2.2 w.2
def z_OK (P : List zM) (TH : List (String × Nat × Nat × Nat)) : Prop := ∀ (k : Nat) (M : zM), P[k]? = some M → ∃ (ph : List Nat) (pe : List (List Nat)), z_okm P TH M ph pe = true
theorem z_okm_at {P : List zM} {TH : List (String × Nat × Nat × Nat)} {M : zM} {ph : List Nat} {pe : List (List Nat)} (h : z_okm P TH M ph pe = true) {pc : Nat} {q : Instr × Nat × zX} (hq : z_ftc (zm_c M) pc = some q) :
    ∃ ps, z_oke M (pc, q) ps = true ∧ z_okt TH M pc q.1 q.2.2 ps = true ∧ z_okc P M q.1 q.2.2 ps = true := by
  have hmem : ∀ C : List (Nat × Instr × Nat × zX), z_ftc C pc = some q → (pc, q) ∈ C := by
    intro C
    induction C with
    | nil => intro h; simp [z_ftc] at h
    | cons a C ih =>
      intro h
      unfold z_ftc at h
      split at h
      next he => cases h; subst he; exact List.mem_cons_self
      next => exact List.mem_cons_of_mem _ (ih h)
  unfold z_okm at h
  simp only [Bool.and_eq_true, decide_eq_true_eq] at h
  obtain ⟨⟨⟨-, -⟩, hl⟩, ha⟩ := h
  obtain ⟨j, hj⟩ := List.getElem?_of_mem (hmem _ hq)
  have hjl : j < pe.length := by rw [hl]; exact (List.getElem?_eq_some_iff.mp hj).1
  have hz : ((pc, q), pe[j]) ∈ (zm_c M).zip pe := by
    refine List.mem_of_getElem? (i := j) ?_
    rw [List.getElem?_zip_eq_some]
    exact ⟨hj, List.getElem?_eq_getElem hjl⟩
  have h9 := List.all_eq_true.mp ha _ hz
  simp only [Bool.and_eq_true] at h9
  exact ⟨pe[j], h9.1.1, h9.1.2, h9.2⟩
/-! contracts out of runs -/
def z_Pc (s0 : State) (D : va_G) (cA : Nat → ClassId) (A : List Value) (q : zS) : Array Value → State → Prop := fun a U => a = A.toArray ∧ z_R s0 D cA q U.heap ∧ s0.WarmedH U.vm
def z_Qc (s0 : State) (D : va_G) (cA : Nat → ClassId) (o : zU) (q : zS) : Array Value → State → Outcome → State → Prop := fun _ _ oc t => ∃ v, o = .inl v ∧ oc = .returned v ∧ z_R s0 D cA q t.heap
def z_XC (s0 : State) (D : va_G) (cA : Nat → ClassId) (o : zU) (q : zS) : String → State → State → Prop := fun E _ t => ∃ k, o = .inr k ∧ E = zex k ∧ z_R s0 D cA q t.heap
def z_rm (N : zM) (mc ms : Nat) : Room := { frames := zm_f N, cells := mc, slots := ms, locals := zm_w N }
theorem z_Pc_blind {s0 : State} {D : va_G} {cA : Nat → ClassId} {A : List Value} {q : zS} : FrameBlind (z_Pc s0 D cA A q) := fun _ _ _ _ h => h
theorem z_met {l : Launch} {y : MethodName} {ws : List Jvm.Cond} {rm : Room} {Pc : Array Value → State → Prop} {Qc : Array Value → State → Outcome → State → Prop} {XC : String → State → State → Prop} {mc ms : Nat} {free : Addr → Prop} (h : vx_Met l y ws rm Pc Qc XC mc ms free) (hX : ∀ E st t, ¬ XC E st t) : Met l y ws rm Pc Qc mc ms free := by
  refine MetFree.mono h (fun _ _ h => h) (fun _ _ _ _ _ h => h) ?_
  intro a st o t _ hq
  rcases hq with hq | ⟨q, -, E, ce, L, hx, -⟩
  · exact hq
  · exact absurd hx (hX _ _ _)
section ZR
variable {p : Program} {l : Launch} {e : Env} {R : Room} {s : State} {m : MethodId} {args : Array Value} {below : List Frame} {meth : Method} {c : Code} {s0 : State} {D : va_G} {cA : Nat → ClassId} {n0 u0 : Nat}
variable {M : zM} {pc len : Nat} {L : zL} {S : List Value} {q : zS} {x : zX} {ps : List Nat}
/-- an answer -/
theorem zr_ret {i : Instr} {v : Option Value} (C : z_C p R s m args meth c M D cA) (hr : meth.sig.returnType = zm_r M) (hlocks : meth.locks = false) (hok : z_oke M (pc, i, len, x) ps = true) (h : z_rt (zm_r M) i S = some v) :
    z_W p l e R s m args below meth c (vx_MQ below (z_Qc s0 D cA (.inl v) q) (z_XC s0 D cA (.inl v) q) args s (q.2.1 - n0) (q.2.2 - u0) (z_free s0)) s0 D cA n0 u0 pc L S q := fun H locs ls hR hf hl => by
  obtain ⟨hx, hb, -⟩ := C
  simp only [z_oke, Bool.and_eq_true, Bool.or_eq_true, decide_eq_true_eq] at hok
  have hd := hok.1.1
  have hlen := hok.1.2
  have hq : ∀ t : State, t.heap = H → s.WarmedH t.vm → z_Qc s0 D cA (.inl v) q args s (.returned v) t := fun t ht _ => ⟨v, rfl, rfl, by rw [ht]; exact hR⟩
  unfold z_rt at h
  split at h
  · simp only [z_swi, z_ln, Bool.false_eq_true, false_or] at hlen
    subst hlen
    split at h
    next v9 ty hty =>
      split at h
      next hn => cases h; exact vx_ret (W.zret hx hb (hr.trans hty) hn hq hf hd hlocks)
      next => cases h
    next => cases h
  · simp only [z_swi, z_ln, Bool.false_eq_true, false_or] at hlen
    subst hlen
    split at h
    next v9 hty => cases h; exact vx_ret (W.lret hx hb (hr.trans hty) hq hf hd hlocks)
    next => cases h
  · simp only [z_swi, z_ln, Bool.false_eq_true, false_or] at hlen
    subst hlen
    have ref : ∀ w : Value, w.isRef = true → w = .null ∨ ∃ a, w = .ref a := by
      intro w hw
      cases w <;> first | exact Or.inl rfl | exact Or.inr ⟨_, rfl⟩ | simp [Value.isRef] at hw
    split at h
    next w nm hty =>
      split at h
      next hw => cases h; exact vx_ret (W.aret hx hb (hr.trans hty) (Or.inl ⟨_, rfl⟩) (ref _ hw) hq hf hd hlocks)
      next => cases h
    next w nm hty =>
      split at h
      next hw => cases h; exact vx_ret (W.aret hx hb (hr.trans hty) (Or.inr ⟨_, rfl⟩) (ref _ hw) hq hf hd hlocks)
      next => cases h
    next => cases h
  · simp only [z_swi, z_ln, Bool.false_eq_true, false_or] at hlen
    subst hlen
    split at h
    next hty => cases h; exact vx_ret (W.vret hx hb (hr.trans hty) hq hf hd hlocks)
    next => cases h
  · cases h
/-- a throw -/
theorem zr_throw {TH : List (String × Nat × Nat × Nat)} {a0 : Array Value} {i : Instr} {k : Nat} {q' : zS} (F : z_F l s0 a0 D cA) (T : z_T TH) (C : z_C p R s m args meth c M D cA) (hlocks : meth.locks = false) (htab : c.exceptionTable.toList = tableOf (zm_h M)) (hW : s0.WarmedH s.vm)
    (hLn : L.length = zm_n M) (hs1 : s0.heap.size ≤ s.heap.size) (hs2 : ∀ a : Nat, a < s0.heap.size → s.heap[a]? = s0.heap[a]?) (hs3 : s.heap.size = n0) (hn0 : n0 ≤ q.2.1) (hu0 : u0 ≤ q.2.2) (hrc : q'.2.1 - n0 ≤ R.cells) (hrs : q'.2.2 - u0 ≤ R.slots)
    (hok : z_oke M (pc, i, len, x) ps = true) (hot : z_okt TH M pc i x ps = true) (h : z_th i x S q = some (k, q')) :
    k < 4 ∧ z_W p l e R s m args below meth c (vx_MQ below (z_Qc s0 D cA (.inr k) q') (z_XC s0 D cA (.inr k) q') args s (q'.2.1 - n0) (q'.2.2 - u0) (z_free s0)) s0 D cA n0 u0 pc L S q := by
  obtain ⟨hst, htb, -, -, -, hU, hN, hstr⟩ := F
  obtain ⟨-, -, -, hTH⟩ := T
  obtain ⟨hx, hb, hml, hown, hnm, hfr, hlo, ⟨hK, h99⟩, hlay, hcst, hno, hw⟩ := C
  unfold z_th at h
  split at h
  next idx =>
    split at h
    next hc =>
      cases h
      simp only [z_okt, Bool.or_eq_true, decide_eq_true_eq] at hot
      have hot := hot.resolve_left (by omega)
      split at hot
      next ic wide hx2 =>
        simp only [Bool.and_eq_true, decide_eq_true_eq] at hot
        obtain ⟨⟨⟨⟨⟨⟨h1, h2⟩, h3⟩, h4⟩, h5⟩, h6⟩, h7⟩ := hot
        obtain ⟨hk4, hwords⟩ := hTH _ h1
        refine ⟨hk4, fun H locs ls hR hf hl => ?_⟩
        obtain ⟨text, ht⟩ := z_str_ok h5
        obtain ⟨sa, hsa⟩ := hstr _ _ _ ht
        simp only [z_oke, z_ln, z_swi, Bool.and_eq_true, Bool.or_eq_true, decide_eq_true_eq] at hok
        have hd := hok.1.1
        have hlen : len = 3 := by
          rcases hok.1.2 with h9 | h9
          · cases h9
          · exact of_decide_eq_true h9
        subst hlen
        have hw8 := z_wb_le hc.2
        have hwb : ∀ w ∈ z_thw ((zm_y M).cls, idx, ic, x.1 - 100), w.before args s = true := fun w hw9 => hw w (hwords w hw9).1 (hwords w hw9).2.1
        have keep : ∀ a : Nat, a < s0.heap.size → ¬ z_free s0 a → s.heap[a]? = s0.heap[a]? := fun a h9 _ => hs2 a h9
        have hU' := (vx_Zq.moved hW.alike hU).kept keep
        have hN' := (vx_Zq.moved hW.alike hN).kept keep
        have hS : va_S (z_free s0) s.heap H locs := ⟨by rw [hs3, hR.2.2.1]; exact hn0, fun a _ h9 => by
          have h8 : a < s0.heap.size := Nat.not_le.mp h9
          rw [hR.2.1 a h8, hs2 a h8], hf⟩
        have hempty : ∀ z ∈ c.exceptionTable.toList, False := by
          intro z hz
          rw [htab, h4] at hz
          cases hz
        have hxx : ∀ t : State, s.vm.Alike t.vm → t.heap.size = H.size + 1 → (∀ a : Nat, a < H.size → t.heap[a]? = H[a]?) → z_XC s0 D cA (.inr (x.1 - 100)) (q.1, q.2.1 + 1, q.2.2 + 6) (zex (x.1 - 100)) s t := by
          intro t _ e1 e2
          refine ⟨_, rfl, rfl, ?_⟩
          refine ⟨by have := hR.1; omega, fun a h9 => by rw [e2 a (by have := hR.1; omega)]; exact hR.2.1 a h9, by rw [e1, hR.2.2.1], fun a o ho => ?_⟩
          obtain ⟨g1, g2⟩ := hR.2.2.2 a o ho
          exact ⟨g1.kept (e2 a g1.lt), g2⟩
        split at h7
        next =>
          simp only [Bool.and_eq_true, decide_eq_true_eq] at h7
          obtain ⟨⟨d4, d6⟩, d9⟩ := h7
          exact vx_throwS (names := z_names) hx hb hst hown (zex_fit (x.1 - 100)) (by decide +kernel) (hwb _ List.mem_cons_self) (hwb _ (List.mem_cons_of_mem _ List.mem_cons_self)) (vk_R.warm hW hsa)
            (fun w hw9 => hwb w (List.mem_cons_of_mem _ (List.mem_cons_of_mem _ hw9))) (fun w hw9 => (hwords w hw9).2.2) hU' hN' hS (by rw [hl.1, hLn, hml]) hd h6 d4 d6 d9 (fun z hz => (hempty z hz).elim) (by show 2 + 3 < _; omega) (by show _ + (13 * (2 + 1) + 43) ≤ _; omega)
            (by have : q.2.1 + 1 - n0 ≤ R.cells := hrc; omega) (by have : q.2.2 + 6 - u0 ≤ R.slots := hrs; omega) hlocks hxx hf (by show _ ≤ q.2.1 + 1 - n0; omega) (by show _ ≤ q.2.2 + 6 - u0; omega)
        next =>
          simp only [Bool.and_eq_true, decide_eq_true_eq] at h7
          obtain ⟨⟨d4, d6⟩, d9⟩ := h7
          exact vx_throwSW (names := z_names) hx hb hst hown (zex_fit (x.1 - 100)) (by decide +kernel) (hwb _ List.mem_cons_self) (hwb _ (List.mem_cons_of_mem _ List.mem_cons_self)) (vk_R.warm hW hsa)
            (fun w hw9 => hwb w (List.mem_cons_of_mem _ (List.mem_cons_of_mem _ hw9))) (fun w hw9 => (hwords w hw9).2.2) hU' hN' hS (by rw [hl.1, hLn, hml]) hd h6 d4 d6 d9 (fun z hz => (hempty z hz).elim) (by show 2 + 3 < _; omega) (by show _ + (13 * (2 + 1) + 43) ≤ _; omega)
            (by have : q.2.1 + 1 - n0 ≤ R.cells := hrc; omega) (by have : q.2.2 + 6 - u0 ≤ R.slots := hrs; omega) hlocks hxx hf (by show _ ≤ q.2.1 + 1 - n0; omega) (by show _ ≤ q.2.2 + 6 - u0; omega)
      next => cases hot
    next => cases h
  next => cases h
end ZR
end
section
/-! CALLS, and: what the little machine computes, the machine does -/
def z_Con (l : Launch) (s0 : State) (D : va_G) (cA : Nat → ClassId) (N : zM) (A : List Value) (q : zS) (o : zU) (q1 : zS) : Prop :=
  vx_Met l (zm_y N) [z_cw N] (z_rm N (q1.2.1 - q.2.1) (q1.2.2 - q.2.2)) (z_Pc s0 D cA A q) (z_Qc s0 D cA o q1) (z_XC s0 D cA o q1) (q1.2.1 - q.2.1) (q1.2.2 - q.2.2) (z_free s0)
theorem z_okb_spec {M N : zM} {n : Nat} {ps : List Nat} (h : z_okb M N n ps = true) : zm_f N + 1 ≤ zm_f M ∧ 8 + (zm_n N + 11) + zm_w N ≤ zm_w M ∧ plainFor (zm_y N) = true ∧ ((zm_y N).cls ≠ "java/lang/invoke/MethodHandle" ∧ (zm_y N).cls ≠ "java/lang/invoke/VarHandle") ∧
    (∀ sig, parseMethodDescriptor (zm_y N).desc = some sig → n = sig.parameters.length) ∧ (z_cw N ∈ lw_tbl ∧ z_gw (z_cw N) = true) ∧ (Jvm.Cond.initialized (zm_y N).cls ∈ lw_tbl ∧ z_gw (Jvm.Cond.initialized (zm_y N).cls) = true) := by
  unfold z_okb at h
  simp only [Bool.and_eq_true, decide_eq_true_eq] at h
  obtain ⟨⟨⟨⟨⟨⟨⟨h1, h2⟩, h3⟩, h4⟩, h5⟩, h6⟩, h7⟩, h8⟩ := h
  refine ⟨h1, h2, h3, ⟨h4, h5⟩, fun sig hs => ?_, z_wd_ok h7, z_wd_ok h8⟩
  rw [hs] at h6
  exact (Option.some.inj h6).symm
section ZG
variable {p : Program} {l : Launch} {e : Env} {R : Room} {s : State} {m : MethodId} {args : Array Value} {below : List Frame} {meth : Method} {c : Code} {Q : State → Prop} {s0 : State} {D : va_G} {cA : Nat → ClassId} {n0 u0 : Nat}
variable {M N : zM} {pc len : Nat} {L : zL} {S r : List Value} {q q1 : zS} {x : zX} {ps : List Nat} {A : List Value} {v : Option Value} {P : List zM}
theorem z_C_of {a0 : Array Value} {TH : List (String × Nat × Nat × Nat)} (F : z_F l s0 a0 D cA) (T : z_T TH) (hW : s0.WarmedH s.vm) (hx : p.tables.exec = Jvm.exec) (hb : c.code = zm_b M) (hml : c.maxLocals = zm_n M) (hown : s.vm.findClass (zm_y M).cls = some m.cls) (hnm : meth.name = (zm_y M).name) (hfr : zm_f M ≤ R.frames) (hlo : zm_w M ≤ R.locals) : z_C p R s m args meth c M D cA := by
  obtain ⟨hst, htb, ⟨hK, h99⟩, hno, hex, hU, hN, hstr⟩ := F
  obtain ⟨t1, t2, t3, t4⟩ := T
  have hw : ∀ w, w ∈ lw_tbl → z_gw w = true → w.before args s = true := fun w h1 h2 => z_word hW h2 (htb w h1)
  exact ⟨hx, hb, hml, hown, hnm, hfr, hlo, ⟨va_K.moved hW.alike hK, arrOfT_moved hW.alike h99⟩, fun i r hr w hw9 => hw w (t1 i r hr w hw9).1 (t1 i r hr w hw9).2, fun i hi rr hr => va_Nw.of rfl (hw _ (t2 i hi rr hr) (by rfl)), fun i hi j hj hij r1 r2 h1 h2 => (hno i hi j hj hij r1 r2 h1 h2).moved hW.alike, hw⟩
theorem z_goon {H : Heap} {locs : List Loc} {ls : Array Slot} {a : Array Value} {cells slots mc ms : Nat} (run : va_Run p l e R s m args below meth c H locs cells slots mc ms (F0 m pc ls S) r (z_Qc s0 D cA (.inl v) q1 a) (z_free s0)) (hf : ∀ z ∈ locs, s0.heap.size ≤ z.base) (hl : z_has ls L) (h1 : cells + mc = q1.2.1 - n0) (h2 : slots + ms = q1.2.2 - u0)
    (kk : z_W p l e R s m args below meth c Q s0 D cA n0 u0 (pc + 3) L (v.toList ++ r) q1) : W p l e R s m args below meth c H locs cells slots Q (F0 m pc ls S) := by
  intro T hT X
  obtain ⟨v', st0, t, T', L', h0, X', hL, e1, e2, ⟨w, hw1, hw2, hR1⟩, st⟩ := run T hT X
  cases hw1
  cases hw2
  rw [h1, h2] at X'
  obtain ⟨t2, a1, b1⟩ := kk T'.heap (locs ++ L') ls (by rw [e1]; exact hR1) (fun z hz => (List.mem_append.mp hz).elim (hf z) (hL z)) hl T' rfl X'
  exact ⟨t2, st t2 a1, b1⟩
theorem z_cb {idx n mc ms : Nat} (C : z_C p R s m args meth c M D cA) (hh : zm_h N = []) (hb : z_okb M N n ps = true) (hl : (Jvm.Cond.methodLink (zm_y M).cls idx (zm_y N)).before args s = true) :
    CallB R s args (zm_y M).cls idx (zm_y N) (zm_b N) (zm_n N) (zm_r N) [z_cw N] (z_rm N mc ms) mc ms n := by
  obtain ⟨h1, h2, h3, h4, h5, h6, h7⟩ := z_okb_spec hb
  obtain ⟨hx, hb, hml, hown, hnm, hfr, hlo, ⟨hK, h99⟩, hlay, hcst, hno, hw⟩ := C
  have hcw : z_cw N = .code (zm_y N) (zm_b N) (zm_n N) (zm_r N) := by rw [z_cw, if_pos hh]
  refine ⟨rfl, rfl, Nat.le_trans h1 hfr, Nat.le_trans h2 hlo, fun w hw9 a' U hU => ?_, by rw [hcw]; exact List.mem_cons_self, by rw [← hcw]; exact hw _ h6.1 h6.2, hw _ h7.1 h7.2, h4, h5, hl⟩
  rw [List.mem_singleton] at hw9
  subst hw9
  exact z_word hU h6.2 (hw _ h6.1 h6.2)
theorem z_pre (C : z_C p R s m args meth c M D cA) (hW : s0.WarmedH s.vm) {H : Heap} (hR : z_R s0 D cA q H) : PreS s H (z_Pc s0 D cA A q) A := ⟨z_Pc_blind, fun U hU hWU => ⟨rfl, by rw [hU]; exact hR, State.WarmedH.trans hW hWU⟩⟩
theorem z_preV (C : z_C p R s m args meth c M D cA) (hW : s0.WarmedH s.vm) {H : Heap} (hR : z_R s0 D cA q H) {b : Nat} {As : List Value} {o : zO} (ho : q.1 b = some o) (h90 : o.1 < 90) {rr : vw_C} (hc : zcl[o.1]? = some rr) : PreV s H rr.1 b (z_Pc s0 D cA (.ref b :: As) q) As := by
  obtain ⟨hx, hb, hml, hown, hnm, hfr, hlo, ⟨hK, h99⟩, -⟩ := C
  exact ⟨z_Pc_blind, z_is hK hR ho h90 hc, fun U hU hWU => ⟨rfl, by rw [hU]; exact hR, State.WarmedH.trans hW hWU⟩⟩
theorem z_stk {S r : List Value} {b n : Nat} (h : S.drop n = .ref b :: r) : S = ((S.take n).reverse).reverse ++ .ref b :: r ∧ ((S.take n).reverse).length = n := by
  refine ⟨by rw [List.reverse_reverse, ← h, List.take_append_drop], ?_⟩
  have : (S.drop n).length = S.length - n := List.length_drop
  rw [h] at this
  simp at this
  rw [List.length_reverse, List.length_take]
  omega
/-- a call that answers -/
theorem zr_call {i : Instr} {k : Nat} (C : z_C p R s m args meth c M D cA) (hW : s0.WarmedH s.vm) (hLn : L.length = zm_n M) (hok : z_oke M (pc, i, len, x) ps = true) (hoc : z_okc P M i x ps = true) (h : z_cl i x S q = some (k, A, r)) (hN : P[k]? = some N) (con : z_Con l s0 D cA N A q (.inl v) q1)
    (hn0 : n0 ≤ q.2.1) (hu0 : u0 ≤ q.2.2) (hn1 : q.2.1 ≤ q1.2.1) (hu1 : q.2.2 ≤ q1.2.2) (hrc : q1.2.1 - n0 ≤ R.cells) (hrs : q1.2.2 - u0 ≤ R.slots)
    (kk : z_W p l e R s m args below meth c Q s0 D cA n0 u0 (pc + len) L (v.toList ++ r) q1) : z_W p l e R s m args below meth c Q s0 D cA n0 u0 pc L S q := fun H locs ls hR hf hl => by
  have hmet : Met l (zm_y N) [z_cw N] (z_rm N (q1.2.1 - q.2.1) (q1.2.2 - q.2.2)) (z_Pc s0 D cA A q) (z_Qc s0 D cA (.inl v) q1) (q1.2.1 - q.2.1) (q1.2.2 - q.2.2) (z_free s0) := z_met con (fun E st t hx9 => by obtain ⟨k9, hk9, -⟩ := hx9; cases hk9)
  have hcf : ∀ own, s.vm.findClass own = some m.cls → CallFix p m c (zm_b M) (zm_n M) s args [] own := fun own ho => ⟨C.1, C.2.1, C.2.2.1, ho, fun w hw => by cases hw⟩
  obtain ⟨hx, hb, hml, hown, hnm, hfr, hlo, ⟨hK, h99⟩, hlay, hcst, hno, hw⟩ := id C
  have hsz : ls.size = zm_n M := by rw [hl.1, hLn]
  simp only [z_oke, Bool.and_eq_true, Bool.or_eq_true, decide_eq_true_eq] at hok
  have hd := hok.1.1
  have hlen := hok.1.2
  have hroom : (q.2.1 - n0) + (q1.2.1 - q.2.1) ≤ R.cells ∧ (q.2.2 - u0) + (q1.2.2 - q.2.2) ≤ R.slots := ⟨by omega, by omega⟩
  have e1 : (q.2.1 - n0) + (q1.2.1 - q.2.1) = q1.2.1 - n0 := by omega
  have e2 : (q.2.2 - u0) + (q1.2.2 - q.2.2) = q1.2.2 - u0 := by omega
  unfold z_cl at h
  split at h
  next idx =>
    have hl3 : len = 3 := hlen.resolve_left (by simp [z_swi])
    subst hl3
    split at h
    next n t hx2 =>
      split at h
      next b r' hdr =>
        obtain ⟨hstk, hlen2⟩ := z_stk hdr
        split at h
        next o ho =>
          split at h
          next hwb =>
            have hw8 := lv_room (m := m) (pc := pc) (ls := ls) (rest := S) (z_wb_le hwb)
            split at h
            next hk0 =>
              split at h
              next ht =>
                cases h
                simp only [z_okc, hk0, if_true, hx2, ht, hN, Bool.and_eq_true, decide_eq_true_eq] at hoc
                obtain ⟨⟨⟨⟨⟨⟨g1, g2⟩, g3⟩, g4⟩, g5⟩, g6⟩, g7⟩ := hoc
                split at g7
                next rr hrr =>
                  have hcls := of_decide_eq_true g7
                  have hcw : CallW R s args (zm_y M).cls rr.1 idx (zm_y N) (zm_b N) (zm_n N) (zm_r N) [z_cw N] (z_rm N (q1.2.1 - q.2.1) (q1.2.2 - q.2.2)) (q1.2.1 - q.2.1) (q1.2.2 - q.2.2) n := ⟨z_cb C g2 g1 (hw _ (z_wd_ok g3).1 (z_wd_ok g3).2), hw _ (z_wd_ok g4).1 (z_wd_ok g4).2, by rw [hcls]; exact hw _ (z_wd_ok g5).1 (z_wd_ok g5).2⟩
                  exact z_goon (va_runV (hcf _ hown) hmet hcw (z_preV C hW hR ho g6 hrr) rfl hlen2 hsz hstk hw8 hd hroom) hf hl e1 e2 kk
                next => cases g7
              next => cases h
            next hk0 =>
              split at h
              next hk1 =>
                split at h
                next k9 hk9 =>
                  cases h
                  simp only [z_okc, hk1.1, hx2] at hoc
                  rw [if_neg (by decide), if_pos trivial] at hoc
                  split at hoc
                  next ms9 heq =>
                    cases heq
                    simp only [Bool.and_eq_true] at hoc
                    obtain ⟨⟨⟨g1, g2⟩, g3⟩, g4⟩ := hoc
                    have g5 := List.all_eq_true.mp g4 o.1 hk1.2
                    rw [hk9] at g5
                    split at g5
                    next k8 rr hk8 hrr =>
                      cases hk8
                      rw [hN] at g5
                      simp only [Bool.and_eq_true, decide_eq_true_eq] at g5
                      obtain ⟨⟨⟨g6, g7⟩, g8⟩, g9⟩ := g5
                      obtain ⟨f1, f2, f3, f4, f5, f6, f7⟩ := z_okb_spec g6
                      have h90 : o.1 < 90 := by
                        have := hk1.2
                        simp [zth] at this
                        omega
                      have hcw9 : z_cw N = .code (zm_y N) (zm_b N) (zm_n N) (zm_r N) := by rw [z_cw, if_pos g7]
                      have hcu : va_CU R s args (zm_y M).cls rr.1 "ProcessorHouse$Thing" idx z_uses (zm_y N) (zm_b N) (zm_n N) (zm_r N) [z_cw N] (z_rm N (q1.2.1 - q.2.1) (q1.2.2 - q.2.2)) (q1.2.1 - q.2.1) (q1.2.2 - q.2.2) 1 := by
                        refine ⟨⟨rfl, rfl, Nat.le_trans f1 hfr, Nat.le_trans f2 hlo, fun w hw9 a' U hU => ?_, by rw [hcw9]; exact List.mem_cons_self⟩, by rw [← hcw9]; exact hw _ f6.1 f6.2, hw _ f7.1 f7.2, ⟨by decide, by decide⟩, fun sig hs => ?_, hw _ (z_wd_ok g1).1 (z_wd_ok g1).2, hw _ (z_wd_ok g2).1 (z_wd_ok g2).2, va_Decl.abs (va_Nw.of rfl (hw _ (z_wd_ok g3).1 (z_wd_ok g3).2)), hw _ (z_wd_ok g8).1 (z_wd_ok g8).2, hw _ (z_wd_ok g9).1 (z_wd_ok g9).2⟩
                        · rw [List.mem_singleton] at hw9
                          subst hw9
                          exact z_word hU f6.2 (hw _ f6.1 f6.2)
                        · have h8 : (parseMethodDescriptor z_uses.desc).map (fun d => d.parameters.length) = some 1 := by decide +kernel
                          rw [hs] at h8
                          exact (Option.some.inj h8).symm
                      exact z_goon (va_runU (hcf _ hown) hmet hcu (z_preV C hW hR ho h90 hrr) rfl hlen2 hsz hstk hw8 hd hroom) hf hl e1 e2 kk
                    next => cases g5
                  next => cases hoc
                next => cases h
              next => cases h
          next => cases h
        next => cases h
      next => cases h
    next => cases h
  next idx =>
    have hl3 : len = 3 := hlen.resolve_left (by simp [z_swi])
    subst hl3
    split at h
    next n hx2 =>
      split at h
      next hc =>
        obtain ⟨hk, hn9, hwb⟩ := hc
        cases h
        have hw8 := lv_room (m := m) (pc := pc) (ls := ls) (rest := S) (z_wb_le hwb)
        have hstk : S = ((S.take n).reverse).reverse ++ S.drop n := by rw [List.reverse_reverse, List.take_append_drop]
        have hlen2 : ((S.take n).reverse).length = n := by rw [List.length_reverse, List.length_take]; omega
        simp only [z_okc, hx2, hN] at hoc
        rw [if_neg (by omega)] at hoc
        simp only [Bool.and_eq_true] at hoc
        obtain ⟨⟨g1, g2⟩, g3⟩ := hoc
        split at g3
        next h2 =>
          simp only [Bool.and_eq_true, decide_eq_true_eq] at g3
          exact z_goon (va_runS (hcf _ hown) hmet ⟨z_cb C g3.1 g1 (hw _ (z_wd_ok g3.2).1 (z_wd_ok g3.2).2), hw _ (z_wd_ok g2).1 (z_wd_ok g2).2⟩ (z_pre C hW hR) rfl hlen2 hsz hstk hw8 hd hroom) hf hl e1 e2 kk
        next h2 =>
          obtain ⟨f1, f2, f3, f4, f5, f6, f7⟩ := z_okb_spec g1
          have hws : ∀ w ∈ [z_cw N], ∀ (a' : Array Value) (U : State), s.WarmedH U.vm → w.before a' U = true := fun w hw9 a' U hU => by
            rw [List.mem_singleton] at hw9
            subst hw9
            exact z_word hU f6.2 (hw _ f6.1 f6.2)
          split at g3
          next h4 =>
            simp only [Bool.and_eq_true, decide_eq_true_eq] at g3
            have hcw9 : z_cw N = .code (zm_y N) (zm_b N) (zm_n N) (zm_r N) := by rw [z_cw, if_pos g3.1]
            have hcn : va_CN R s args (zm_y M).cls idx (zm_y N) "ProcessorHouse" (zm_b N) (zm_n N) (zm_r N) [z_cw N] (z_rm N (q1.2.1 - q.2.1) (q1.2.2 - q.2.2)) (q1.2.1 - q.2.1) (q1.2.2 - q.2.2) n :=
              ⟨⟨rfl, rfl, Nat.le_trans f1 hfr, Nat.le_trans f2 hlo, hws, by rw [hcw9]; exact List.mem_cons_self⟩, by rw [← hcw9]; exact hw _ f6.1 f6.2, hw _ f7.1 f7.2, f4, f5, hw _ (z_wd_ok g3.2).1 (z_wd_ok g3.2).2⟩
            exact z_goon (va_runSN (hcf _ hown) hmet ⟨hcn, hw _ (z_wd_ok g2).1 (z_wd_ok g2).2, trivial⟩ (z_pre C hW hR) rfl hlen2 hsz hstk hw8 hd hroom) hf hl e1 e2 kk
          next h4 =>
            split at g3
            next h6 =>
              simp only [Bool.and_eq_true, decide_eq_true_eq] at g3
              have hcw9 : z_cw N = .codeWith (zm_y N) (zm_b N) (zm_n N) (zm_r N) (zm_h N) := by rw [z_cw, if_neg g3.1]
              have hcn : vx_CSW R s args (zm_y M).cls idx (zm_y N) (zm_b N) (zm_n N) (zm_r N) (zm_h N) [z_cw N] (z_rm N (q1.2.1 - q.2.1) (q1.2.2 - q.2.2)) (q1.2.1 - q.2.1) (q1.2.2 - q.2.2) n :=
                ⟨⟨rfl, rfl, Nat.le_trans f1 hfr, Nat.le_trans f2 hlo, hws, by rw [hcw9]; exact List.mem_cons_self⟩, by rw [← hcw9]; exact hw _ f6.1 f6.2, hw _ f7.1 f7.2, f4, f5, hw _ (z_wd_ok g3.2).1 (z_wd_ok g3.2).2, hw _ (z_wd_ok g2).1 (z_wd_ok g2).2⟩
              exact z_goon (vx_runSW (hcf _ hown) hmet hcn (z_pre C hW hR) rfl hlen2 hsz hstk hw8 hd hroom) hf hl e1 e2 kk
            next => cases g3
      next => cases h
    next => cases h
  next idx =>
    have hl3 : len = 3 := hlen.resolve_left (by simp [z_swi])
    subst hl3
    split at h
    next n hx2 =>
      split at h
      next b r' hdr =>
        obtain ⟨hstk, hlen2⟩ := z_stk hdr
        split at h
        next hc =>
          obtain ⟨hk, hwb⟩ := hc
          cases h
          have hw8 := lv_room (m := m) (pc := pc) (ls := ls) (rest := S) (z_wb_le hwb)
          simp only [z_okc, hx2, hN] at hoc
          rw [if_neg (by omega)] at hoc
          simp only [Bool.and_eq_true, decide_eq_true_eq] at hoc
          obtain ⟨⟨⟨⟨⟨g1, g2⟩, g3⟩, g4⟩, g5⟩, g6⟩ := hoc
          obtain ⟨f1, f2, f3, f4, f5, f6, f7⟩ := z_okb_spec g1
          split at g6
          next h3 =>
            have hcb := z_cb (mc := q1.2.1 - q.2.1) (ms := q1.2.2 - q.2.2) C g2 g1 (hw _ (z_wd_ok g6).1 (z_wd_ok g6).2)
            rw [g3] at hcb
            exact z_goon (va_runI (hcf _ hown) hmet ⟨hcb, g4, hw _ (z_wd_ok g5).1 (z_wd_ok g5).2⟩ (z_pre C hW hR) rfl hlen2 hsz hstk hw8 hd hroom) hf hl e1 e2 kk
          next h3 =>
            split at g6
            next h5 =>
              have hcw9 : z_cw N = .code (zm_y N) (zm_b N) (zm_n N) none := by rw [z_cw, if_pos g2, g3]
              have hcn : va_CN R s args (zm_y M).cls idx (zm_y N) "ProcessorHouse" (zm_b N) (zm_n N) none [z_cw N] (z_rm N (q1.2.1 - q.2.1) (q1.2.2 - q.2.2)) (q1.2.1 - q.2.1) (q1.2.2 - q.2.2) n :=
                ⟨⟨rfl, rfl, Nat.le_trans f1 hfr, Nat.le_trans f2 hlo, fun w hw9 a' U hU => by
                  rw [List.mem_singleton] at hw9
                  subst hw9
                  exact z_word hU f6.2 (hw _ f6.1 f6.2), by rw [hcw9]; exact List.mem_cons_self⟩, by rw [← hcw9]; exact hw _ f6.1 f6.2, hw _ f7.1 f7.2, f4, f5, hw _ (z_wd_ok g6).1 (z_wd_ok g6).2⟩
              exact z_goon (va_runIN (hcf _ hown) hmet ⟨hcn, g4, hw _ (z_wd_ok g5).1 (z_wd_ok g5).2⟩ (z_pre C hW hR) rfl hlen2 hsz hstk hw8 hd hroom) hf hl e1 e2 kk
            next => cases g6
        next => cases h
      next => cases h
    next => cases h
  next => cases h
end ZG
end
section
/-! A CALL THAT THROWS, A CATCH, and the whole -/
theorem z_row_spec : ∀ (H : List (Nat × Nat × Nat × Nat)) (E : List Nat) {pc k h : Nat}, z_row H E pc k = some h → ∃ (pre : List ((Nat × Nat × Nat × Nat) × Nat)) (x : Nat × Nat × Nat × Nat) (suf : List ((Nat × Nat × Nat × Nat) × Nat)),
    H.zip E = pre ++ (x, k) :: suf ∧ x.1 ≤ pc ∧ pc < x.2.1 ∧ x.2.2.1 = h ∧ ∀ z ∈ pre, ¬ (z.1.1 ≤ pc ∧ pc < z.1.2.1) ∨ z.2 ≠ k := by
  intro H
  induction H with
  | nil => intro E pc k h hh; simp [z_row] at hh
  | cons a H ih =>
    intro E pc k h hh
    cases E with
    | nil => simp [z_row] at hh
    | cons b E =>
      unfold z_row at hh
      split at hh
      next hc =>
        cases hh
        obtain ⟨h1, h2, h3⟩ := hc
        subst h3
        exact ⟨[], a, H.zip E, rfl, h1, h2, rfl, fun z hz => by cases hz⟩
      next hc =>
        obtain ⟨pre, x, suf, e1, e2, e3, e4, e5⟩ := ih E hh
        refine ⟨(a, b) :: pre, x, suf, by simp [e1], e2, e3, e4, fun z hz => ?_⟩
        rcases List.mem_cons.mp hz with rfl | hz
        · by_cases hcov : a.1 ≤ pc ∧ pc < a.2.1
          · exact Or.inr fun hk => hc ⟨hcov.1, hcov.2, hk⟩
          · exact Or.inl hcov
        · exact e5 z hz
theorem z_okh_spec {M : zM} {ps : List Nat} (h : z_okh M ps = true) : (zm_h M).length = (zm_e M).length ∧ ∀ w ∈ (zm_h M).zip (zm_e M), w.1.2.2.2 ≠ 0 ∧ w.2 < 4 ∧ Jvm.Cond.classLink (zm_y M).cls w.1.2.2.2 (zex w.2) ∈ lw_tbl ∧ z_gw (Jvm.Cond.classLink (zm_y M).cls w.1.2.2.2 (zex w.2)) = true := by
  unfold z_okh at h
  simp only [Bool.and_eq_true, decide_eq_true_eq] at h
  obtain ⟨h1, h2⟩ := h
  refine ⟨h1, fun w hw => ?_⟩
  obtain ⟨j, hj⟩ := List.getElem?_of_mem hw
  have h3 := List.all_eq_true.mp h2 (w, j) (List.mem_of_getElem? (i := j) (by rw [List.getElem?_zipIdx, hj]; simp))
  simp only [Bool.and_eq_true, decide_eq_true_eq] at h3
  exact ⟨h3.1.1, h3.1.2, z_wd_ok h3.2⟩
section ZK
variable {p : Program} {l : Launch} {e : Env} {R : Room} {s : State} {m : MethodId} {args : Array Value} {below : List Frame} {meth : Method} {c : Code} {Q : State → Prop} {s0 : State} {D : va_G} {cA : Nat → ClassId} {n0 u0 : Nat}
variable {M N : zM} {pc len : Nat} {L : zL} {S r : List Value} {q q1 : zS} {x : zX} {ps : List Nat} {A : List Value} {P : List zM}
/-- a call that throws -/
theorem zr_callX {i : Instr} {k j : Nat} (C : z_C p R s m args meth c M D cA) (hW : s0.WarmedH s.vm) (hLn : L.length = zm_n M) (hok : z_oke M (pc, i, len, x) ps = true) (hoc : z_okc P M i x ps = true) (hvk : z_vk i x = true) (h : z_cl i x S q = some (k, A, r)) (hN : P[k]? = some N) (con : z_Con l s0 D cA N A q (.inr j) q1)
    (hn0 : n0 ≤ q.2.1) (hu0 : u0 ≤ q.2.2) (hn1 : q.2.1 ≤ q1.2.1) (hu1 : q.2.2 ≤ q1.2.2) (hrc : q1.2.1 - n0 ≤ R.cells) (hrs : q1.2.2 - u0 ≤ R.slots)
    (kk : ∀ (H : Heap) (locs : List Loc) (ls : Array Slot) (a : Addr) (ce : Cell), z_R s0 D cA q1 H → (∀ z ∈ locs, s0.heap.size ≤ z.base) → z_has ls L → H[a]? = some ce → ce.vm = .none → s.vm.findClass (zex j) = some ce.cls → vx_W p l e R s m args below meth c H locs (q1.2.1 - n0) (q1.2.2 - u0) Q (F0 m pc ls r) a) :
    z_W p l e R s m args below meth c Q s0 D cA n0 u0 pc L S q := fun H locs ls hR hf hl => by
  have hcf : ∀ own, s.vm.findClass own = some m.cls → CallFix p m c (zm_b M) (zm_n M) s args [] own := fun own ho => ⟨C.1, C.2.1, C.2.2.1, ho, fun w hw => by cases hw⟩
  obtain ⟨hx, hb, hml, hown, hnm, hfr, hlo, ⟨hK, h99⟩, hlay, hcst, hno, hw⟩ := id C
  have hsz : ls.size = zm_n M := by rw [hl.1, hLn]
  simp only [z_oke, Bool.and_eq_true, Bool.or_eq_true, decide_eq_true_eq] at hok
  have hd := hok.1.1
  have hlen := hok.1.2
  have hroom : (q.2.1 - n0) + (q1.2.1 - q.2.1) ≤ R.cells ∧ (q.2.2 - u0) + (q1.2.2 - q.2.2) ≤ R.slots := ⟨by omega, by omega⟩
  have e1 : (q.2.1 - n0) + (q1.2.1 - q.2.1) = q1.2.1 - n0 := by omega
  have e2 : (q.2.2 - u0) + (q1.2.2 - q.2.2) = q1.2.2 - u0 := by omega
  unfold z_vk at hvk
  split at hvk
  next idx =>
    have hk0 := of_decide_eq_true hvk
    have hl3 : len = 3 := hlen.resolve_left (by simp [z_swi])
    subst hl3
    unfold z_cl at h
    simp only at h
    split at h
    next n t hx2 =>
      split at h
      next b r' hdr =>
        obtain ⟨hstk, hlen2⟩ := z_stk hdr
        split at h
        next o ho =>
          split at h
          next hwb =>
            have hw8 := lv_room (m := m) (pc := pc) (ls := ls) (rest := S) (z_wb_le hwb)
            try rw [if_pos hk0] at h
            split at h
            next ht =>
              cases h
              simp only [z_okc, hk0, if_true, hx2, ht, hN, Bool.and_eq_true, decide_eq_true_eq] at hoc
              obtain ⟨⟨⟨⟨⟨⟨g1, g2⟩, g3⟩, g4⟩, g5⟩, g6⟩, g7⟩ := hoc
              split at g7
              next rr hrr =>
                have hcls := of_decide_eq_true g7
                have hcw : CallW R s args (zm_y M).cls rr.1 idx (zm_y N) (zm_b N) (zm_n N) (zm_r N) [z_cw N] (z_rm N (q1.2.1 - q.2.1) (q1.2.2 - q.2.2)) (q1.2.1 - q.2.1) (q1.2.2 - q.2.2) n := ⟨z_cb C g2 g1 (hw _ (z_wd_ok g3).1 (z_wd_ok g3).2), hw _ (z_wd_ok g4).1 (z_wd_ok g4).2, by rw [hcls]; exact hw _ (z_wd_ok g5).1 (z_wd_ok g5).2⟩
                have run := vx_runV (hcf _ hown) con hcw (z_preV C hW hR ho g6 hrr) (e := e) (below := below) (meth := meth) (locs := locs) (g := F0 m pc ls S) rfl hlen2 hsz hstk hw8 hd hroom
                intro T hT X
                rcases run T hT X with ⟨v', st0, t, T', L', h0, X', hL, f1, f2, ⟨w, hw1, -⟩, -⟩ | ⟨a, st0, t, T', L', E, ce, h0, X', hL, f1, f2, ⟨k9, hk9, hE, hR1⟩, hce, hcv, hcl, st⟩
                · cases hw1
                · cases hk9
                  subst hE
                  rw [e1, e2] at X'
                  obtain ⟨t2, a1, b1⟩ := kk T'.heap (locs ++ L') ls a ce (by rw [f1]; exact hR1) (fun z hz => (List.mem_append.mp hz).elim (hf z) (hL z)) hl (by rw [f1]; exact hce) hcv hcl T' rfl X'
                  exact ⟨t2, st.trans a1, b1⟩
              next => cases g7
            next => cases h
          next => cases h
        next => cases h
      next => cases h
    next => cases h
  next => cases hvk
/-- caught: the exception is put away, and on -/
theorem zr_catch {a0 : Array Value} {TH : List (String × Nat × Nat × Nat)} {j g : Nat} {ph : List Nat} {q' : Instr × Nat × zX} {t : Nat × zL} (F : z_F l s0 a0 D cA) (T : z_T TH) (C : z_C p R s m args meth c M D cA) (hW : s0.WarmedH s.vm) (htab : c.exceptionTable.toList = tableOf (zm_h M)) (hj : j < 4)
    (hoh : z_okh M ph = true) (hrow : z_row (zm_h M) (zm_e M) pc j = some g) (hok : z_oke M (g, q') ps = true) (hput : z_put1 q' g L = some t) (kk : z_W p l e R s m args below meth c Q s0 D cA n0 u0 t.1 t.2 [] q1)
    (H : Heap) (locs : List Loc) (ls : Array Slot) (a : Addr) (ce : Cell) (hR : z_R s0 D cA q1 H) (hf : ∀ z ∈ locs, s0.heap.size ≤ z.base) (hl : z_has ls L) (hce : H[a]? = some ce) (hcv : ce.vm = .none) (hcl : s.vm.findClass (zex j) = some ce.cls) :
    vx_W p l e R s m args below meth c H locs (q1.2.1 - n0) (q1.2.2 - u0) Q (F0 m pc ls r) a := by
  obtain ⟨hst, htb, -, -, hex, -⟩ := F
  obtain ⟨-, -, t3, -⟩ := T
  obtain ⟨hx, hb, hml, hown, hnm, hfr, hlo, ⟨hK, h99⟩, hlay, hcst, hno, hw⟩ := C
  obtain ⟨hlen, hrows⟩ := z_okh_spec hoh
  obtain ⟨pre, x9, suf, e1, e2, e3, e4, e5⟩ := z_row_spec _ _ hrow
  have hsplit : c.exceptionTable.toList = tableOf (pre.map Prod.fst) ++ (⟨x9.1, x9.2.1, x9.2.2.1, x9.2.2.2⟩ : ExceptionTableEntry) :: tableOf (suf.map Prod.fst) := by
    rw [htab]
    have h9 : zm_h M = ((zm_h M).zip (zm_e M)).map Prod.fst := (List.map_fst_zip (Nat.le_of_eq hlen)).symm
    rw [h9, e1]
    simp [tableOf]
  have hx9 := hrows (x9, j) (by rw [e1]; simp)
  refine vx_catch hown _ _ _ hsplit (fun z hz => ?_) (by simp [covers, e2, e3]) hx9.1 (hw _ hx9.2.2.1 hx9.2.2.2) (hw _ (t3 j hj) rfl) hce hcv hcl ?_
  · simp only [tableOf, List.mem_map] at hz
    obtain ⟨w, ⟨w2, hw2, rfl⟩, rfl⟩ := hz
    rcases e5 w2 hw2 with h9 | h9
    · left
      simp only [covers, Bool.and_eq_false_iff, decide_eq_false_iff_not]
      by_cases h8 : w2.1.1 ≤ pc
      · exact Or.inr fun h7 => h9 ⟨h8, h7⟩
      · exact Or.inl h8
    · have hw3 := hrows w2 (by rw [e1]; exact List.mem_append_left _ hw2)
      exact Or.inr ⟨hw3.1, _, hw _ hw3.2.2.1 hw3.2.2.2, (hex j w2.2 hj hw3.2.1 (Ne.symm h9)).moved hW.alike⟩
  · show W p l e R s m args below meth c H locs (q1.2.1 - n0) (q1.2.2 - u0) Q (F0 m x9.2.2.1 ls [.ref a])
    rw [e4]
    simp only [z_oke, Bool.and_eq_true, Bool.or_eq_true, decide_eq_true_eq] at hok
    have hd := hok.1.1
    obtain ⟨i, len', x'⟩ := q'
    unfold z_put1 at hput
    simp only at hput hd
    split at hput
    next y9 =>
      split at hput
      next hc =>
        cases hput
        obtain ⟨h1, h2⟩ := hc
        rw [h2] at hd
        exact lv_astore_n hx hb hd rfl hl.prs h1 rfl (fun ls2 h3 => kk H locs ls2 hR hf (z_has.unset1 h1 h3))
      next => cases hput
    next y9 =>
      split at hput
      next hc =>
        cases hput
        obtain ⟨h1, h2⟩ := hc
        rw [h2] at hd
        exact lv_astore hx hb hd hl.prs h1 rfl (fun ls2 h3 => kk H locs ls2 hR hf (z_has.unset1 h1 h3))
      next => cases hput
    next => cases hput
theorem z_put1_len {q' : Instr × Nat × zX} {g : Nat} {t : Nat × zL} (h : z_put1 q' g L = some t) : t.2.length = L.length := by
  unfold z_put1 at h
  split at h
  · split at h
    · cases h; simp [z_kill_len]
    · cases h
  · split at h
    · cases h; simp [z_kill_len]
    · cases h
  · cases h
end ZK
/-- what is known of a run of the little machine -/
def z_Is (l : Launch) (s0 : State) (D : va_G) (cA : Nat → ClassId) (M : zM) (pc : Nat) (L : zL) (S : List Value) (q : zS) (o : zU) (q' : zS) : Prop :=
  (q.2.1 ≤ q'.2.1 ∧ q.2.2 ≤ q'.2.2 ∧ ∀ j, o = .inr j → j < 4) ∧
  ∀ (p : Program) (e : Env) (R : Room) (s : State) (m : MethodId) (args : Array Value) (below : List Frame) (meth : Method) (c : Code) (n0 u0 : Nat), z_C p R s m args meth c M D cA → meth.sig.returnType = zm_r M → meth.locks = false → c.exceptionTable.toList = tableOf (zm_h M) → s0.WarmedH s.vm → s0.heap.size ≤ s.heap.size → (∀ a : Nat, a < s0.heap.size → s.heap[a]? = s0.heap[a]?) → s.heap.size = n0 →
    n0 ≤ q.2.1 → u0 ≤ q.2.2 → q'.2.1 - n0 ≤ R.cells → q'.2.2 - u0 ≤ R.slots → z_W p l e R s m args below meth c (vx_MQ below (z_Qc s0 D cA o q') (z_XC s0 D cA o q') args s (q'.2.1 - n0) (q'.2.2 - u0) (z_free s0)) s0 D cA n0 u0 pc L S q
theorem z_con {l : Launch} {s0 : State} {a0 : Array Value} {D : va_G} {cA : Nat → ClassId} {TH : List (String × Nat × Nat × Nat)} (F : z_F l s0 a0 D cA) (T : z_T TH) {N : zM} {A : List Value} {q q1 : zS} {o : zU} (hpl : plainFor (zm_y N) = true) (hent : (z_ent A).length ≤ zm_n N) (h : z_Is l s0 D cA N 0 (z_ini (zm_n N) A) [] q o q1) : z_Con l s0 D cA N A q o q1 := by
  have key : ∀ (p : Program) (e : Env) (s : State) (m : MethodId) (args : Array Value) (below : List Frame) (meth : Method) (c : Code) (s₁ : State), BodyLoose p l (zm_y N) (headSpec [z_cw N] (z_rm N (q1.2.1 - q.2.1) (q1.2.2 - q.2.2))) (zm_b N) (zm_n N) (zm_r N) e s m args below meth c s₁ → c.maxLocals = zm_n N → c.exceptionTable.toList = tableOf (zm_h N) → z_Pc s0 D cA A q args s →
      W p l e (headSpec [z_cw N] (z_rm N (q1.2.1 - q.2.1) (q1.2.2 - q.2.2))).room s m args below meth c s.heap [] 0 0 (vx_MQ below (z_Qc s0 D cA o q1) (z_XC s0 D cA o q1) args s (q1.2.1 - q.2.1) (q1.2.2 - q.2.2) (z_free s0)) (entryFrame m args (zm_n N)) := by
    intro p e s m args below meth c s₁ B hml htab hP
    obtain ⟨rfl, hR, hW⟩ := hP
    have hC : z_C p (headSpec [z_cw N] (z_rm N (q1.2.1 - q.2.1) (q1.2.2 - q.2.2))).room s m A.toArray meth c N D cA := z_C_of F T hW B.exec B.bytes hml (findClass_of_methodNamed B.named) (name_of_methodNamed B.named B.method).1 (Nat.le_refl _) (Nat.le_refl _)
    have hw := h.2 p e _ s m A.toArray below meth c q.2.1 q.2.2 hC B.returns B.notSynchronized htab hW hR.1 hR.2.1 hR.2.2.1 (Nat.le_refl _) (Nat.le_refl _) (Nat.le_refl _) (Nat.le_refl _) s.heap [] _ hR (fun z hz => by cases hz) (z_ini_has hent)
    rw [lg_entry_eq]
    rw [Nat.sub_self, Nat.sub_self] at hw
    exact hw
  unfold z_Con
  by_cases hh : zm_h N = []
  · refine vx_ofW (cc := zm_b N) (maxL := zm_n N) (ret := zm_r N) hpl (ws' := []) (by rw [z_cw, if_pos hh]) ?_
    intro p e s m args below meth c s₁ B hml ht hP
    exact key p e s m args below meth c s₁ B hml (by
      rw [hh]
      cases hl : c.exceptionTable.toList with
      | nil => rfl
      | cons a b => exact (ht a (by rw [hl]; exact List.mem_cons_self)).elim) hP
  · refine vx_ofWH (cc := zm_b N) (maxL := zm_n N) (ret := zm_r N) (hh := zm_h N) hpl (ws' := []) (by rw [z_cw, if_neg hh]) ?_
    intro p e s m args below meth c s₁ B hml hP
    refine key p e s m args below meth c s₁ B hml ?_ hP
    have h9 := atoms_spec (ws := [z_cw N]) B.pre _ List.mem_cons_self
    rw [z_cw, if_neg hh] at h9
    exact vx_table (x := zm_y N) B h9
/-- THE LITTLE MACHINE IS SOUND -/
theorem z_main {l : Launch} {s0 : State} {a0 : Array Value} {D : va_G} {cA : Nat → ClassId} {TH : List (String × Nat × Nat × Nat)} {P : List zM} (F : z_F l s0 a0 D cA) (T : z_T TH) (OK : z_OK P TH) :
    ∀ (n k pc : Nat) (L : zL) (S : List Value) (q : zS) (o : zU) (q' : zS) (M : zM), z_rn P n k pc L S q = some (o, q') → P[k]? = some M → L.length = zm_n M → z_Is l s0 D cA M pc L S q o q' := by
  intro n
  induction n with
  | zero => intro k pc L S q o q' M h; simp [z_rn] at h
  | succ n ih =>
    intro k pc L S q o q' M h hM hLn
    obtain ⟨ph, pe, hokm⟩ := OK k M hM
    have hoh : z_okh M ph = true := by
      have := hokm
      unfold z_okm at this
      simp only [Bool.and_eq_true] at this
      exact this.1.1.1
    rw [z_rn, hM] at h
    simp only at h
    cases hq : z_ftc (zm_c M) pc with
    | none => rw [hq] at h; simp at h
    | some w =>
      rw [hq] at h
      simp only at h
      obtain ⟨ps, hoke, hokt, hokc⟩ := z_okm_at hokm hq
      obtain ⟨i, len, x⟩ := w
      simp only at h hoke hokt hokc
      cases hnx : z_nx i x pc len L S q with
      | some t =>
        rw [hnx] at h
        simp only at h
        obtain ⟨g1, g2, g3⟩ := z_nx_len hnx
        obtain ⟨⟨i1, i2, i3⟩, i4⟩ := ih k t.1 t.2.1 t.2.2.1 t.2.2.2 o q' M h hM (g1.trans hLn)
        refine ⟨⟨Nat.le_trans g2 i1, Nat.le_trans g3 i2, i3⟩, ?_⟩
        intro p e R s m args below meth c n0 u0 hC hr hlk htab hW hs1 hs2 hs3 hn0 hu0 hrc hrs
        exact z_next hC hLn hoke hn0 hu0 (by omega) (by omega) hnx (i4 p e R s m args below meth c n0 u0 hC hr hlk htab hW hs1 hs2 hs3 (by omega) (by omega) hrc hrs)
      | none =>
        rw [hnx] at h
        simp only at h
        cases hrt : z_rt (zm_r M) i S with
        | some v =>
          rw [hrt] at h
          simp only [Option.some.injEq, Prod.mk.injEq] at h
          obtain ⟨rfl, rfl⟩ := h
          refine ⟨⟨Nat.le_refl _, Nat.le_refl _, fun j hj => by cases hj⟩, ?_⟩
          intro p e R s m args below meth c n0 u0 hC hr hlk htab hW hs1 hs2 hs3 hn0 hu0 hrc hrs
          exact zr_ret hC hr hlk hoke hrt
        | none =>
          rw [hrt] at h
          simp only at h
          cases hth : z_th i x S q with
          | some t =>
            rw [hth] at h
            simp only at h
            split at h
            next hh =>
              simp only [Option.some.injEq, Prod.mk.injEq] at h
              obtain ⟨rfl, rfl⟩ := h
              have hmono : q.2.1 ≤ t.2.2.1 ∧ q.2.2 ≤ t.2.2.2 := by
                unfold z_th at hth
                split at hth
                · split at hth
                  · cases hth; exact ⟨Nat.le_add_right _ _, Nat.le_add_right _ _⟩
                  · cases hth
                · cases hth
              have hk4 : t.1 < 4 := by
                have h9 := hth
                unfold z_th at h9
                split at h9
                next idx =>
                  split at h9
                  next hc =>
                    cases h9
                    simp only [z_okt, Bool.or_eq_true, decide_eq_true_eq] at hokt
                    have hokt := hokt.resolve_left (by omega)
                    split at hokt
                    next ic wide hx2 =>
                      simp only [Bool.and_eq_true, decide_eq_true_eq] at hokt
                      exact (T.2.2.2 _ hokt.1.1.1.1.1.1).1
                    next => cases hokt
                  next => cases h9
                next => cases h9
              refine ⟨⟨hmono.1, hmono.2, fun j hj => by cases hj; exact hk4⟩, ?_⟩
              intro p e R s m args below meth c n0 u0 hC hr hlk htab hW hs1 hs2 hs3 hn0 hu0 hrc hrs
              exact (zr_throw F T hC hlk htab hW hLn hs1 hs2 hs3 hn0 hu0 hrc hrs hoke hokt hth).2
            next => cases h
          | none =>
            rw [hth] at h
            simp only at h
            cases hcl : z_cl i x S q with
            | none => rw [hcl] at h; simp at h
            | some w =>
              obtain ⟨k1, A, r⟩ := w
              rw [hcl] at h
              simp only at h
              cases hN : P[k1]? with
              | none => rw [hN] at h; simp at h
              | some N =>
                rw [hN] at h
                simp only at h
                split at h
                next hent =>
                  obtain ⟨phN, peN, hokN⟩ := OK k1 N hN
                  have hpl : plainFor (zm_y N) = true := by
                    have := hokN
                    unfold z_okm at this
                    simp only [Bool.and_eq_true] at this
                    exact this.1.1.2
                  cases hb : z_rn P n k1 0 (z_ini (zm_n N) A) [] q with
                  | none => rw [hb] at h; simp at h
                  | some w =>
                    obtain ⟨o1, q1⟩ := w
                    rw [hb] at h
                    have hI := ih k1 0 (z_ini (zm_n N) A) [] q o1 q1 N hb hN (z_ini_len hent)
                    have hcon := z_con F T hpl hent hI
                    obtain ⟨⟨b1, b2, b3⟩, -⟩ := hI
                    cases o1 with
                    | inl v =>
                      simp only at h
                      obtain ⟨⟨i1, i2, i3⟩, i4⟩ := ih k (pc + len) L (v.toList ++ r) q1 o q' M h hM hLn
                      refine ⟨⟨Nat.le_trans b1 i1, Nat.le_trans b2 i2, i3⟩, ?_⟩
                      intro p e R s m args below meth c n0 u0 hC hr hlk htab hW hs1 hs2 hs3 hn0 hu0 hrc hrs
                      exact zr_call hC hW hLn hoke hokc hcl hN hcon hn0 hu0 b1 b2 (by omega) (by omega) (i4 p e R s m args below meth c n0 u0 hC hr hlk htab hW hs1 hs2 hs3 (by omega) (by omega) hrc hrs)
                    | inr j =>
                      have hj4 : j < 4 := b3 j rfl
                      simp only at h
                      split at h
                      next hvk =>
                        split at h
                        next hh =>
                          simp only [Option.some.injEq, Prod.mk.injEq] at h
                          obtain ⟨rfl, rfl⟩ := h
                          refine ⟨⟨b1, b2, b3⟩, ?_⟩
                          intro p e R s m args below meth c n0 u0 hC hr hlk htab hW hs1 hs2 hs3 hn0 hu0 hrc hrs
                          refine zr_callX hC hW hLn hoke hokc hvk hcl hN hcon hn0 hu0 b1 b2 hrc hrs ?_
                          intro H locs ls a ce hR hf hl hce hcv hcls
                          exact vx_out (fun z hz => by rw [htab, hh] at hz; cases hz) hlk hce hcv hcls (fun t ht _ => ⟨j, rfl, rfl, by rw [ht]; exact hR⟩) hf (Nat.le_refl _) (Nat.le_refl _)
                        next hh =>
                          cases hro : z_row (zm_h M) (zm_e M) pc j with
                          | none => rw [hro] at h; simp at h
                          | some g =>
                            rw [hro] at h
                            simp only at h
                            cases hq' : z_ftc (zm_c M) g with
                            | none => rw [hq'] at h; simp at h
                            | some q9 =>
                              rw [hq'] at h
                              simp only at h
                              cases hp : z_put1 q9 g L with
                              | none => rw [hp] at h; simp at h
                              | some t =>
                                rw [hp] at h
                                simp only at h
                                obtain ⟨ps', hoke', -, -⟩ := z_okm_at hokm hq'
                                obtain ⟨⟨i1, i2, i3⟩, i4⟩ := ih k t.1 t.2 [] q1 o q' M h hM ((z_put1_len hp).trans hLn)
                                refine ⟨⟨Nat.le_trans b1 i1, Nat.le_trans b2 i2, i3⟩, ?_⟩
                                intro p e R s m args below meth c n0 u0 hC hr hlk htab hW hs1 hs2 hs3 hn0 hu0 hrc hrs
                                refine zr_callX hC hW hLn hoke hokc hvk hcl hN hcon hn0 hu0 b1 b2 (by omega) (by omega) ?_
                                intro H locs ls a ce hR hf hl hce hcv hcls
                                exact zr_catch F T hC hW htab hj4 hoh hro hoke' hp (i4 p e R s m args below meth c n0 u0 hC hr hlk htab hW hs1 hs2 hs3 (by omega) (by omega) hrc hrs) H locs ls a ce hR hf hl hce hcv hcls
                      next => cases h
                next => cases h
end
section
/-! THE PROGRAM, for the little machine: printed by program out of the names and the tables -/
def zm_X0_init : zM := (yX0_init, cX0_init, 2, none, [], [], [(0, .aload_n 0, 1, (0, 0, [])),
  (1, .iconst 4, 1, (0, 0, [])),
  (2, .invokespecial 3, 3, (48, 3, [1])),
  (5, .aload_n 0, 1, (0, 0, [])),
  (6, .aload_n 1, 1, (0, 0, [])),
  (7, .putfield 9, 3, (1, 0, [0])),
  (10, .return_, 1, (0, 0, []))], 2, 41)
def zm_X0_uses : zM := (yX0_uses, cX0_uses, 2, (some .boolean), [], [], [(0, .aload_n 1, 1, (0, 0, [])),
  (1, .aload_n 0, 1, (0, 0, [])),
  (2, .getfield 9, 3, (1, 0, [0])),
  (5, .if_acmp .ne 7, 3, (0, 0, [])),
  (8, .iconst 1, 1, (0, 0, [])),
  (9, .goto 4, 3, (0, 0, [])),
  (12, .iconst 0, 1, (0, 0, [])),
  (13, .ireturn, 1, (0, 0, []))], 0, 0)
def zm_X0_settle : zM := (yX0_settle, cX0_settle, 5, none, [], [], [(0, .aload_n 0, 1, (0, 0, [])),
  (1, .iload_n 1, 1, (0, 0, [])),
  (2, .putfield 15, 3, (2, 0, [0])),
  (5, .aload_n 0, 1, (0, 0, [])),
  (6, .iload_n 2, 1, (0, 0, [])),
  (7, .putfield 19, 3, (3, 0, [0])),
  (10, .aload_n 0, 1, (0, 0, [])),
  (11, .iload_n 3, 1, (0, 0, [])),
  (12, .putfield 22, 3, (4, 0, [0])),
  (15, .aload_n 0, 1, (0, 0, [])),
  (16, .iload 4, 2, (0, 0, [])),
  (18, .putfield 25, 3, (5, 0, [0])),
  (21, .return_, 1, (0, 0, []))], 0, 0)
def zm_X1_init : zM := (yX1_init, cX1_init, 1, none, [], [], [(0, .aload_n 0, 1, (0, 0, [])),
  (1, .invokespecial 5, 3, (0, 7, [])),
  (4, .aload_n 0, 1, (0, 0, [])),
  (5, .ldc 11, 2, (56000, 0, [])),
  (7, .newarray .long, 2, (0, 0, [])),
  (9, .putfield 12, 3, (0, 0, [1])),
  (12, .aload_n 0, 1, (0, 0, [])),
  (13, .sipush 4096, 3, (0, 0, [])),
  (16, .newarray .int, 2, (0, 0, [])),
  (18, .putfield 16, 3, (1, 0, [1])),
  (21, .aload_n 0, 1, (0, 0, [])),
  (22, .sipush 2000, 3, (0, 0, [])),
  (25, .newarray .int, 2, (0, 0, [])),
  (27, .putfield 20, 3, (2, 0, [1])),
  (30, .aload_n 0, 1, (0, 0, [])),
  (31, .bipush 28, 2, (0, 0, [])),
  (33, .newarray .long, 2, (0, 0, [])),
  (35, .putfield 23, 3, (3, 0, [1])),
  (38, .return_, 1, (0, 0, []))], 1, 20)
def zm_X1_goThrough : zM := (yX1_goThrough, cX1_goThrough, 3, none, [], [], [(0, .aload_n 0, 1, (0, 0, [])),
  (1, .aload_n 1, 1, (0, 0, [])),
  (2, .putfield 26, 3, (4, 0, [1])),
  (5, .aload_n 0, 1, (0, 0, [])),
  (6, .aload_n 1, 1, (0, 0, [])),
  (7, .getfield 30, 3, (1, 0, [3])),
  (10, .getfield 36, 3, (1, 0, [4])),
  (13, .putfield 42, 3, (5, 0, [1])),
  (16, .aload_n 0, 1, (0, 0, [])),
  (17, .iconst 0, 1, (0, 0, [])),
  (18, .putfield 43, 3, (6, 0, [1])),
  (21, .aload_n 0, 1, (0, 0, [])),
  (22, .iconst 0, 1, (0, 0, [])),
  (23, .putfield 47, 3, (7, 0, [1])),
  (26, .aload_n 0, 1, (0, 0, [])),
  (27, .iconst 0, 1, (0, 0, [])),
  (28, .putfield 50, 3, (8, 0, [1])),
  (31, .aload_n 0, 1, (0, 0, [])),
  (32, .iconst 0, 1, (0, 0, [])),
  (33, .putfield 53, 3, (9, 0, [1])),
  (36, .aload_n 0, 1, (0, 0, [])),
  (37, .getfield 16, 3, (1, 0, [1])),
  (40, .iconst 0, 1, (0, 0, [])),
  (41, .invokestatic 57, 3, (157, 2, [2])),
  (44, .aload_n 0, 1, (0, 0, [])),
  (45, .getfield 23, 3, (3, 0, [1])),
  (48, .lconst 0, 1, (0, 0, [])),
  (49, .invokestatic 63, 3, (156, 2, [2])),
  (52, .aload_n 0, 1, (0, 0, [])),
  (53, .invokevirtual 66, 3, (14, 0, [0, 1])),
  (56, .iconst 0, 1, (0, 0, [])),
  (57, .istore_n 2, 1, (0, 0, [])),
  (58, .iload_n 2, 1, (0, 0, [])),
  (59, .aload_n 0, 1, (0, 0, [])),
  (60, .getfield 43, 3, (6, 0, [1])),
  (63, .if_icmp .ge 28, 3, (0, 0, [])),
  (66, .iload_n 2, 1, (0, 0, [])),
  (67, .sipush 2000, 3, (0, 0, [])),
  (70, .if_icmp .ge 21, 3, (0, 0, [])),
  (73, .aload_n 0, 1, (0, 0, [])),
  (74, .getfield 53, 3, (9, 0, [1])),
  (77, .ifCond .ne 14, 3, (0, 0, [])),
  (80, .aload_n 0, 1, (0, 0, [])),
  (81, .iload_n 2, 1, (0, 0, [])),
  (82, .invokevirtual 69, 3, (5, 0, [1, 1])),
  (85, .iinc 2 1, 3, (0, 0, [])),
  (88, .goto (-30), 3, (0, 0, [])),
  (91, .aload_n 0, 1, (0, 0, [])),
  (92, .invokevirtual 73, 3, (21, 0, [0, 1])),
  (95, .return_, 1, (0, 0, []))], 5, 122)
def zm_X1_goOnFrom : zM := (yX1_goOnFrom, cX1_goOnFrom, 4, none, [], [], [(0, .iconst 0, 1, (0, 0, [])),
  (1, .istore_n 2, 1, (0, 0, [])),
  (2, .iconst 0, 1, (0, 0, [])),
  (3, .istore_n 3, 1, (0, 0, [])),
  (4, .iload_n 3, 1, (0, 0, [])),
  (5, .iconst 2, 1, (0, 0, [])),
  (6, .if_icmp .ge 33, 3, (0, 0, [])),
  (9, .aload_n 0, 1, (0, 0, [])),
  (10, .iload_n 1, 1, (0, 0, [])),
  (11, .iload_n 3, 1, (0, 0, [])),
  (12, .invokevirtual 76, 3, (6, 0, [2, 1])),
  (15, .ifCond .eq 6, 3, (0, 0, [])),
  (18, .iinc 2 1, 3, (0, 0, [])),
  (21, .aload_n 0, 1, (0, 0, [])),
  (22, .iload_n 1, 1, (0, 0, [])),
  (23, .iload_n 3, 1, (0, 0, [])),
  (24, .invokevirtual 80, 3, (12, 0, [2, 1])),
  (27, .ifCond .eq 6, 3, (0, 0, [])),
  (30, .iinc 2 1, 3, (0, 0, [])),
  (33, .iinc 3 1, 3, (0, 0, [])),
  (36, .goto (-32), 3, (0, 0, [])),
  (39, .iload_n 2, 1, (0, 0, [])),
  (40, .ifCond .ne 29, 3, (0, 0, [])),
  (43, .aload_n 0, 1, (0, 0, [])),
  (44, .iload_n 1, 1, (0, 0, [])),
  (45, .invokevirtual 83, 3, (18, 0, [1, 1])),
  (48, .ifCond .eq 11, 3, (0, 0, [])),
  (51, .aload_n 0, 1, (0, 0, [])),
  (52, .iload_n 1, 1, (0, 0, [])),
  (53, .invokevirtual 87, 3, (19, 0, [1, 1])),
  (56, .goto 13, 3, (0, 0, [])),
  (59, .aload_n 0, 1, (0, 0, [])),
  (60, .dup, 1, (0, 0, [])),
  (61, .getfield 50, 3, (8, 0, [1])),
  (64, .iconst 1, 1, (0, 0, [])),
  (65, .iadd, 1, (0, 0, [])),
  (66, .putfield 50, 3, (8, 0, [1])),
  (69, .return_, 1, (0, 0, []))], 4, 99)
def zm_X1_tryWord : zM := (yX1_tryWord, cX1_tryWord, 9, (some .boolean), [], [], [(0, .aload_n 0, 1, (0, 0, [])),
  (1, .iload_n 1, 1, (0, 0, [])),
  (2, .invokevirtual 90, 3, (13, 0, [1, 1])),
  (5, .aload_n 0, 1, (0, 0, [])),
  (6, .getfield 26, 3, (4, 0, [1])),
  (9, .iload_n 2, 1, (0, 0, [])),
  (10, .invokevirtual 93, 3, (28, 0, [1, 3])),
  (13, .astore_n 3, 1, (0, 0, [])),
  (14, .aload_n 0, 1, (0, 0, [])),
  (15, .getfield 23, 3, (3, 0, [1])),
  (18, .iconst 0, 1, (0, 0, [])),
  (19, .iload_n 2, 1, (0, 0, [])),
  (20, .iadd, 1, (0, 0, [])),
  (21, .laload, 1, (0, 0, [])),
  (22, .l2i, 1, (0, 0, [])),
  (23, .istore 4, 2, (0, 0, [])),
  (25, .aload_n 3, 1, (0, 0, [])),
  (26, .iload 4, 2, (0, 0, [])),
  (28, .invokevirtual 97, 3, (33, 0, [1, 4])),
  (31, .astore 5, 2, (0, 0, [])),
  (33, .aload 5, 2, (0, 0, [])),
  (35, .ifnull 20, 3, (0, 0, [])),
  (38, .aload 5, 2, (0, 0, [])),
  (40, .getfield 101, 3, (0, 0, [7])),
  (43, .iconst 5, 1, (0, 0, [])),
  (44, .if_icmp .ne 13, 3, (0, 0, [])),
  (47, .aload_n 0, 1, (0, 0, [])),
  (48, .iload_n 2, 1, (0, 0, [])),
  (49, .invokevirtual 106, 3, (7, 0, [1, 1])),
  (52, .ifCond .eq 5, 3, (0, 0, [])),
  (55, .iconst 0, 1, (0, 0, [])),
  (56, .ireturn, 1, (0, 0, [])),
  (57, .iconst 2, 1, (0, 0, [])),
  (58, .iload_n 2, 1, (0, 0, [])),
  (59, .iconst 4, 1, (0, 0, [])),
  (60, .imul, 1, (0, 0, [])),
  (61, .iadd, 1, (0, 0, [])),
  (62, .istore 6, 2, (0, 0, [])),
  (64, .aload_n 0, 1, (0, 0, [])),
  (65, .getfield 23, 3, (3, 0, [1])),
  (68, .iload 6, 2, (0, 0, [])),
  (70, .aload 5, 2, (0, 0, [])),
  (72, .getfield 109, 3, (2, 0, [7])),
  (75, .iadd, 1, (0, 0, [])),
  (76, .laload, 1, (0, 0, [])),
  (77, .lstore 7, 2, (0, 0, [])),
  (79, .aload_n 0, 1, (0, 0, [])),
  (80, .aload 5, 2, (0, 0, [])),
  (82, .iload_n 2, 1, (0, 0, [])),
  (83, .lload 7, 2, (0, 0, [])),
  (85, .aload_n 0, 1, (0, 0, [])),
  (86, .getfield 23, 3, (3, 0, [1])),
  (89, .iload 6, 2, (0, 0, [])),
  (91, .aload 5, 2, (0, 0, [])),
  (93, .getfield 112, 3, (3, 0, [7])),
  (96, .iadd, 1, (0, 0, [])),
  (97, .laload, 1, (0, 0, [])),
  (98, .invokevirtual 115, 3, (8, 0, [4, 1])),
  (101, .aload_n 0, 1, (0, 0, [])),
  (102, .getfield 23, 3, (3, 0, [1])),
  (105, .iconst 0, 1, (0, 0, [])),
  (106, .iload_n 2, 1, (0, 0, [])),
  (107, .iadd, 1, (0, 0, [])),
  (108, .aload_n 3, 1, (0, 0, [])),
  (109, .aload 5, 2, (0, 0, [])),
  (111, .iload 4, 2, (0, 0, [])),
  (113, .lload 7, 2, (0, 0, [])),
  (115, .invokestatic 119, 3, (9, 2, [4])),
  (118, .i2l, 1, (0, 0, [])),
  (119, .lastore, 1, (0, 0, [])),
  (120, .aload_n 0, 1, (0, 0, [])),
  (121, .invokevirtual 66, 3, (14, 0, [0, 1])),
  (124, .iconst 1, 1, (0, 0, [])),
  (125, .ireturn, 1, (0, 0, []))], 3, 71)
def zm_X1_rowIsFull : zM := (yX1_rowIsFull, cX1_rowIsFull, 2, (some .boolean), [], [], [(0, .aload_n 0, 1, (0, 0, [])),
  (1, .getfield 26, 3, (4, 0, [1])),
  (4, .getfield 123, 3, (3, 0, [3])),
  (7, .ifCond .eq 23, 3, (0, 0, [])),
  (10, .aload_n 0, 1, (0, 0, [])),
  (11, .getfield 23, 3, (3, 0, [1])),
  (14, .bipush 18, 2, (0, 0, [])),
  (16, .iload_n 1, 1, (0, 0, [])),
  (17, .iadd, 1, (0, 0, [])),
  (18, .laload, 1, (0, 0, [])),
  (19, .ldc2_w 126, 3, (2, 0, [])),
  (22, .lcmp, 1, (0, 0, [])),
  (23, .ifCond .lt 7, 3, (0, 0, [])),
  (26, .iconst 1, 1, (0, 0, [])),
  (27, .goto 4, 3, (0, 0, [])),
  (30, .iconst 0, 1, (0, 0, [])),
  (31, .ireturn, 1, (0, 0, []))], 0, 0)
def zm_X1_perform : zM := (yX1_perform, cX1_perform, 8, none, [], [], [(0, .iconst 2, 1, (0, 0, [])),
  (1, .iload_n 2, 1, (0, 0, [])),
  (2, .iconst 4, 1, (0, 0, [])),
  (3, .imul, 1, (0, 0, [])),
  (4, .iadd, 1, (0, 0, [])),
  (5, .aload_n 1, 1, (0, 0, [])),
  (6, .getfield 128, 3, (1, 0, [7])),
  (9, .iadd, 1, (0, 0, [])),
  (10, .istore 7, 2, (0, 0, [])),
  (12, .aload_n 1, 1, (0, 0, [])),
  (13, .invokevirtual 131, 3, (50, 0, [0, 7])),
  (16, .ifCond .eq 27, 3, (0, 0, [])),
  (19, .aload_n 0, 1, (0, 0, [])),
  (20, .getfield 23, 3, (3, 0, [1])),
  (23, .iload 7, 2, (0, 0, [])),
  (25, .aload_n 0, 1, (0, 0, [])),
  (26, .getfield 42, 3, (5, 0, [1])),
  (29, .aload_n 1, 1, (0, 0, [])),
  (30, .lload_n 3, 1, (0, 0, [])),
  (31, .lload 5, 2, (0, 0, [])),
  (33, .invokevirtual 135, 3, (55, 0, [2, 7])),
  (36, .invokevirtual 139, 3, (24, 0, [1, 2])),
  (39, .lastore, 1, (0, 0, [])),
  (40, .goto 96, 3, (0, 0, [])),
  (43, .aload_n 1, 1, (0, 0, [])),
  (44, .getfield 101, 3, (0, 0, [7])),
  (47, .iconst 4, 1, (0, 0, [])),
  (48, .if_icmp .ne 26, 3, (0, 0, [])),
  (51, .aload_n 0, 1, (0, 0, [])),
  (52, .getfield 23, 3, (3, 0, [1])),
  (55, .iload 7, 2, (0, 0, [])),
  (57, .aload_n 0, 1, (0, 0, [])),
  (58, .iload_n 2, 1, (0, 0, [])),
  (59, .aload_n 0, 1, (0, 0, [])),
  (60, .getfield 42, 3, (5, 0, [1])),
  (63, .lload_n 3, 1, (0, 0, [])),
  (64, .invokevirtual 145, 3, (25, 0, [1, 2])),
  (67, .invokevirtual 149, 3, (10, 0, [2, 1])),
  (70, .lastore, 1, (0, 0, [])),
  (71, .goto 65, 3, (0, 0, [])),
  (74, .aload_n 1, 1, (0, 0, [])),
  (75, .getfield 101, 3, (0, 0, [7])),
  (78, .iconst 5, 1, (0, 0, [])),
  (79, .if_icmp .ne 31, 3, (0, 0, [])),
  (82, .aload_n 0, 1, (0, 0, [])),
  (83, .getfield 26, 3, (4, 0, [1])),
  (86, .getfield 123, 3, (3, 0, [3])),
  (89, .ifCond .eq 21, 3, (0, 0, [])),
  (92, .aload_n 0, 1, (0, 0, [])),
  (93, .iload_n 2, 1, (0, 0, [])),
  (94, .aload_n 0, 1, (0, 0, [])),
  (95, .getfield 42, 3, (5, 0, [1])),
  (98, .lload_n 3, 1, (0, 0, [])),
  (99, .invokevirtual 145, 3, (25, 0, [1, 2])),
  (102, .lload 5, 2, (0, 0, [])),
  (104, .invokevirtual 153, 3, (11, 0, [3, 1])),
  (107, .goto 29, 3, (0, 0, [])),
  (110, .aload_n 1, 1, (0, 0, [])),
  (111, .getfield 101, 3, (0, 0, [7])),
  (114, .iconst 5, 1, (0, 0, [])),
  (115, .if_icmp .ne 21, 3, (0, 0, [])),
  (118, .aload_n 0, 1, (0, 0, [])),
  (119, .getfield 23, 3, (3, 0, [1])),
  (122, .bipush 10, 2, (0, 0, [])),
  (124, .aload_n 0, 1, (0, 0, [])),
  (125, .getfield 42, 3, (5, 0, [1])),
  (128, .lload_n 3, 1, (0, 0, [])),
  (129, .invokevirtual 145, 3, (25, 0, [1, 2])),
  (132, .iadd, 1, (0, 0, [])),
  (133, .lload 5, 2, (0, 0, [])),
  (135, .lastore, 1, (0, 0, [])),
  (136, .return_, 1, (0, 0, []))], 2, 44)
def zm_X1_following : zM := (yX1_following, cX1_following, 5, (some .int), [], [], [(0, .aload_n 1, 1, (0, 0, [])),
  (1, .lload_n 3, 1, (0, 0, [])),
  (2, .invokevirtual 157, 3, (54, 0, [1, 7])),
  (5, .ifCond .eq 9, 3, (0, 0, [])),
  (8, .aload_n 0, 1, (0, 0, [])),
  (9, .aload_n 1, 1, (0, 0, [])),
  (10, .invokevirtual 161, 3, (34, 0, [1, 4])),
  (13, .ireturn, 1, (0, 0, [])),
  (14, .aload_n 1, 1, (0, 0, [])),
  (15, .getfield 101, 3, (0, 0, [7])),
  (18, .bipush 7, 2, (0, 0, [])),
  (20, .if_icmp .eq 13, 3, (0, 0, [])),
  (23, .iload_n 2, 1, (0, 0, [])),
  (24, .iconst 1, 1, (0, 0, [])),
  (25, .iadd, 1, (0, 0, [])),
  (26, .aload_n 0, 1, (0, 0, [])),
  (27, .getfield 165, 3, (3, 0, [4])),
  (30, .if_icmp .lt 7, 3, (0, 0, [])),
  (33, .iconst (-1), 1, (0, 0, [])),
  (34, .goto 6, 3, (0, 0, [])),
  (37, .iload_n 2, 1, (0, 0, [])),
  (38, .iconst 1, 1, (0, 0, [])),
  (39, .iadd, 1, (0, 0, [])),
  (40, .ireturn, 1, (0, 0, []))], 2, 43)
def zm_X1_loaded : zM := (yX1_loaded, cX1_loaded, 7, (some .long), [], [], [(0, .bipush 20, 2, (0, 0, [])),
  (2, .iload_n 1, 1, (0, 0, [])),
  (3, .iconst 4, 1, (0, 0, [])),
  (4, .imul, 1, (0, 0, [])),
  (5, .iadd, 1, (0, 0, [])),
  (6, .istore_n 3, 1, (0, 0, [])),
  (7, .aload_n 0, 1, (0, 0, [])),
  (8, .getfield 23, 3, (3, 0, [1])),
  (11, .bipush 10, 2, (0, 0, [])),
  (13, .iload_n 2, 1, (0, 0, [])),
  (14, .iadd, 1, (0, 0, [])),
  (15, .laload, 1, (0, 0, [])),
  (16, .lstore 4, 2, (0, 0, [])),
  (18, .iconst 0, 1, (0, 0, [])),
  (19, .istore 6, 2, (0, 0, [])),
  (21, .iload 6, 2, (0, 0, [])),
  (23, .iconst 2, 1, (0, 0, [])),
  (24, .if_icmp .ge 57, 3, (0, 0, [])),
  (27, .iload 6, 2, (0, 0, [])),
  (29, .i2l, 1, (0, 0, [])),
  (30, .aload_n 0, 1, (0, 0, [])),
  (31, .getfield 23, 3, (3, 0, [1])),
  (34, .bipush 18, 2, (0, 0, [])),
  (36, .iload_n 1, 1, (0, 0, [])),
  (37, .iadd, 1, (0, 0, [])),
  (38, .laload, 1, (0, 0, [])),
  (39, .lcmp, 1, (0, 0, [])),
  (40, .ifCond .ge 41, 3, (0, 0, [])),
  (43, .aload_n 0, 1, (0, 0, [])),
  (44, .getfield 23, 3, (3, 0, [1])),
  (47, .iload_n 3, 1, (0, 0, [])),
  (48, .iconst 2, 1, (0, 0, [])),
  (49, .iload 6, 2, (0, 0, [])),
  (51, .imul, 1, (0, 0, [])),
  (52, .iadd, 1, (0, 0, [])),
  (53, .laload, 1, (0, 0, [])),
  (54, .iload_n 2, 1, (0, 0, [])),
  (55, .i2l, 1, (0, 0, [])),
  (56, .lcmp, 1, (0, 0, [])),
  (57, .ifCond .ne 18, 3, (0, 0, [])),
  (60, .aload_n 0, 1, (0, 0, [])),
  (61, .getfield 23, 3, (3, 0, [1])),
  (64, .iload_n 3, 1, (0, 0, [])),
  (65, .iconst 2, 1, (0, 0, [])),
  (66, .iload 6, 2, (0, 0, [])),
  (68, .imul, 1, (0, 0, [])),
  (69, .iadd, 1, (0, 0, [])),
  (70, .iconst 1, 1, (0, 0, [])),
  (71, .iadd, 1, (0, 0, [])),
  (72, .laload, 1, (0, 0, [])),
  (73, .lstore 4, 2, (0, 0, [])),
  (75, .iinc 6 1, 3, (0, 0, [])),
  (78, .goto (-57), 3, (0, 0, [])),
  (81, .lload 4, 2, (0, 0, [])),
  (83, .lreturn, 1, (0, 0, []))], 0, 0)
def zm_X1_putInRow : zM := (yX1_putInRow, cX1_putInRow, 7, none, [], [], [(0, .aload_n 0, 1, (0, 0, [])),
  (1, .getfield 23, 3, (3, 0, [1])),
  (4, .bipush 18, 2, (0, 0, [])),
  (6, .iload_n 1, 1, (0, 0, [])),
  (7, .iadd, 1, (0, 0, [])),
  (8, .laload, 1, (0, 0, [])),
  (9, .l2i, 1, (0, 0, [])),
  (10, .istore 5, 2, (0, 0, [])),
  (12, .iload 5, 2, (0, 0, [])),
  (14, .ifCond .lt 9, 3, (0, 0, [])),
  (17, .iload 5, 2, (0, 0, [])),
  (19, .iconst 2, 1, (0, 0, [])),
  (20, .if_icmp .lt 4, 3, (0, 0, [])),
  (23, .return_, 1, (0, 0, [])),
  (24, .bipush 20, 2, (0, 0, [])),
  (26, .iload_n 1, 1, (0, 0, [])),
  (27, .iconst 4, 1, (0, 0, [])),
  (28, .imul, 1, (0, 0, [])),
  (29, .iadd, 1, (0, 0, [])),
  (30, .iconst 2, 1, (0, 0, [])),
  (31, .iload 5, 2, (0, 0, [])),
  (33, .imul, 1, (0, 0, [])),
  (34, .iadd, 1, (0, 0, [])),
  (35, .istore 6, 2, (0, 0, [])),
  (37, .aload_n 0, 1, (0, 0, [])),
  (38, .getfield 23, 3, (3, 0, [1])),
  (41, .iload 6, 2, (0, 0, [])),
  (43, .iload_n 2, 1, (0, 0, [])),
  (44, .i2l, 1, (0, 0, [])),
  (45, .lastore, 1, (0, 0, [])),
  (46, .aload_n 0, 1, (0, 0, [])),
  (47, .getfield 23, 3, (3, 0, [1])),
  (50, .iload 6, 2, (0, 0, [])),
  (52, .iconst 1, 1, (0, 0, [])),
  (53, .iadd, 1, (0, 0, [])),
  (54, .lload_n 3, 1, (0, 0, [])),
  (55, .lastore, 1, (0, 0, [])),
  (56, .aload_n 0, 1, (0, 0, [])),
  (57, .getfield 23, 3, (3, 0, [1])),
  (60, .bipush 18, 2, (0, 0, [])),
  (62, .iload_n 1, 1, (0, 0, [])),
  (63, .iadd, 1, (0, 0, [])),
  (64, .iload 5, 2, (0, 0, [])),
  (66, .iconst 1, 1, (0, 0, [])),
  (67, .iadd, 1, (0, 0, [])),
  (68, .i2l, 1, (0, 0, [])),
  (69, .lastore, 1, (0, 0, [])),
  (70, .return_, 1, (0, 0, []))], 0, 0)
def zm_X1_tryStore : zM := (yX1_tryStore, cX1_tryStore, 5, (some .boolean), [], [], [(0, .aload_n 0, 1, (0, 0, [])),
  (1, .iload_n 1, 1, (0, 0, [])),
  (2, .invokevirtual 90, 3, (13, 0, [1, 1])),
  (5, .bipush 20, 2, (0, 0, [])),
  (7, .iload_n 2, 1, (0, 0, [])),
  (8, .iconst 4, 1, (0, 0, [])),
  (9, .imul, 1, (0, 0, [])),
  (10, .iadd, 1, (0, 0, [])),
  (11, .istore_n 3, 1, (0, 0, [])),
  (12, .aload_n 0, 1, (0, 0, [])),
  (13, .getfield 23, 3, (3, 0, [1])),
  (16, .iload_n 3, 1, (0, 0, [])),
  (17, .laload, 1, (0, 0, [])),
  (18, .l2i, 1, (0, 0, [])),
  (19, .istore 4, 2, (0, 0, [])),
  (21, .aload_n 0, 1, (0, 0, [])),
  (22, .getfield 23, 3, (3, 0, [1])),
  (25, .bipush 18, 2, (0, 0, [])),
  (27, .iload_n 2, 1, (0, 0, [])),
  (28, .iadd, 1, (0, 0, [])),
  (29, .laload, 1, (0, 0, [])),
  (30, .lconst 1, 1, (0, 0, [])),
  (31, .lcmp, 1, (0, 0, [])),
  (32, .ifCond .lt 14, 3, (0, 0, [])),
  (35, .iload 4, 2, (0, 0, [])),
  (37, .iconst 0, 1, (0, 0, [])),
  (38, .bipush 7, 2, (0, 0, [])),
  (40, .invokestatic 168, 3, (76, 4, [3])),
  (43, .ifCond .eq 5, 3, (0, 0, [])),
  (46, .iconst 0, 1, (0, 0, [])),
  (47, .ireturn, 1, (0, 0, [])),
  (48, .aload_n 0, 1, (0, 0, [])),
  (49, .getfield 23, 3, (3, 0, [1])),
  (52, .bipush 10, 2, (0, 0, [])),
  (54, .iload 4, 2, (0, 0, [])),
  (56, .iadd, 1, (0, 0, [])),
  (57, .aload_n 0, 1, (0, 0, [])),
  (58, .getfield 23, 3, (3, 0, [1])),
  (61, .iload_n 3, 1, (0, 0, [])),
  (62, .iconst 1, 1, (0, 0, [])),
  (63, .iadd, 1, (0, 0, [])),
  (64, .laload, 1, (0, 0, [])),
  (65, .lastore, 1, (0, 0, [])),
  (66, .aload_n 0, 1, (0, 0, [])),
  (67, .getfield 23, 3, (3, 0, [1])),
  (70, .iload_n 3, 1, (0, 0, [])),
  (71, .iconst 2, 1, (0, 0, [])),
  (72, .iadd, 1, (0, 0, [])),
  (73, .aload_n 0, 1, (0, 0, [])),
  (74, .getfield 23, 3, (3, 0, [1])),
  (77, .iload_n 3, 1, (0, 0, [])),
  (78, .iconst 2, 1, (0, 0, [])),
  (79, .invokestatic 172, 3, (0, 8, [])),
  (82, .aload_n 0, 1, (0, 0, [])),
  (83, .getfield 23, 3, (3, 0, [1])),
  (86, .iload_n 3, 1, (0, 0, [])),
  (87, .iconst 4, 1, (0, 0, [])),
  (88, .iadd, 1, (0, 0, [])),
  (89, .iconst 2, 1, (0, 0, [])),
  (90, .isub, 1, (0, 0, [])),
  (91, .lconst 0, 1, (0, 0, [])),
  (92, .lastore, 1, (0, 0, [])),
  (93, .aload_n 0, 1, (0, 0, [])),
  (94, .getfield 23, 3, (3, 0, [1])),
  (97, .iload_n 3, 1, (0, 0, [])),
  (98, .iconst 4, 1, (0, 0, [])),
  (99, .iadd, 1, (0, 0, [])),
  (100, .iconst 1, 1, (0, 0, [])),
  (101, .isub, 1, (0, 0, [])),
  (102, .lconst 0, 1, (0, 0, [])),
  (103, .lastore, 1, (0, 0, [])),
  (104, .aload_n 0, 1, (0, 0, [])),
  (105, .getfield 23, 3, (3, 0, [1])),
  (108, .bipush 18, 2, (0, 0, [])),
  (110, .iload_n 2, 1, (0, 0, [])),
  (111, .iadd, 1, (0, 0, [])),
  (112, .dup2, 1, (0, 0, [])),
  (113, .laload, 1, (0, 0, [])),
  (114, .lconst 1, 1, (0, 0, [])),
  (115, .lsub, 1, (0, 0, [])),
  (116, .lastore, 1, (0, 0, [])),
  (117, .aload_n 0, 1, (0, 0, [])),
  (118, .invokevirtual 66, 3, (14, 0, [0, 1])),
  (121, .iconst 1, 1, (0, 0, [])),
  (122, .ireturn, 1, (0, 0, []))], 3, 70)
def zm_X1_takeTrial : zM := (yX1_takeTrial, cX1_takeTrial, 2, none, [], [], [(0, .aload_n 0, 1, (0, 0, [])),
  (1, .getfield 12, 3, (0, 0, [1])),
  (4, .iload_n 1, 1, (0, 0, [])),
  (5, .bipush 28, 2, (0, 0, [])),
  (7, .imul, 1, (0, 0, [])),
  (8, .aload_n 0, 1, (0, 0, [])),
  (9, .getfield 23, 3, (3, 0, [1])),
  (12, .iconst 0, 1, (0, 0, [])),
  (13, .bipush 28, 2, (0, 0, [])),
  (15, .invokestatic 172, 3, (0, 8, [])),
  (18, .return_, 1, (0, 0, []))], 1, 26)
def zm_X1_keepTrial : zM := (yX1_keepTrial, cX1_keepTrial, 4, none, [], [], [(0, .aload_n 0, 1, (0, 0, [])),
  (1, .invokevirtual 178, 3, (16, 0, [0, 1])),
  (4, .istore_n 1, 1, (0, 0, [])),
  (5, .iconst 0, 1, (0, 0, [])),
  (6, .istore_n 2, 1, (0, 0, [])),
  (7, .iload_n 2, 1, (0, 0, [])),
  (8, .sipush 4096, 3, (0, 0, [])),
  (11, .if_icmp .ge 48, 3, (0, 0, [])),
  (14, .iload_n 1, 1, (0, 0, [])),
  (15, .iload_n 2, 1, (0, 0, [])),
  (16, .iadd, 1, (0, 0, [])),
  (17, .sipush 4095, 3, (0, 0, [])),
  (20, .iand, 1, (0, 0, [])),
  (21, .istore_n 3, 1, (0, 0, [])),
  (22, .aload_n 0, 1, (0, 0, [])),
  (23, .getfield 16, 3, (1, 0, [1])),
  (26, .iload_n 3, 1, (0, 0, [])),
  (27, .iaload, 1, (0, 0, [])),
  (28, .ifCond .ne 9, 3, (0, 0, [])),
  (31, .aload_n 0, 1, (0, 0, [])),
  (32, .iload_n 3, 1, (0, 0, [])),
  (33, .invokevirtual 182, 3, (15, 0, [1, 1])),
  (36, .return_, 1, (0, 0, [])),
  (37, .aload_n 0, 1, (0, 0, [])),
  (38, .aload_n 0, 1, (0, 0, [])),
  (39, .getfield 16, 3, (1, 0, [1])),
  (42, .iload_n 3, 1, (0, 0, [])),
  (43, .iaload, 1, (0, 0, [])),
  (44, .iconst 1, 1, (0, 0, [])),
  (45, .isub, 1, (0, 0, [])),
  (46, .invokevirtual 185, 3, (17, 0, [1, 1])),
  (49, .ifCond .eq 4, 3, (0, 0, [])),
  (52, .return_, 1, (0, 0, [])),
  (53, .iinc 2 1, 3, (0, 0, [])),
  (56, .goto (-49), 3, (0, 0, [])),
  (59, .return_, 1, (0, 0, []))], 2, 47)
def zm_X1_putTrial : zM := (yX1_putTrial, cX1_putTrial, 2, none, [], [], [(0, .aload_n 0, 1, (0, 0, [])),
  (1, .getfield 43, 3, (6, 0, [1])),
  (4, .sipush 2000, 3, (0, 0, [])),
  (7, .if_icmp .lt 9, 3, (0, 0, [])),
  (10, .aload_n 0, 1, (0, 0, [])),
  (11, .iconst 1, 1, (0, 0, [])),
  (12, .putfield 53, 3, (9, 0, [1])),
  (15, .return_, 1, (0, 0, [])),
  (16, .aload_n 0, 1, (0, 0, [])),
  (17, .getfield 23, 3, (3, 0, [1])),
  (20, .iconst 0, 1, (0, 0, [])),
  (21, .aload_n 0, 1, (0, 0, [])),
  (22, .getfield 12, 3, (0, 0, [1])),
  (25, .aload_n 0, 1, (0, 0, [])),
  (26, .getfield 43, 3, (6, 0, [1])),
  (29, .bipush 28, 2, (0, 0, [])),
  (31, .imul, 1, (0, 0, [])),
  (32, .bipush 28, 2, (0, 0, [])),
  (34, .invokestatic 172, 3, (0, 8, [])),
  (37, .aload_n 0, 1, (0, 0, [])),
  (38, .dup, 1, (0, 0, [])),
  (39, .getfield 43, 3, (6, 0, [1])),
  (42, .iconst 1, 1, (0, 0, [])),
  (43, .iadd, 1, (0, 0, [])),
  (44, .putfield 43, 3, (6, 0, [1])),
  (47, .aload_n 0, 1, (0, 0, [])),
  (48, .getfield 16, 3, (1, 0, [1])),
  (51, .iload_n 1, 1, (0, 0, [])),
  (52, .aload_n 0, 1, (0, 0, [])),
  (53, .getfield 43, 3, (6, 0, [1])),
  (56, .iastore, 1, (0, 0, [])),
  (57, .return_, 1, (0, 0, []))], 1, 26)
def zm_X1_mixed : zM := (yX1_mixed, cX1_mixed, 4, (some .int), [], [], [(0, .lconst 0, 1, (0, 0, [])),
  (1, .lstore_n 1, 1, (0, 0, [])),
  (2, .iconst 0, 1, (0, 0, [])),
  (3, .istore_n 3, 1, (0, 0, [])),
  (4, .iload_n 3, 1, (0, 0, [])),
  (5, .bipush 28, 2, (0, 0, [])),
  (7, .if_icmp .ge 29, 3, (0, 0, [])),
  (10, .lload_n 1, 1, (0, 0, [])),
  (11, .aload_n 0, 1, (0, 0, [])),
  (12, .getfield 23, 3, (3, 0, [1])),
  (15, .iload_n 3, 1, (0, 0, [])),
  (16, .laload, 1, (0, 0, [])),
  (17, .lxor, 1, (0, 0, [])),
  (18, .ldc2_w 188, 3, (11400714819323198485, 0, [])),
  (21, .lmul, 1, (0, 0, [])),
  (22, .lstore_n 1, 1, (0, 0, [])),
  (23, .lload_n 1, 1, (0, 0, [])),
  (24, .lload_n 1, 1, (0, 0, [])),
  (25, .bipush 29, 2, (0, 0, [])),
  (27, .lushr, 1, (0, 0, [])),
  (28, .lxor, 1, (0, 0, [])),
  (29, .lstore_n 1, 1, (0, 0, [])),
  (30, .iinc 3 1, 3, (0, 0, [])),
  (33, .goto (-29), 3, (0, 0, [])),
  (36, .lload_n 1, 1, (0, 0, [])),
  (37, .l2i, 1, (0, 0, [])),
  (38, .sipush 4095, 3, (0, 0, [])),
  (41, .iand, 1, (0, 0, [])),
  (42, .ireturn, 1, (0, 0, []))], 0, 0)
def zm_X1_isTrial : zM := (yX1_isTrial, cX1_isTrial, 4, (some .boolean), [], [], [(0, .iload_n 1, 1, (0, 0, [])),
  (1, .bipush 28, 2, (0, 0, [])),
  (3, .imul, 1, (0, 0, [])),
  (4, .istore_n 2, 1, (0, 0, [])),
  (5, .iconst 0, 1, (0, 0, [])),
  (6, .istore_n 3, 1, (0, 0, [])),
  (7, .iload_n 3, 1, (0, 0, [])),
  (8, .bipush 28, 2, (0, 0, [])),
  (10, .if_icmp .ge 29, 3, (0, 0, [])),
  (13, .aload_n 0, 1, (0, 0, [])),
  (14, .getfield 12, 3, (0, 0, [1])),
  (17, .iload_n 2, 1, (0, 0, [])),
  (18, .iload_n 3, 1, (0, 0, [])),
  (19, .iadd, 1, (0, 0, [])),
  (20, .laload, 1, (0, 0, [])),
  (21, .aload_n 0, 1, (0, 0, [])),
  (22, .getfield 23, 3, (3, 0, [1])),
  (25, .iload_n 3, 1, (0, 0, [])),
  (26, .laload, 1, (0, 0, [])),
  (27, .lcmp, 1, (0, 0, [])),
  (28, .ifCond .eq 5, 3, (0, 0, [])),
  (31, .iconst 0, 1, (0, 0, [])),
  (32, .ireturn, 1, (0, 0, [])),
  (33, .iinc 3 1, 3, (0, 0, [])),
  (36, .goto (-29), 3, (0, 0, [])),
  (39, .iconst 1, 1, (0, 0, [])),
  (40, .ireturn, 1, (0, 0, []))], 0, 0)
def zm_X1_isEnd : zM := (yX1_isEnd, cX1_isEnd, 3, (some .boolean), [], [], [(0, .iload_n 1, 1, (0, 0, [])),
  (1, .bipush 28, 2, (0, 0, [])),
  (3, .imul, 1, (0, 0, [])),
  (4, .istore_n 2, 1, (0, 0, [])),
  (5, .aload_n 0, 1, (0, 0, [])),
  (6, .getfield 12, 3, (0, 0, [1])),
  (9, .iload_n 2, 1, (0, 0, [])),
  (10, .iconst 0, 1, (0, 0, [])),
  (11, .iadd, 1, (0, 0, [])),
  (12, .laload, 1, (0, 0, [])),
  (13, .ldc2_w 190, 3, (18446744073709551615, 0, [])),
  (16, .lcmp, 1, (0, 0, [])),
  (17, .ifCond .ne 54, 3, (0, 0, [])),
  (20, .aload_n 0, 1, (0, 0, [])),
  (21, .getfield 12, 3, (0, 0, [1])),
  (24, .iload_n 2, 1, (0, 0, [])),
  (25, .iconst 0, 1, (0, 0, [])),
  (26, .iadd, 1, (0, 0, [])),
  (27, .iconst 1, 1, (0, 0, [])),
  (28, .iadd, 1, (0, 0, [])),
  (29, .laload, 1, (0, 0, [])),
  (30, .ldc2_w 190, 3, (18446744073709551615, 0, [])),
  (33, .lcmp, 1, (0, 0, [])),
  (34, .ifCond .ne 37, 3, (0, 0, [])),
  (37, .aload_n 0, 1, (0, 0, [])),
  (38, .getfield 12, 3, (0, 0, [1])),
  (41, .iload_n 2, 1, (0, 0, [])),
  (42, .bipush 18, 2, (0, 0, [])),
  (44, .iadd, 1, (0, 0, [])),
  (45, .laload, 1, (0, 0, [])),
  (46, .lconst 0, 1, (0, 0, [])),
  (47, .lcmp, 1, (0, 0, [])),
  (48, .ifCond .ne 23, 3, (0, 0, [])),
  (51, .aload_n 0, 1, (0, 0, [])),
  (52, .getfield 12, 3, (0, 0, [1])),
  (55, .iload_n 2, 1, (0, 0, [])),
  (56, .bipush 18, 2, (0, 0, [])),
  (58, .iadd, 1, (0, 0, [])),
  (59, .iconst 1, 1, (0, 0, [])),
  (60, .iadd, 1, (0, 0, [])),
  (61, .laload, 1, (0, 0, [])),
  (62, .lconst 0, 1, (0, 0, [])),
  (63, .lcmp, 1, (0, 0, [])),
  (64, .ifCond .ne 7, 3, (0, 0, [])),
  (67, .iconst 1, 1, (0, 0, [])),
  (68, .goto 4, 3, (0, 0, [])),
  (71, .iconst 0, 1, (0, 0, [])),
  (72, .ireturn, 1, (0, 0, []))], 0, 0)
def zm_X1_insertEnd : zM := (yX1_insertEnd, cX1_insertEnd, 3, none, [], [], [(0, .aload_n 0, 1, (0, 0, [])),
  (1, .getfield 47, 3, (7, 0, [1])),
  (4, .sipush 2000, 3, (0, 0, [])),
  (7, .if_icmp .lt 4, 3, (0, 0, [])),
  (10, .return_, 1, (0, 0, [])),
  (11, .aload_n 0, 1, (0, 0, [])),
  (12, .getfield 47, 3, (7, 0, [1])),
  (15, .istore_n 2, 1, (0, 0, [])),
  (16, .iload_n 2, 1, (0, 0, [])),
  (17, .ifCond .le 39, 3, (0, 0, [])),
  (20, .aload_n 0, 1, (0, 0, [])),
  (21, .iload_n 1, 1, (0, 0, [])),
  (22, .aload_n 0, 1, (0, 0, [])),
  (23, .getfield 20, 3, (2, 0, [1])),
  (26, .iload_n 2, 1, (0, 0, [])),
  (27, .iconst 1, 1, (0, 0, [])),
  (28, .isub, 1, (0, 0, [])),
  (29, .iaload, 1, (0, 0, [])),
  (30, .invokevirtual 192, 3, (20, 0, [2, 1])),
  (33, .ifCond .eq 23, 3, (0, 0, [])),
  (36, .aload_n 0, 1, (0, 0, [])),
  (37, .getfield 20, 3, (2, 0, [1])),
  (40, .iload_n 2, 1, (0, 0, [])),
  (41, .aload_n 0, 1, (0, 0, [])),
  (42, .getfield 20, 3, (2, 0, [1])),
  (45, .iload_n 2, 1, (0, 0, [])),
  (46, .iconst 1, 1, (0, 0, [])),
  (47, .isub, 1, (0, 0, [])),
  (48, .iaload, 1, (0, 0, [])),
  (49, .iastore, 1, (0, 0, [])),
  (50, .iinc 2 (-1), 3, (0, 0, [])),
  (53, .goto (-37), 3, (0, 0, [])),
  (56, .aload_n 0, 1, (0, 0, [])),
  (57, .getfield 20, 3, (2, 0, [1])),
  (60, .iload_n 2, 1, (0, 0, [])),
  (61, .iload_n 1, 1, (0, 0, [])),
  (62, .iastore, 1, (0, 0, [])),
  (63, .aload_n 0, 1, (0, 0, [])),
  (64, .dup, 1, (0, 0, [])),
  (65, .getfield 47, 3, (7, 0, [1])),
  (68, .iconst 1, 1, (0, 0, [])),
  (69, .iadd, 1, (0, 0, [])),
  (70, .putfield 47, 3, (7, 0, [1])),
  (73, .return_, 1, (0, 0, []))], 2, 48)
def zm_X1_endIsBefore : zM := (yX1_endIsBefore, cX1_endIsBefore, 9, (some .boolean), [], [], [(0, .aload_n 0, 1, (0, 0, [])),
  (1, .getfield 26, 3, (4, 0, [1])),
  (4, .invokevirtual 195, 3, (29, 0, [0, 3])),
  (7, .istore_n 3, 1, (0, 0, [])),
  (8, .iconst 2, 1, (0, 0, [])),
  (9, .istore 4, 2, (0, 0, [])),
  (11, .iload 4, 2, (0, 0, [])),
  (13, .iconst 2, 1, (0, 0, [])),
  (14, .iload_n 3, 1, (0, 0, [])),
  (15, .iadd, 1, (0, 0, [])),
  (16, .if_icmp .ge 59, 3, (0, 0, [])),
  (19, .aload_n 0, 1, (0, 0, [])),
  (20, .getfield 12, 3, (0, 0, [1])),
  (23, .iload_n 1, 1, (0, 0, [])),
  (24, .bipush 28, 2, (0, 0, [])),
  (26, .imul, 1, (0, 0, [])),
  (27, .iload 4, 2, (0, 0, [])),
  (29, .iadd, 1, (0, 0, [])),
  (30, .laload, 1, (0, 0, [])),
  (31, .lstore 5, 2, (0, 0, [])),
  (33, .aload_n 0, 1, (0, 0, [])),
  (34, .getfield 12, 3, (0, 0, [1])),
  (37, .iload_n 2, 1, (0, 0, [])),
  (38, .bipush 28, 2, (0, 0, [])),
  (40, .imul, 1, (0, 0, [])),
  (41, .iload 4, 2, (0, 0, [])),
  (43, .iadd, 1, (0, 0, [])),
  (44, .laload, 1, (0, 0, [])),
  (45, .lstore 7, 2, (0, 0, [])),
  (47, .lload 5, 2, (0, 0, [])),
  (49, .lload 7, 2, (0, 0, [])),
  (51, .lcmp, 1, (0, 0, [])),
  (52, .ifCond .eq 17, 3, (0, 0, [])),
  (55, .lload 5, 2, (0, 0, [])),
  (57, .lload 7, 2, (0, 0, [])),
  (59, .lcmp, 1, (0, 0, [])),
  (60, .ifCond .ge 7, 3, (0, 0, [])),
  (63, .iconst 1, 1, (0, 0, [])),
  (64, .goto 4, 3, (0, 0, [])),
  (67, .iconst 0, 1, (0, 0, [])),
  (68, .ireturn, 1, (0, 0, [])),
  (69, .iinc 4 1, 3, (0, 0, [])),
  (72, .goto (-61), 3, (0, 0, [])),
  (75, .iconst 0, 1, (0, 0, [])),
  (76, .ireturn, 1, (0, 0, []))], 1, 20)
def zm_X1_tell : zM := (yX1_tell, cX1_tell, 3, none, [], [], [(0, .aload_n 0, 1, (0, 0, [])),
  (1, .getfield 26, 3, (4, 0, [1])),
  (4, .iconst 1, 1, (0, 0, [])),
  (5, .putfield 198, 3, (4, 0, [3])),
  (8, .aload_n 0, 1, (0, 0, [])),
  (9, .getfield 26, 3, (4, 0, [1])),
  (12, .aload_n 0, 1, (0, 0, [])),
  (13, .getfield 53, 3, (9, 0, [1])),
  (16, .putfield 201, 3, (5, 0, [3])),
  (19, .aload_n 0, 1, (0, 0, [])),
  (20, .getfield 53, 3, (9, 0, [1])),
  (23, .ifCond .eq 4, 3, (0, 0, [])),
  (26, .return_, 1, (0, 0, [])),
  (27, .aload_n 0, 1, (0, 0, [])),
  (28, .getfield 26, 3, (4, 0, [1])),
  (31, .invokevirtual 195, 3, (29, 0, [0, 3])),
  (34, .istore_n 1, 1, (0, 0, [])),
  (35, .aload_n 0, 1, (0, 0, [])),
  (36, .getfield 26, 3, (4, 0, [1])),
  (39, .aload_n 0, 1, (0, 0, [])),
  (40, .getfield 43, 3, (6, 0, [1])),
  (43, .putfield 202, 3, (6, 0, [3])),
  (46, .aload_n 0, 1, (0, 0, [])),
  (47, .getfield 26, 3, (4, 0, [1])),
  (50, .aload_n 0, 1, (0, 0, [])),
  (51, .getfield 50, 3, (8, 0, [1])),
  (54, .putfield 204, 3, (8, 0, [3])),
  (57, .aload_n 0, 1, (0, 0, [])),
  (58, .getfield 26, 3, (4, 0, [1])),
  (61, .aload_n 0, 1, (0, 0, [])),
  (62, .getfield 47, 3, (7, 0, [1])),
  (65, .putfield 205, 3, (7, 0, [3])),
  (68, .aload_n 0, 1, (0, 0, [])),
  (69, .getfield 26, 3, (4, 0, [1])),
  (72, .aload_n 0, 1, (0, 0, [])),
  (73, .getfield 47, 3, (7, 0, [1])),
  (76, .iload_n 1, 1, (0, 0, [])),
  (77, .imul, 1, (0, 0, [])),
  (78, .newarray .long, 2, (0, 0, [])),
  (80, .putfield 207, 3, (9, 0, [3])),
  (83, .iconst 0, 1, (0, 0, [])),
  (84, .istore_n 2, 1, (0, 0, [])),
  (85, .iload_n 2, 1, (0, 0, [])),
  (86, .aload_n 0, 1, (0, 0, [])),
  (87, .getfield 47, 3, (7, 0, [1])),
  (90, .if_icmp .ge 38, 3, (0, 0, [])),
  (93, .aload_n 0, 1, (0, 0, [])),
  (94, .getfield 12, 3, (0, 0, [1])),
  (97, .aload_n 0, 1, (0, 0, [])),
  (98, .getfield 20, 3, (2, 0, [1])),
  (101, .iload_n 2, 1, (0, 0, [])),
  (102, .iaload, 1, (0, 0, [])),
  (103, .bipush 28, 2, (0, 0, [])),
  (105, .imul, 1, (0, 0, [])),
  (106, .iconst 2, 1, (0, 0, [])),
  (107, .iadd, 1, (0, 0, [])),
  (108, .aload_n 0, 1, (0, 0, [])),
  (109, .getfield 26, 3, (4, 0, [1])),
  (112, .getfield 207, 3, (9, 0, [3])),
  (115, .iload_n 2, 1, (0, 0, [])),
  (116, .iload_n 1, 1, (0, 0, [])),
  (117, .imul, 1, (0, 0, [])),
  (118, .iload_n 1, 1, (0, 0, [])),
  (119, .invokestatic 172, 3, (0, 8, [])),
  (122, .iinc 2 1, 3, (0, 0, [])),
  (125, .goto (-40), 3, (0, 0, [])),
  (128, .return_, 1, (0, 0, []))], 1, 26)
def zm_X2_init : zM := (yX2_init, cX2_init, 3, none, [], [], [(0, .aload_n 0, 1, (0, 0, [])),
  (1, .iconst 1, 1, (0, 0, [])),
  (2, .invokespecial 3, 3, (48, 3, [1])),
  (5, .aload_n 0, 1, (0, 0, [])),
  (6, .iload_n 2, 1, (0, 0, [])),
  (7, .putfield 9, 3, (1, 0, [2])),
  (10, .aload_n 0, 1, (0, 0, [])),
  (11, .lconst 1, 1, (0, 0, [])),
  (12, .iload_n 1, 1, (0, 0, [])),
  (13, .lshl, 1, (0, 0, [])),
  (14, .lconst 1, 1, (0, 0, [])),
  (15, .lsub, 1, (0, 0, [])),
  (16, .putfield 15, 3, (2, 0, [2])),
  (19, .return_, 1, (0, 0, []))], 2, 41)
def zm_X2_uses : zM := (yX2_uses, cX2_uses, 2, (some .boolean), [], [], [(0, .iconst 0, 1, (0, 0, [])),
  (1, .ireturn, 1, (0, 0, []))], 0, 0)
def zm_X2_cut : zM := (yX2_cut, cX2_cut, 3, (some .long), [], [], [(0, .lload_n 1, 1, (0, 0, [])),
  (1, .aload_n 0, 1, (0, 0, [])),
  (2, .getfield 15, 3, (2, 0, [2])),
  (5, .land, 1, (0, 0, [])),
  (6, .lreturn, 1, (0, 0, []))], 0, 0)
def zm_X2_placeOf : zM := (yX2_placeOf, cX2_placeOf, 3, (some .int), [], [], [(0, .aload_n 0, 1, (0, 0, [])),
  (1, .getfield 9, 3, (1, 0, [2])),
  (4, .iconst 1, 1, (0, 0, [])),
  (5, .if_icmp .ge 7, 3, (0, 0, [])),
  (8, .iconst 0, 1, (0, 0, [])),
  (9, .goto 15, 3, (0, 0, [])),
  (12, .aload_n 0, 1, (0, 0, [])),
  (13, .lload_n 1, 1, (0, 0, [])),
  (14, .invokevirtual 19, 3, (24, 0, [1, 2])),
  (17, .aload_n 0, 1, (0, 0, [])),
  (18, .getfield 9, 3, (1, 0, [2])),
  (21, .i2l, 1, (0, 0, [])),
  (22, .lrem, 1, (0, 0, [])),
  (23, .l2i, 1, (0, 0, [])),
  (24, .ireturn, 1, (0, 0, []))], 1, 22)
def zm_X3_init : zM := (yX3_init, cX3_init, 4, none, [], [], [(0, .aload_n 0, 1, (0, 0, [])),
  (1, .bipush 6, 2, (0, 0, [])),
  (3, .invokespecial 3, 3, (48, 3, [1])),
  (6, .aload_n 0, 1, (0, 0, [])),
  (7, .iconst 0, 1, (0, 0, [])),
  (8, .newarray .long, 2, (0, 0, [])),
  (10, .putfield 9, 3, (9, 0, [3])),
  (13, .aload_n 0, 1, (0, 0, [])),
  (14, .aload_n 1, 1, (0, 0, [])),
  (15, .putfield 15, 3, (1, 0, [3])),
  (18, .aload_n 0, 1, (0, 0, [])),
  (19, .aload_n 2, 1, (0, 0, [])),
  (20, .putfield 19, 3, (2, 0, [3])),
  (23, .aload_n 0, 1, (0, 0, [])),
  (24, .iload_n 3, 1, (0, 0, [])),
  (25, .putfield 22, 3, (3, 0, [3])),
  (28, .return_, 1, (0, 0, []))], 2, 41)
def zm_X3_uses : zM := (yX3_uses, cX3_uses, 2, (some .boolean), [], [], [(0, .aload_n 1, 1, (0, 0, [])),
  (1, .aload_n 0, 1, (0, 0, [])),
  (2, .getfield 15, 3, (1, 0, [3])),
  (5, .if_acmp .eq 11, 3, (0, 0, [])),
  (8, .aload_n 1, 1, (0, 0, [])),
  (9, .aload_n 0, 1, (0, 0, [])),
  (10, .getfield 19, 3, (2, 0, [3])),
  (13, .if_acmp .ne 7, 3, (0, 0, [])),
  (16, .iconst 1, 1, (0, 0, [])),
  (17, .goto 4, 3, (0, 0, [])),
  (20, .iconst 0, 1, (0, 0, [])),
  (21, .ireturn, 1, (0, 0, []))], 0, 0)
def zm_X3_programOf : zM := (yX3_programOf, cX3_programOf, 2, (some (.object "ProcessorHouse$Program")), [], [], [(0, .iload_n 1, 1, (0, 0, [])),
  (1, .ifCond .ne 10, 3, (0, 0, [])),
  (4, .aload_n 0, 1, (0, 0, [])),
  (5, .getfield 15, 3, (1, 0, [3])),
  (8, .goto 7, 3, (0, 0, [])),
  (11, .aload_n 0, 1, (0, 0, [])),
  (12, .getfield 19, 3, (2, 0, [3])),
  (15, .areturn, 1, (0, 0, []))], 0, 0)
def zm_X3_endWidth : zM := (yX3_endWidth, cX3_endWidth, 1, (some .int), [], [], [(0, .bipush 8, 2, (0, 0, [])),
  (2, .aload_n 0, 1, (0, 0, [])),
  (3, .getfield 15, 3, (1, 0, [3])),
  (6, .getfield 26, 3, (1, 0, [4])),
  (9, .getfield 32, 3, (1, 0, [2])),
  (12, .iadd, 1, (0, 0, [])),
  (13, .ireturn, 1, (0, 0, []))], 0, 0)
def zm_X4_init : zM := (yX4_init, cX4_init, 2, none, [], [], [(0, .aload_n 0, 1, (0, 0, [])),
  (1, .iconst 2, 1, (0, 0, [])),
  (2, .invokespecial 3, 3, (48, 3, [1])),
  (5, .aload_n 0, 1, (0, 0, [])),
  (6, .bipush 24, 2, (0, 0, [])),
  (8, .anewarray 9, 3, (104, 0, [])),
  (11, .putfield 11, 3, (2, 0, [4])),
  (14, .aload_n 0, 1, (0, 0, [])),
  (15, .aload_n 1, 1, (0, 0, [])),
  (16, .putfield 17, 3, (1, 0, [4])),
  (19, .return_, 1, (0, 0, []))], 2, 41)
def zm_X4_uses : zM := (yX4_uses, cX4_uses, 2, (some .boolean), [], [], [(0, .aload_n 1, 1, (0, 0, [])),
  (1, .aload_n 0, 1, (0, 0, [])),
  (2, .getfield 17, 3, (1, 0, [4])),
  (5, .if_acmp .ne 7, 3, (0, 0, [])),
  (8, .iconst 1, 1, (0, 0, [])),
  (9, .goto 4, 3, (0, 0, [])),
  (12, .iconst 0, 1, (0, 0, [])),
  (13, .ireturn, 1, (0, 0, []))], 0, 0)
def zm_X4_append : zM := (yX4_append, cX4_append, 2, none, [], [], [(0, .aload_n 0, 1, (0, 0, [])),
  (1, .getfield 21, 3, (3, 0, [4])),
  (4, .bipush 24, 2, (0, 0, [])),
  (6, .if_icmp .ge 23, 3, (0, 0, [])),
  (9, .aload_n 0, 1, (0, 0, [])),
  (10, .getfield 11, 3, (2, 0, [4])),
  (13, .aload_n 0, 1, (0, 0, [])),
  (14, .getfield 21, 3, (3, 0, [4])),
  (17, .aload_n 1, 1, (0, 0, [])),
  (18, .aastore, 1, (0, 0, [])),
  (19, .aload_n 0, 1, (0, 0, [])),
  (20, .dup, 1, (0, 0, [])),
  (21, .getfield 21, 3, (3, 0, [4])),
  (24, .iconst 1, 1, (0, 0, [])),
  (25, .iadd, 1, (0, 0, [])),
  (26, .putfield 21, 3, (3, 0, [4])),
  (29, .return_, 1, (0, 0, []))], 0, 0)
def zm_X4_wordAt : zM := (yX4_wordAt, cX4_wordAt, 2, (some (.object "ProcessorHouse$Word")), [], [], [(0, .iload_n 1, 1, (0, 0, [])),
  (1, .iconst 0, 1, (0, 0, [])),
  (2, .aload_n 0, 1, (0, 0, [])),
  (3, .getfield 21, 3, (3, 0, [4])),
  (6, .iconst 1, 1, (0, 0, [])),
  (7, .isub, 1, (0, 0, [])),
  (8, .invokestatic 25, 3, (76, 4, [3])),
  (11, .ifCond .eq 7, 3, (0, 0, [])),
  (14, .aconst_null, 1, (0, 0, [])),
  (15, .goto 9, 3, (0, 0, [])),
  (18, .aload_n 0, 1, (0, 0, [])),
  (19, .getfield 11, 3, (2, 0, [4])),
  (22, .iload_n 1, 1, (0, 0, [])),
  (23, .aaload, 1, (0, 0, [])),
  (24, .areturn, 1, (0, 0, []))], 1, 22)
def zm_X4_targetOf : zM := (yX4_targetOf, cX4_targetOf, 2, (some .int), [], [], [(0, .aload_n 0, 1, (0, 0, [])),
  (1, .getfield 21, 3, (3, 0, [4])),
  (4, .iconst 1, 1, (0, 0, [])),
  (5, .if_icmp .ge 7, 3, (0, 0, [])),
  (8, .iconst 0, 1, (0, 0, [])),
  (9, .goto 14, 3, (0, 0, [])),
  (12, .aload_n 1, 1, (0, 0, [])),
  (13, .getfield 29, 3, (4, 0, [7])),
  (16, .aload_n 0, 1, (0, 0, [])),
  (17, .getfield 21, 3, (3, 0, [4])),
  (20, .invokestatic 32, 3, (154, 2, [2])),
  (23, .ireturn, 1, (0, 0, []))], 1, 22)
def zm_X5_init : zM := (yX5_init, cX5_init, 2, none, [], [], [(0, .aload_n 0, 1, (0, 0, [])),
  (1, .iconst 3, 1, (0, 0, [])),
  (2, .invokespecial 3, 3, (48, 3, [1])),
  (5, .aload_n 0, 1, (0, 0, [])),
  (6, .iconst 4, 1, (0, 0, [])),
  (7, .newarray .long, 2, (0, 0, [])),
  (9, .putfield 9, 3, (2, 0, [5])),
  (12, .aload_n 0, 1, (0, 0, [])),
  (13, .aload_n 1, 1, (0, 0, [])),
  (14, .putfield 15, 3, (1, 0, [5])),
  (17, .aload_n 0, 1, (0, 0, [])),
  (18, .aload_n 1, 1, (0, 0, [])),
  (19, .getfield 19, 3, (1, 0, [4])),
  (22, .getfield 25, 3, (1, 0, [2])),
  (25, .newarray .long, 2, (0, 0, [])),
  (27, .putfield 31, 3, (3, 0, [5])),
  (30, .return_, 1, (0, 0, []))], 2, 41)
def zm_X5_uses : zM := (yX5_uses, cX5_uses, 2, (some .boolean), [], [], [(0, .aload_n 1, 1, (0, 0, [])),
  (1, .aload_n 0, 1, (0, 0, [])),
  (2, .getfield 15, 3, (1, 0, [5])),
  (5, .if_acmp .ne 7, 3, (0, 0, [])),
  (8, .iconst 1, 1, (0, 0, [])),
  (9, .goto 4, 3, (0, 0, [])),
  (12, .iconst 0, 1, (0, 0, [])),
  (13, .ireturn, 1, (0, 0, []))], 0, 0)
def zm_X5_nextWord : zM := (yX5_nextWord, cX5_nextWord, 1, (some (.object "ProcessorHouse$Word")), [], [], [(0, .aload_n 0, 1, (0, 0, [])),
  (1, .getfield 34, 3, (6, 0, [5])),
  (4, .ifCond .eq 7, 3, (0, 0, [])),
  (7, .aconst_null, 1, (0, 0, [])),
  (8, .goto 14, 3, (0, 0, [])),
  (11, .aload_n 0, 1, (0, 0, [])),
  (12, .getfield 15, 3, (1, 0, [5])),
  (15, .aload_n 0, 1, (0, 0, [])),
  (16, .getfield 38, 3, (4, 0, [5])),
  (19, .invokevirtual 41, 3, (33, 0, [1, 4])),
  (22, .areturn, 1, (0, 0, []))], 2, 43)
def zm_X5_advance : zM := (yX5_advance, cX5_advance, 4, none, [], [], [(0, .aload_n 0, 1, (0, 0, [])),
  (1, .invokevirtual 45, 3, (37, 0, [0, 5])),
  (4, .astore_n 1, 1, (0, 0, [])),
  (5, .aload_n 1, 1, (0, 0, [])),
  (6, .ifnonnull 4, 3, (0, 0, [])),
  (9, .return_, 1, (0, 0, [])),
  (10, .aload_n 0, 1, (0, 0, [])),
  (11, .getfield 9, 3, (2, 0, [5])),
  (14, .aload_n 1, 1, (0, 0, [])),
  (15, .getfield 49, 3, (2, 0, [7])),
  (18, .laload, 1, (0, 0, [])),
  (19, .lstore_n 2, 1, (0, 0, [])),
  (20, .aload_n 0, 1, (0, 0, [])),
  (21, .aload_n 1, 1, (0, 0, [])),
  (22, .lload_n 2, 1, (0, 0, [])),
  (23, .aload_n 0, 1, (0, 0, [])),
  (24, .getfield 9, 3, (2, 0, [5])),
  (27, .aload_n 1, 1, (0, 0, [])),
  (28, .getfield 54, 3, (3, 0, [7])),
  (31, .laload, 1, (0, 0, [])),
  (32, .invokevirtual 57, 3, (39, 0, [3, 5])),
  (35, .aload_n 0, 1, (0, 0, [])),
  (36, .dup, 1, (0, 0, [])),
  (37, .getfield 61, 3, (5, 0, [5])),
  (40, .iconst 1, 1, (0, 0, [])),
  (41, .iadd, 1, (0, 0, [])),
  (42, .putfield 61, 3, (5, 0, [5])),
  (45, .aload_n 1, 1, (0, 0, [])),
  (46, .lload_n 2, 1, (0, 0, [])),
  (47, .invokevirtual 64, 3, (54, 0, [1, 7])),
  (50, .ifCond .eq 18, 3, (0, 0, [])),
  (53, .aload_n 0, 1, (0, 0, [])),
  (54, .aload_n 0, 1, (0, 0, [])),
  (55, .getfield 15, 3, (1, 0, [5])),
  (58, .aload_n 1, 1, (0, 0, [])),
  (59, .invokevirtual 68, 3, (34, 0, [1, 4])),
  (62, .putfield 38, 3, (4, 0, [5])),
  (65, .goto 33, 3, (0, 0, [])),
  (68, .aload_n 0, 1, (0, 0, [])),
  (69, .aload_n 0, 1, (0, 0, [])),
  (70, .getfield 38, 3, (4, 0, [5])),
  (73, .iconst 1, 1, (0, 0, [])),
  (74, .iadd, 1, (0, 0, [])),
  (75, .aload_n 0, 1, (0, 0, [])),
  (76, .getfield 15, 3, (1, 0, [5])),
  (79, .getfield 72, 3, (3, 0, [4])),
  (82, .if_icmp .ge 12, 3, (0, 0, [])),
  (85, .aload_n 0, 1, (0, 0, [])),
  (86, .getfield 38, 3, (4, 0, [5])),
  (89, .iconst 1, 1, (0, 0, [])),
  (90, .iadd, 1, (0, 0, [])),
  (91, .goto 4, 3, (0, 0, [])),
  (94, .iconst 0, 1, (0, 0, [])),
  (95, .putfield 38, 3, (4, 0, [5])),
  (98, .return_, 1, (0, 0, []))], 3, 70)
def zm_X5_perform : zM := (yX5_perform, cX5_perform, 7, none, [], [], [(0, .aload_n 0, 1, (0, 0, [])),
  (1, .getfield 15, 3, (1, 0, [5])),
  (4, .getfield 19, 3, (1, 0, [4])),
  (7, .astore 6, 2, (0, 0, [])),
  (9, .aload_n 1, 1, (0, 0, [])),
  (10, .invokevirtual 75, 3, (50, 0, [0, 7])),
  (13, .ifCond .eq 27, 3, (0, 0, [])),
  (16, .aload_n 0, 1, (0, 0, [])),
  (17, .getfield 9, 3, (2, 0, [5])),
  (20, .aload_n 1, 1, (0, 0, [])),
  (21, .getfield 79, 3, (1, 0, [7])),
  (24, .aload 6, 2, (0, 0, [])),
  (26, .aload_n 1, 1, (0, 0, [])),
  (27, .lload_n 2, 1, (0, 0, [])),
  (28, .lload 4, 2, (0, 0, [])),
  (30, .invokevirtual 82, 3, (55, 0, [2, 7])),
  (33, .invokevirtual 86, 3, (24, 0, [1, 2])),
  (36, .lastore, 1, (0, 0, [])),
  (37, .goto 72, 3, (0, 0, [])),
  (40, .aload_n 1, 1, (0, 0, [])),
  (41, .getfield 90, 3, (0, 0, [7])),
  (44, .iconst 4, 1, (0, 0, [])),
  (45, .if_icmp .ne 26, 3, (0, 0, [])),
  (48, .aload_n 0, 1, (0, 0, [])),
  (49, .getfield 9, 3, (2, 0, [5])),
  (52, .aload_n 1, 1, (0, 0, [])),
  (53, .getfield 79, 3, (1, 0, [7])),
  (56, .aload_n 0, 1, (0, 0, [])),
  (57, .getfield 31, 3, (3, 0, [5])),
  (60, .aload 6, 2, (0, 0, [])),
  (62, .lload_n 2, 1, (0, 0, [])),
  (63, .invokevirtual 93, 3, (25, 0, [1, 2])),
  (66, .laload, 1, (0, 0, [])),
  (67, .lastore, 1, (0, 0, [])),
  (68, .goto 41, 3, (0, 0, [])),
  (71, .aload_n 1, 1, (0, 0, [])),
  (72, .getfield 90, 3, (0, 0, [7])),
  (75, .iconst 5, 1, (0, 0, [])),
  (76, .if_icmp .ne 19, 3, (0, 0, [])),
  (79, .aload_n 0, 1, (0, 0, [])),
  (80, .getfield 31, 3, (3, 0, [5])),
  (83, .aload 6, 2, (0, 0, [])),
  (85, .lload_n 2, 1, (0, 0, [])),
  (86, .invokevirtual 93, 3, (25, 0, [1, 2])),
  (89, .lload 4, 2, (0, 0, [])),
  (91, .lastore, 1, (0, 0, [])),
  (92, .goto 17, 3, (0, 0, [])),
  (95, .aload_n 1, 1, (0, 0, [])),
  (96, .getfield 90, 3, (0, 0, [7])),
  (99, .bipush 7, 2, (0, 0, [])),
  (101, .if_icmp .ne 8, 3, (0, 0, [])),
  (104, .aload_n 0, 1, (0, 0, [])),
  (105, .iconst 1, 1, (0, 0, [])),
  (106, .putfield 34, 3, (6, 0, [5])),
  (109, .return_, 1, (0, 0, []))], 2, 44)
def zm_X5_sameAs : zM := (yX5_sameAs, cX5_sameAs, 2, (some .boolean), [], [], [(0, .aload_n 0, 1, (0, 0, [])),
  (1, .getfield 15, 3, (1, 0, [5])),
  (4, .aload_n 1, 1, (0, 0, [])),
  (5, .getfield 15, 3, (1, 0, [5])),
  (8, .if_acmp .ne 46, 3, (0, 0, [])),
  (11, .aload_n 0, 1, (0, 0, [])),
  (12, .getfield 61, 3, (5, 0, [5])),
  (15, .aload_n 1, 1, (0, 0, [])),
  (16, .getfield 61, 3, (5, 0, [5])),
  (19, .if_icmp .ne 35, 3, (0, 0, [])),
  (22, .aload_n 0, 1, (0, 0, [])),
  (23, .getfield 9, 3, (2, 0, [5])),
  (26, .aload_n 1, 1, (0, 0, [])),
  (27, .getfield 9, 3, (2, 0, [5])),
  (30, .invokestatic 97, 3, (41, 2, [2])),
  (33, .ifCond .eq 21, 3, (0, 0, [])),
  (36, .aload_n 0, 1, (0, 0, [])),
  (37, .getfield 31, 3, (3, 0, [5])),
  (40, .aload_n 1, 1, (0, 0, [])),
  (41, .getfield 31, 3, (3, 0, [5])),
  (44, .invokestatic 97, 3, (41, 2, [2])),
  (47, .ifCond .eq 7, 3, (0, 0, [])),
  (50, .iconst 1, 1, (0, 0, [])),
  (51, .goto 4, 3, (0, 0, [])),
  (54, .iconst 0, 1, (0, 0, [])),
  (55, .ireturn, 1, (0, 0, []))], 1, 22)
def zm_X5_sameNumbers : zM := (yX5_sameNumbers, cX5_sameNumbers, 3, (some .boolean), [], [], [(0, .aload_n 0, 1, (0, 0, [])),
  (1, .arraylength, 1, (0, 0, [])),
  (2, .aload_n 1, 1, (0, 0, [])),
  (3, .arraylength, 1, (0, 0, [])),
  (4, .if_icmp .eq 5, 3, (0, 0, [])),
  (7, .iconst 0, 1, (0, 0, [])),
  (8, .ireturn, 1, (0, 0, [])),
  (9, .iconst 0, 1, (0, 0, [])),
  (10, .istore_n 2, 1, (0, 0, [])),
  (11, .iload_n 2, 1, (0, 0, [])),
  (12, .aload_n 0, 1, (0, 0, [])),
  (13, .arraylength, 1, (0, 0, [])),
  (14, .if_icmp .ge 21, 3, (0, 0, [])),
  (17, .aload_n 0, 1, (0, 0, [])),
  (18, .iload_n 2, 1, (0, 0, [])),
  (19, .laload, 1, (0, 0, [])),
  (20, .aload_n 1, 1, (0, 0, [])),
  (21, .iload_n 2, 1, (0, 0, [])),
  (22, .laload, 1, (0, 0, [])),
  (23, .lcmp, 1, (0, 0, [])),
  (24, .ifCond .eq 5, 3, (0, 0, [])),
  (27, .iconst 0, 1, (0, 0, [])),
  (28, .ireturn, 1, (0, 0, [])),
  (29, .iinc 2 1, 3, (0, 0, [])),
  (32, .goto (-21), 3, (0, 0, [])),
  (35, .iconst 1, 1, (0, 0, [])),
  (36, .ireturn, 1, (0, 0, []))], 0, 0)
def zm_X6_init : zM := (yX6_init, cX6_init, 3, none, [], [], [(0, .aload_n 0, 1, (0, 0, [])),
  (1, .iconst 5, 1, (0, 0, [])),
  (2, .invokespecial 3, 3, (48, 3, [1])),
  (5, .aload_n 0, 1, (0, 0, [])),
  (6, .iconst 4, 1, (0, 0, [])),
  (7, .newarray .int, 2, (0, 0, [])),
  (9, .putfield 9, 3, (9, 0, [6])),
  (12, .aload_n 0, 1, (0, 0, [])),
  (13, .bipush 16, 2, (0, 0, [])),
  (15, .newarray .int, 2, (0, 0, [])),
  (17, .putfield 15, 3, (10, 0, [6])),
  (20, .aload_n 0, 1, (0, 0, [])),
  (21, .aload_n 1, 1, (0, 0, [])),
  (22, .putfield 18, 3, (1, 0, [6])),
  (25, .aload_n 0, 1, (0, 0, [])),
  (26, .new 22, 3, (5, 0, [])),
  (29, .dup, 1, (0, 0, [])),
  (30, .aload_n 2, 1, (0, 0, [])),
  (31, .invokespecial 24, 3, (35, 3, [1])),
  (34, .putfield 27, 3, (2, 0, [6])),
  (37, .aload_n 0, 1, (0, 0, [])),
  (38, .new 22, 3, (5, 0, [])),
  (41, .dup, 1, (0, 0, [])),
  (42, .aload_n 2, 1, (0, 0, [])),
  (43, .invokespecial 24, 3, (35, 3, [1])),
  (46, .putfield 31, 3, (3, 0, [6])),
  (49, .return_, 1, (0, 0, []))], 3, 62)
def zm_X6_uses : zM := (yX6_uses, cX6_uses, 2, (some .boolean), [], [], [(0, .aload_n 1, 1, (0, 0, [])),
  (1, .aload_n 0, 1, (0, 0, [])),
  (2, .getfield 18, 3, (1, 0, [6])),
  (5, .if_acmp .eq 14, 3, (0, 0, [])),
  (8, .aload_n 1, 1, (0, 0, [])),
  (9, .aload_n 0, 1, (0, 0, [])),
  (10, .getfield 31, 3, (3, 0, [6])),
  (13, .getfield 34, 3, (1, 0, [5])),
  (16, .if_acmp .ne 7, 3, (0, 0, [])),
  (19, .iconst 1, 1, (0, 0, [])),
  (20, .goto 4, 3, (0, 0, [])),
  (23, .iconst 0, 1, (0, 0, [])),
  (24, .ireturn, 1, (0, 0, []))], 0, 0)
def zm_X6_tick : zM := (yX6_tick, cX6_tick, 2, none, [], [], [(0, .aload_n 0, 1, (0, 0, [])),
  (1, .dup, 1, (0, 0, [])),
  (2, .getfield 38, 3, (4, 0, [6])),
  (5, .iconst 1, 1, (0, 0, [])),
  (6, .iadd, 1, (0, 0, [])),
  (7, .putfield 38, 3, (4, 0, [6])),
  (10, .aload_n 0, 1, (0, 0, [])),
  (11, .getfield 27, 3, (2, 0, [6])),
  (14, .invokevirtual 42, 3, (37, 0, [0, 5])),
  (17, .astore_n 1, 1, (0, 0, [])),
  (18, .aload_n 1, 1, (0, 0, [])),
  (19, .ifnull 20, 3, (0, 0, [])),
  (22, .aload_n 0, 1, (0, 0, [])),
  (23, .getfield 38, 3, (4, 0, [6])),
  (26, .aload_n 0, 1, (0, 0, [])),
  (27, .aload_n 1, 1, (0, 0, [])),
  (28, .invokevirtual 46, 3, (45, 0, [1, 6])),
  (31, .if_icmp .lt 8, 3, (0, 0, [])),
  (34, .aload_n 0, 1, (0, 0, [])),
  (35, .aload_n 1, 1, (0, 0, [])),
  (36, .invokevirtual 50, 3, (46, 0, [1, 6])),
  (39, .aload_n 0, 1, (0, 0, [])),
  (40, .getfield 31, 3, (3, 0, [6])),
  (43, .getfield 54, 3, (5, 0, [5])),
  (46, .aload_n 0, 1, (0, 0, [])),
  (47, .getfield 27, 3, (2, 0, [6])),
  (50, .getfield 54, 3, (5, 0, [5])),
  (53, .if_icmp .ge 32, 3, (0, 0, [])),
  (56, .aload_n 0, 1, (0, 0, [])),
  (57, .getfield 15, 3, (10, 0, [6])),
  (60, .aload_n 0, 1, (0, 0, [])),
  (61, .getfield 31, 3, (3, 0, [6])),
  (64, .getfield 54, 3, (5, 0, [5])),
  (67, .bipush 15, 2, (0, 0, [])),
  (69, .iand, 1, (0, 0, [])),
  (70, .iaload, 1, (0, 0, [])),
  (71, .aload_n 0, 1, (0, 0, [])),
  (72, .getfield 38, 3, (4, 0, [6])),
  (75, .if_icmp .ne 10, 3, (0, 0, [])),
  (78, .aload_n 0, 1, (0, 0, [])),
  (79, .getfield 31, 3, (3, 0, [6])),
  (82, .invokevirtual 57, 3, (38, 0, [0, 5])),
  (85, .return_, 1, (0, 0, []))], 5, 114)
def zm_X6_entryOf : zM := (yX6_entryOf, cX6_entryOf, 3, (some .int), [], [], [(0, .aload_n 0, 1, (0, 0, [])),
  (1, .getfield 61, 3, (5, 0, [6])),
  (4, .iconst 1, 1, (0, 0, [])),
  (5, .iadd, 1, (0, 0, [])),
  (6, .aload_n 0, 1, (0, 0, [])),
  (7, .getfield 64, 3, (6, 0, [6])),
  (10, .iadd, 1, (0, 0, [])),
  (11, .istore_n 2, 1, (0, 0, [])),
  (12, .aload_n 1, 1, (0, 0, [])),
  (13, .invokevirtual 67, 3, (52, 0, [0, 7])),
  (16, .ifCond .eq 17, 3, (0, 0, [])),
  (19, .iload_n 2, 1, (0, 0, [])),
  (20, .aload_n 0, 1, (0, 0, [])),
  (21, .getfield 9, 3, (9, 0, [6])),
  (24, .aload_n 1, 1, (0, 0, [])),
  (25, .getfield 73, 3, (2, 0, [7])),
  (28, .iaload, 1, (0, 0, [])),
  (29, .invokestatic 76, 3, (155, 2, [2])),
  (32, .istore_n 2, 1, (0, 0, [])),
  (33, .aload_n 1, 1, (0, 0, [])),
  (34, .invokevirtual 82, 3, (53, 0, [0, 7])),
  (37, .ifCond .eq 17, 3, (0, 0, [])),
  (40, .iload_n 2, 1, (0, 0, [])),
  (41, .aload_n 0, 1, (0, 0, [])),
  (42, .getfield 9, 3, (9, 0, [6])),
  (45, .aload_n 1, 1, (0, 0, [])),
  (46, .getfield 85, 3, (3, 0, [7])),
  (49, .iaload, 1, (0, 0, [])),
  (50, .invokestatic 76, 3, (155, 2, [2])),
  (53, .istore_n 2, 1, (0, 0, [])),
  (54, .iload_n 2, 1, (0, 0, [])),
  (55, .ireturn, 1, (0, 0, []))], 2, 40)
def zm_X6_enter : zM := (yX6_enter, cX6_enter, 2, none, [], [], [(0, .aload_n 0, 1, (0, 0, [])),
  (1, .dup, 1, (0, 0, [])),
  (2, .getfield 88, 3, (7, 0, [6])),
  (5, .aload_n 0, 1, (0, 0, [])),
  (6, .getfield 64, 3, (6, 0, [6])),
  (9, .iadd, 1, (0, 0, [])),
  (10, .putfield 88, 3, (7, 0, [6])),
  (13, .aload_n 0, 1, (0, 0, [])),
  (14, .dup, 1, (0, 0, [])),
  (15, .getfield 91, 3, (8, 0, [6])),
  (18, .aload_n 0, 1, (0, 0, [])),
  (19, .getfield 38, 3, (4, 0, [6])),
  (22, .aload_n 0, 1, (0, 0, [])),
  (23, .getfield 61, 3, (5, 0, [6])),
  (26, .isub, 1, (0, 0, [])),
  (27, .iconst 1, 1, (0, 0, [])),
  (28, .isub, 1, (0, 0, [])),
  (29, .aload_n 0, 1, (0, 0, [])),
  (30, .getfield 64, 3, (6, 0, [6])),
  (33, .isub, 1, (0, 0, [])),
  (34, .iadd, 1, (0, 0, [])),
  (35, .putfield 91, 3, (8, 0, [6])),
  (38, .aload_n 0, 1, (0, 0, [])),
  (39, .aload_n 0, 1, (0, 0, [])),
  (40, .getfield 38, 3, (4, 0, [6])),
  (43, .putfield 61, 3, (5, 0, [6])),
  (46, .aload_n 0, 1, (0, 0, [])),
  (47, .aload_n 1, 1, (0, 0, [])),
  (48, .aload_n 0, 1, (0, 0, [])),
  (49, .getfield 27, 3, (2, 0, [6])),
  (52, .getfield 94, 3, (2, 0, [5])),
  (55, .aload_n 1, 1, (0, 0, [])),
  (56, .getfield 73, 3, (2, 0, [7])),
  (59, .laload, 1, (0, 0, [])),
  (60, .invokevirtual 98, 3, (54, 0, [1, 7])),
  (63, .ifCond .eq 13, 3, (0, 0, [])),
  (66, .aload_n 0, 1, (0, 0, [])),
  (67, .getfield 18, 3, (1, 0, [6])),
  (70, .getfield 102, 3, (5, 0, [0])),
  (73, .goto 4, 3, (0, 0, [])),
  (76, .iconst 0, 1, (0, 0, [])),
  (77, .putfield 64, 3, (6, 0, [6])),
  (80, .aload_n 1, 1, (0, 0, [])),
  (81, .invokevirtual 107, 3, (51, 0, [0, 7])),
  (84, .ifCond .eq 44, 3, (0, 0, [])),
  (87, .aload_n 0, 1, (0, 0, [])),
  (88, .getfield 9, 3, (9, 0, [6])),
  (91, .aload_n 1, 1, (0, 0, [])),
  (92, .getfield 110, 3, (1, 0, [7])),
  (95, .aload_n 0, 1, (0, 0, [])),
  (96, .getfield 38, 3, (4, 0, [6])),
  (99, .iconst 1, 1, (0, 0, [])),
  (100, .iadd, 1, (0, 0, [])),
  (101, .aload_n 1, 1, (0, 0, [])),
  (102, .getfield 113, 3, (0, 0, [7])),
  (105, .iconst 4, 1, (0, 0, [])),
  (106, .if_icmp .ne 13, 3, (0, 0, [])),
  (109, .aload_n 0, 1, (0, 0, [])),
  (110, .getfield 18, 3, (1, 0, [6])),
  (113, .getfield 116, 3, (4, 0, [0])),
  (116, .goto 10, 3, (0, 0, [])),
  (119, .aload_n 0, 1, (0, 0, [])),
  (120, .getfield 18, 3, (1, 0, [6])),
  (123, .getfield 119, 3, (3, 0, [0])),
  (126, .iadd, 1, (0, 0, [])),
  (127, .iastore, 1, (0, 0, [])),
  (128, .aload_n 0, 1, (0, 0, [])),
  (129, .getfield 15, 3, (10, 0, [6])),
  (132, .aload_n 0, 1, (0, 0, [])),
  (133, .getfield 27, 3, (2, 0, [6])),
  (136, .getfield 54, 3, (5, 0, [5])),
  (139, .bipush 15, 2, (0, 0, [])),
  (141, .iand, 1, (0, 0, [])),
  (142, .aload_n 0, 1, (0, 0, [])),
  (143, .getfield 38, 3, (4, 0, [6])),
  (146, .aload_n 0, 1, (0, 0, [])),
  (147, .getfield 18, 3, (1, 0, [6])),
  (150, .getfield 122, 3, (2, 0, [0])),
  (153, .iadd, 1, (0, 0, [])),
  (154, .iastore, 1, (0, 0, [])),
  (155, .aload_n 0, 1, (0, 0, [])),
  (156, .getfield 27, 3, (2, 0, [6])),
  (159, .invokevirtual 57, 3, (38, 0, [0, 5])),
  (162, .return_, 1, (0, 0, []))], 4, 93)
def zm_X6_tally : zM := (yX6_tally, cX6_tally, 2, (some .int), [], [], [(0, .iload_n 1, 1, (0, 0, [])),
  (1, .tableswitch 45 2 4 #[27, 32, 40], 27, (0, 0, [])),
  (28, .aload_n 0, 1, (0, 0, [])),
  (29, .getfield 38, 3, (4, 0, [6])),
  (32, .ireturn, 1, (0, 0, [])),
  (33, .aload_n 0, 1, (0, 0, [])),
  (34, .getfield 27, 3, (2, 0, [6])),
  (37, .getfield 54, 3, (5, 0, [5])),
  (40, .ireturn, 1, (0, 0, [])),
  (41, .aload_n 0, 1, (0, 0, [])),
  (42, .getfield 88, 3, (7, 0, [6])),
  (45, .ireturn, 1, (0, 0, [])),
  (46, .aload_n 0, 1, (0, 0, [])),
  (47, .getfield 91, 3, (8, 0, [6])),
  (50, .ireturn, 1, (0, 0, []))], 0, 0)
def zm_X7_init : zM := (yX7_init, cX7_init, 2, none, [], [], [(0, .aload_n 0, 1, (0, 0, [])),
  (1, .invokespecial 1, 3, (0, 7, [])),
  (4, .aload_n 0, 1, (0, 0, [])),
  (5, .iload_n 1, 1, (0, 0, [])),
  (6, .putfield 7, 3, (0, 0, [0, 2, 3, 4, 5, 6])),
  (9, .return_, 1, (0, 0, []))], 1, 20)
def zm_X8_init : zM := (yX8_init, cX8_init, 6, none, [], [], [(0, .aload_n 0, 1, (0, 0, [])),
  (1, .invokespecial 3, 3, (0, 7, [])),
  (4, .aload_n 0, 1, (0, 0, [])),
  (5, .iload_n 1, 1, (0, 0, [])),
  (6, .putfield 9, 3, (0, 0, [7])),
  (9, .aload_n 0, 1, (0, 0, [])),
  (10, .iload_n 2, 1, (0, 0, [])),
  (11, .putfield 15, 3, (1, 0, [7])),
  (14, .aload_n 0, 1, (0, 0, [])),
  (15, .iload_n 3, 1, (0, 0, [])),
  (16, .putfield 18, 3, (2, 0, [7])),
  (19, .aload_n 0, 1, (0, 0, [])),
  (20, .iload 4, 2, (0, 0, [])),
  (22, .putfield 21, 3, (3, 0, [7])),
  (25, .aload_n 0, 1, (0, 0, [])),
  (26, .iload 5, 2, (0, 0, [])),
  (28, .putfield 24, 3, (4, 0, [7])),
  (31, .return_, 1, (0, 0, []))], 1, 20)
def zm_X8_computes : zM := (yX8_computes, cX8_computes, 1, (some .boolean), [], [], [(0, .aload_n 0, 1, (0, 0, [])),
  (1, .getfield 9, 3, (0, 0, [7])),
  (4, .iconst 3, 1, (0, 0, [])),
  (5, .if_icmp .gt 7, 3, (0, 0, [])),
  (8, .iconst 1, 1, (0, 0, [])),
  (9, .goto 4, 3, (0, 0, [])),
  (12, .iconst 0, 1, (0, 0, [])),
  (13, .ireturn, 1, (0, 0, []))], 0, 0)
def zm_X8_writes : zM := (yX8_writes, cX8_writes, 1, (some .boolean), [], [], [(0, .aload_n 0, 1, (0, 0, [])),
  (1, .getfield 9, 3, (0, 0, [7])),
  (4, .iconst 4, 1, (0, 0, [])),
  (5, .if_icmp .gt 7, 3, (0, 0, [])),
  (8, .iconst 1, 1, (0, 0, [])),
  (9, .goto 4, 3, (0, 0, [])),
  (12, .iconst 0, 1, (0, 0, [])),
  (13, .ireturn, 1, (0, 0, []))], 0, 0)
def zm_X8_readsA : zM := (yX8_readsA, cX8_readsA, 1, (some .boolean), [], [], [(0, .aload_n 0, 1, (0, 0, [])),
  (1, .getfield 9, 3, (0, 0, [7])),
  (4, .ifCond .eq 16, 3, (0, 0, [])),
  (7, .aload_n 0, 1, (0, 0, [])),
  (8, .getfield 9, 3, (0, 0, [7])),
  (11, .bipush 7, 2, (0, 0, [])),
  (13, .if_icmp .eq 7, 3, (0, 0, [])),
  (16, .iconst 1, 1, (0, 0, [])),
  (17, .goto 4, 3, (0, 0, [])),
  (20, .iconst 0, 1, (0, 0, [])),
  (21, .ireturn, 1, (0, 0, []))], 0, 0)
def zm_X8_readsB : zM := (yX8_readsB, cX8_readsB, 1, (some .boolean), [], [], [(0, .aload_n 0, 1, (0, 0, [])),
  (1, .getfield 9, 3, (0, 0, [7])),
  (4, .iconst 5, 1, (0, 0, [])),
  (5, .if_icmp .eq 17, 3, (0, 0, [])),
  (8, .aload_n 0, 1, (0, 0, [])),
  (9, .getfield 9, 3, (0, 0, [7])),
  (12, .ifCond .eq 14, 3, (0, 0, [])),
  (15, .aload_n 0, 1, (0, 0, [])),
  (16, .invokevirtual 27, 3, (50, 0, [0, 7])),
  (19, .ifCond .eq 7, 3, (0, 0, [])),
  (22, .iconst 1, 1, (0, 0, [])),
  (23, .goto 4, 3, (0, 0, [])),
  (26, .iconst 0, 1, (0, 0, [])),
  (27, .ireturn, 1, (0, 0, []))], 1, 20)
def zm_X8_goes : zM := (yX8_goes, cX8_goes, 3, (some .boolean), [], [], [(0, .aload_n 0, 1, (0, 0, [])),
  (1, .getfield 9, 3, (0, 0, [7])),
  (4, .bipush 6, 2, (0, 0, [])),
  (6, .if_icmp .ne 13, 3, (0, 0, [])),
  (9, .lload_n 1, 1, (0, 0, [])),
  (10, .lconst 0, 1, (0, 0, [])),
  (11, .lcmp, 1, (0, 0, [])),
  (12, .ifCond .eq 7, 3, (0, 0, [])),
  (15, .iconst 1, 1, (0, 0, [])),
  (16, .goto 4, 3, (0, 0, [])),
  (19, .iconst 0, 1, (0, 0, [])),
  (20, .ireturn, 1, (0, 0, []))], 0, 0)
def zm_X8_result : zM := (yX8_result, cX8_result, 5, (some .long), [], [], [(0, .aload_n 0, 1, (0, 0, [])),
  (1, .getfield 9, 3, (0, 0, [7])),
  (4, .tableswitch 40 1 3 #[28, 32, 36], 28, (0, 0, [])),
  (32, .lload_n 1, 1, (0, 0, [])),
  (33, .lload_n 3, 1, (0, 0, [])),
  (34, .ladd, 1, (0, 0, [])),
  (35, .lreturn, 1, (0, 0, [])),
  (36, .lload_n 1, 1, (0, 0, [])),
  (37, .lload_n 3, 1, (0, 0, [])),
  (38, .lsub, 1, (0, 0, [])),
  (39, .lreturn, 1, (0, 0, [])),
  (40, .lload_n 1, 1, (0, 0, [])),
  (41, .lload_n 3, 1, (0, 0, [])),
  (42, .land, 1, (0, 0, [])),
  (43, .lreturn, 1, (0, 0, [])),
  (44, .aload_n 0, 1, (0, 0, [])),
  (45, .getfield 24, 3, (4, 0, [7])),
  (48, .i2l, 1, (0, 0, [])),
  (49, .lreturn, 1, (0, 0, []))], 0, 0)
def zm_X9_init : zM := (yX9_init, cX9_init, 1, none, [], [], [(0, .aload_n 0, 1, (0, 0, [])),
  (1, .invokespecial 1, 3, (0, 7, [])),
  (4, .aload_n 0, 1, (0, 0, [])),
  (5, .bipush 61, 2, (0, 0, [])),
  (7, .anewarray 9, 3, (103, 0, [])),
  (10, .putfield 11, 3, (0, 0, [8])),
  (13, .return_, 1, (0, 0, []))], 1, 20)
def zm_X9_machine : zM := (yX9_machine, cX9_machine, 3, (some .int), [], [], [(0, .iload_n 1, 1, (0, 0, [])),
  (1, .iconst 1, 1, (0, 0, [])),
  (2, .bipush 32, 2, (0, 0, [])),
  (4, .invokestatic 15, 3, (76, 2, [3])),
  (7, .ifCond .ne 13, 3, (0, 0, [])),
  (10, .iload_n 2, 1, (0, 0, [])),
  (11, .iconst 1, 1, (0, 0, [])),
  (12, .bipush 8, 2, (0, 0, [])),
  (14, .invokestatic 15, 3, (76, 2, [3])),
  (17, .ifCond .eq 13, 3, (0, 0, [])),
  (20, .new 19, 3, (101, 21, [23, 0])),
  (30, .aload_n 0, 1, (0, 0, [])),
  (31, .new 26, 3, (2, 0, [])),
  (34, .dup, 1, (0, 0, [])),
  (35, .iload_n 1, 1, (0, 0, [])),
  (36, .iload_n 2, 1, (0, 0, [])),
  (37, .invokespecial 28, 3, (22, 3, [2])),
  (40, .invokevirtual 31, 3, (79, 0, [1, 8])),
  (43, .ireturn, 1, (0, 0, []))], 8, 132)
def zm_X9_program : zM := (yX9_program, cX9_program, 2, (some .int), [], [], [(0, .aload_n 0, 1, (0, 0, [])),
  (1, .new 35, 3, (4, 0, [])),
  (4, .dup, 1, (0, 0, [])),
  (5, .aload_n 0, 1, (0, 0, [])),
  (6, .iload_n 1, 1, (0, 0, [])),
  (7, .invokevirtual 37, 3, (87, 0, [1, 8])),
  (10, .invokespecial 41, 3, (30, 3, [1])),
  (13, .invokevirtual 31, 3, (79, 0, [1, 8])),
  (16, .ireturn, 1, (0, 0, []))], 8, 135)
def zm_X9_word : zM := (yX9_word, cX9_word, 8, (some .int), [], [], [(0, .aload_n 0, 1, (0, 0, [])),
  (1, .iload_n 1, 1, (0, 0, [])),
  (2, .invokevirtual 44, 3, (88, 0, [1, 8])),
  (5, .astore 7, 2, (0, 0, [])),
  (7, .aload_n 0, 1, (0, 0, [])),
  (8, .aload 7, 2, (0, 0, [])),
  (10, .invokevirtual 48, 3, (81, 0, [1, 8])),
  (13, .iload_n 2, 1, (0, 0, [])),
  (14, .iconst 0, 1, (0, 0, [])),
  (15, .bipush 7, 2, (0, 0, [])),
  (17, .invokestatic 15, 3, (76, 2, [3])),
  (20, .ifCond .ne 26, 3, (0, 0, [])),
  (23, .iload_n 3, 1, (0, 0, [])),
  (24, .invokestatic 52, 3, (77, 2, [1])),
  (27, .ifCond .ne 19, 3, (0, 0, [])),
  (30, .iload 4, 2, (0, 0, [])),
  (32, .invokestatic 52, 3, (77, 2, [1])),
  (35, .ifCond .ne 11, 3, (0, 0, [])),
  (38, .iload 5, 2, (0, 0, [])),
  (40, .invokestatic 52, 3, (77, 2, [1])),
  (43, .ifCond .eq 13, 3, (0, 0, [])),
  (46, .new 19, 3, (101, 56, [23, 0])),
  (56, .aload 7, 2, (0, 0, [])),
  (58, .getfield 58, 3, (3, 0, [4])),
  (61, .bipush 24, 2, (0, 0, [])),
  (63, .if_icmp .lt 13, 3, (0, 0, [])),
  (66, .new 62, 3, (102, 64, [66, 0])),
  (76, .aload 7, 2, (0, 0, [])),
  (78, .new 67, 3, (7, 0, [])),
  (81, .dup, 1, (0, 0, [])),
  (82, .iload_n 2, 1, (0, 0, [])),
  (83, .iload_n 3, 1, (0, 0, [])),
  (84, .iload 4, 2, (0, 0, [])),
  (86, .iload 5, 2, (0, 0, [])),
  (88, .iload 6, 2, (0, 0, [])),
  (90, .invokespecial 69, 3, (49, 3, [5])),
  (93, .invokevirtual 72, 3, (32, 0, [1, 4])),
  (96, .aload 7, 2, (0, 0, [])),
  (98, .getfield 58, 3, (3, 0, [4])),
  (101, .ireturn, 1, (0, 0, []))], 8, 136)
def zm_X9_run : zM := (yX9_run, cX9_run, 3, (some .int), [], [], [(0, .aload_n 0, 1, (0, 0, [])),
  (1, .iload_n 1, 1, (0, 0, [])),
  (2, .invokevirtual 44, 3, (88, 0, [1, 8])),
  (5, .astore_n 2, 1, (0, 0, [])),
  (6, .aload_n 0, 1, (0, 0, [])),
  (7, .aload_n 2, 1, (0, 0, [])),
  (8, .invokevirtual 76, 3, (83, 0, [1, 8])),
  (11, .aload_n 0, 1, (0, 0, [])),
  (12, .new 80, 3, (5, 0, [])),
  (15, .dup, 1, (0, 0, [])),
  (16, .aload_n 2, 1, (0, 0, [])),
  (17, .invokespecial 82, 3, (35, 3, [1])),
  (20, .invokevirtual 31, 3, (79, 0, [1, 8])),
  (23, .ireturn, 1, (0, 0, []))], 8, 135)
def zm_X9_step : zM := (yX9_step, cX9_step, 5, (some .int), [], [], [(0, .aload_n 0, 1, (0, 0, [])),
  (1, .iload_n 1, 1, (0, 0, [])),
  (2, .invokevirtual 84, 3, (89, 0, [1, 8])),
  (5, .astore_n 3, 1, (0, 0, [])),
  (6, .iload_n 2, 1, (0, 0, [])),
  (7, .iconst 1, 1, (0, 0, [])),
  (8, .sipush 2000, 3, (0, 0, [])),
  (11, .invokestatic 15, 3, (76, 2, [3])),
  (14, .ifCond .eq 13, 3, (0, 0, [])),
  (17, .new 19, 3, (101, 88, [23, 0])),
  (27, .iconst 0, 1, (0, 0, [])),
  (28, .istore 4, 2, (0, 0, [])),
  (30, .iload 4, 2, (0, 0, [])),
  (32, .iload_n 2, 1, (0, 0, [])),
  (33, .if_icmp .ge 20, 3, (0, 0, [])),
  (36, .aload_n 3, 1, (0, 0, [])),
  (37, .getfield 90, 3, (6, 0, [5])),
  (40, .ifCond .ne 13, 3, (0, 0, [])),
  (43, .aload_n 3, 1, (0, 0, [])),
  (44, .invokevirtual 94, 3, (38, 0, [0, 5])),
  (47, .iinc 4 1, 3, (0, 0, [])),
  (50, .goto (-20), 3, (0, 0, [])),
  (53, .iload 4, 2, (0, 0, [])),
  (55, .ireturn, 1, (0, 0, []))], 8, 135)
def zm_X9_core : zM := (yX9_core, cX9_core, 8, (some .int), [], [], [(0, .aload_n 0, 1, (0, 0, [])),
  (1, .iload_n 1, 1, (0, 0, [])),
  (2, .invokevirtual 37, 3, (87, 0, [1, 8])),
  (5, .astore 6, 2, (0, 0, [])),
  (7, .iload_n 2, 1, (0, 0, [])),
  (8, .iload_n 3, 1, (0, 0, [])),
  (9, .iload 4, 2, (0, 0, [])),
  (11, .iload 5, 2, (0, 0, [])),
  (13, .invokestatic 97, 3, (78, 2, [4])),
  (16, .ifCond .eq 13, 3, (0, 0, [])),
  (19, .new 19, 3, (101, 101, [23, 0])),
  (29, .new 103, 3, (0, 0, [])),
  (32, .dup, 1, (0, 0, [])),
  (33, .aload 6, 2, (0, 0, [])),
  (35, .invokespecial 105, 3, (0, 3, [1])),
  (38, .astore 7, 2, (0, 0, [])),
  (40, .aload 7, 2, (0, 0, [])),
  (42, .iload_n 2, 1, (0, 0, [])),
  (43, .iload_n 3, 1, (0, 0, [])),
  (44, .iload 4, 2, (0, 0, [])),
  (46, .iload 5, 2, (0, 0, [])),
  (48, .invokevirtual 106, 3, (2, 0, [4, 0])),
  (51, .aload_n 0, 1, (0, 0, [])),
  (52, .aload 7, 2, (0, 0, [])),
  (54, .invokevirtual 31, 3, (79, 0, [1, 8])),
  (57, .ireturn, 1, (0, 0, []))], 8, 135)
def zm_X9_change : zM := (yX9_change, cX9_change, 8, (some .int), [], [], [(0, .aload_n 0, 1, (0, 0, [])),
  (1, .iload_n 1, 1, (0, 0, [])),
  (2, .invokevirtual 110, 3, (90, 0, [1, 8])),
  (5, .astore 6, 2, (0, 0, [])),
  (7, .aload_n 0, 1, (0, 0, [])),
  (8, .aload 6, 2, (0, 0, [])),
  (10, .invokevirtual 48, 3, (81, 0, [1, 8])),
  (13, .iload_n 2, 1, (0, 0, [])),
  (14, .iload_n 3, 1, (0, 0, [])),
  (15, .iload 4, 2, (0, 0, [])),
  (17, .iload 5, 2, (0, 0, [])),
  (19, .invokestatic 97, 3, (78, 2, [4])),
  (22, .ifCond .eq 13, 3, (0, 0, [])),
  (25, .new 19, 3, (101, 101, [23, 0])),
  (35, .aload 6, 2, (0, 0, [])),
  (37, .getfield 114, 3, (2, 0, [0])),
  (40, .istore 7, 2, (0, 0, [])),
  (42, .aload 6, 2, (0, 0, [])),
  (44, .iload_n 2, 1, (0, 0, [])),
  (45, .iload_n 3, 1, (0, 0, [])),
  (46, .iload 4, 2, (0, 0, [])),
  (48, .iload 5, 2, (0, 0, [])),
  (50, .invokevirtual 106, 3, (2, 0, [4, 0])),
  (53, .iload 7, 2, (0, 0, [])),
  (55, .ireturn, 1, (0, 0, []))], 8, 136)
def zm_X9_sim : zM := (yX9_sim, cX9_sim, 5, (some .int), [], [], [(0, .aload_n 0, 1, (0, 0, [])),
  (1, .iload_n 1, 1, (0, 0, [])),
  (2, .invokevirtual 110, 3, (90, 0, [1, 8])),
  (5, .astore_n 3, 1, (0, 0, [])),
  (6, .aload_n 0, 1, (0, 0, [])),
  (7, .iload_n 2, 1, (0, 0, [])),
  (8, .invokevirtual 44, 3, (88, 0, [1, 8])),
  (11, .astore 4, 2, (0, 0, [])),
  (13, .aload_n 0, 1, (0, 0, [])),
  (14, .aload_n 3, 1, (0, 0, [])),
  (15, .getfield 117, 3, (1, 0, [0])),
  (18, .aload 4, 2, (0, 0, [])),
  (20, .getfield 121, 3, (1, 0, [4])),
  (23, .invokevirtual 122, 3, (82, 0, [2, 8])),
  (26, .aload_n 0, 1, (0, 0, [])),
  (27, .aload 4, 2, (0, 0, [])),
  (29, .invokevirtual 76, 3, (83, 0, [1, 8])),
  (32, .aload_n 0, 1, (0, 0, [])),
  (33, .new 126, 3, (6, 0, [])),
  (36, .dup, 1, (0, 0, [])),
  (37, .aload_n 3, 1, (0, 0, [])),
  (38, .aload 4, 2, (0, 0, [])),
  (40, .invokespecial 128, 3, (42, 3, [2])),
  (43, .invokevirtual 31, 3, (79, 0, [1, 8])),
  (46, .ireturn, 1, (0, 0, []))], 8, 135)
def zm_X9_cycles : zM := (yX9_cycles, cX9_cycles, 5, (some .int), [], [], [(0, .aload_n 0, 1, (0, 0, [])),
  (1, .iload_n 1, 1, (0, 0, [])),
  (2, .invokevirtual 131, 3, (91, 0, [1, 8])),
  (5, .astore_n 3, 1, (0, 0, [])),
  (6, .iload_n 2, 1, (0, 0, [])),
  (7, .iconst 1, 1, (0, 0, [])),
  (8, .sipush 2000, 3, (0, 0, [])),
  (11, .invokestatic 15, 3, (76, 2, [3])),
  (14, .ifCond .eq 13, 3, (0, 0, [])),
  (17, .new 19, 3, (101, 135, [23, 0])),
  (27, .iconst 0, 1, (0, 0, [])),
  (28, .istore 4, 2, (0, 0, [])),
  (30, .iload 4, 2, (0, 0, [])),
  (32, .iload_n 2, 1, (0, 0, [])),
  (33, .if_icmp .ge 23, 3, (0, 0, [])),
  (36, .aload_n 3, 1, (0, 0, [])),
  (37, .getfield 137, 3, (3, 0, [6])),
  (40, .getfield 90, 3, (6, 0, [5])),
  (43, .ifCond .ne 13, 3, (0, 0, [])),
  (46, .aload_n 3, 1, (0, 0, [])),
  (47, .invokevirtual 141, 3, (44, 0, [0, 6])),
  (50, .iinc 4 1, 3, (0, 0, [])),
  (53, .goto (-23), 3, (0, 0, [])),
  (56, .iload 4, 2, (0, 0, [])),
  (58, .ireturn, 1, (0, 0, []))], 8, 135)
def zm_X9_state : zM := (yX9_state, cX9_state, 6, (some .int), [], [], [(0, .aload_n 0, 1, (0, 0, [])),
  (1, .iload_n 1, 1, (0, 0, [])),
  (2, .invokevirtual 144, 3, (93, 0, [1, 8])),
  (5, .astore_n 3, 1, (0, 0, [])),
  (6, .iload_n 2, 1, (0, 0, [])),
  (7, .ifCond .ne 8, 3, (0, 0, [])),
  (10, .aload_n 3, 1, (0, 0, [])),
  (11, .getfield 147, 3, (5, 0, [5])),
  (14, .ireturn, 1, (0, 0, [])),
  (15, .iload_n 2, 1, (0, 0, [])),
  (16, .iconst 1, 1, (0, 0, [])),
  (17, .if_icmp .ne 16, 3, (0, 0, [])),
  (20, .aload_n 3, 1, (0, 0, [])),
  (21, .getfield 90, 3, (6, 0, [5])),
  (24, .ifCond .eq 7, 3, (0, 0, [])),
  (27, .iconst 1, 1, (0, 0, [])),
  (28, .goto 4, 3, (0, 0, [])),
  (31, .iconst 0, 1, (0, 0, [])),
  (32, .ireturn, 1, (0, 0, [])),
  (33, .aload_n 0, 1, (0, 0, [])),
  (34, .iload_n 1, 1, (0, 0, [])),
  (35, .invokevirtual 150, 3, (85, 0, [1, 8])),
  (38, .astore 5, 2, (0, 0, [])),
  (40, .aload 5, 2, (0, 0, [])),
  (42, .instanceof 126, 3, (6, 0, [])),
  (45, .ifCond .eq 26, 3, (0, 0, [])),
  (48, .aload 5, 2, (0, 0, [])),
  (50, .checkcast 126, 3, (6, 0, [])),
  (53, .astore 4, 2, (0, 0, [])),
  (55, .iload_n 2, 1, (0, 0, [])),
  (56, .iconst 2, 1, (0, 0, [])),
  (57, .iconst 5, 1, (0, 0, [])),
  (58, .invokestatic 15, 3, (76, 2, [3])),
  (61, .ifCond .ne 10, 3, (0, 0, [])),
  (64, .aload 4, 2, (0, 0, [])),
  (66, .iload_n 2, 1, (0, 0, [])),
  (67, .invokevirtual 154, 3, (47, 0, [1, 6])),
  (70, .ireturn, 1, (0, 0, [])),
  (71, .new 19, 3, (101, 158, [23, 0]))], 8, 135)
def zm_X9_number : zM := (yX9_number, cX9_number, 4, (some .long), [], [], [(0, .aload_n 0, 1, (0, 0, [])),
  (1, .iload_n 1, 1, (0, 0, [])),
  (2, .invokevirtual 144, 3, (93, 0, [1, 8])),
  (5, .astore_n 3, 1, (0, 0, [])),
  (6, .iload_n 2, 1, (0, 0, [])),
  (7, .iconst 0, 1, (0, 0, [])),
  (8, .iconst 4, 1, (0, 0, [])),
  (9, .aload_n 3, 1, (0, 0, [])),
  (10, .getfield 160, 3, (3, 0, [5])),
  (13, .arraylength, 1, (0, 0, [])),
  (14, .iadd, 1, (0, 0, [])),
  (15, .iconst 1, 1, (0, 0, [])),
  (16, .isub, 1, (0, 0, [])),
  (17, .invokestatic 15, 3, (76, 2, [3])),
  (20, .ifCond .eq 13, 3, (0, 0, [])),
  (23, .new 19, 3, (101, 164, [23, 0])),
  (33, .iload_n 2, 1, (0, 0, [])),
  (34, .iconst 4, 1, (0, 0, [])),
  (35, .if_icmp .ge 12, 3, (0, 0, [])),
  (38, .aload_n 3, 1, (0, 0, [])),
  (39, .getfield 166, 3, (2, 0, [5])),
  (42, .iload_n 2, 1, (0, 0, [])),
  (43, .laload, 1, (0, 0, [])),
  (44, .goto 11, 3, (0, 0, [])),
  (47, .aload_n 3, 1, (0, 0, [])),
  (48, .getfield 160, 3, (3, 0, [5])),
  (51, .iload_n 2, 1, (0, 0, [])),
  (52, .iconst 4, 1, (0, 0, [])),
  (53, .isub, 1, (0, 0, [])),
  (54, .laload, 1, (0, 0, [])),
  (55, .lreturn, 1, (0, 0, []))], 8, 135)
def zm_X9_agrees : zM := (yX9_agrees, cX9_agrees, 7, (some .boolean), [], [], [(0, .aload_n 0, 1, (0, 0, [])),
  (1, .iload_n 1, 1, (0, 0, [])),
  (2, .invokevirtual 131, 3, (91, 0, [1, 8])),
  (5, .getfield 137, 3, (3, 0, [6])),
  (8, .astore_n 3, 1, (0, 0, [])),
  (9, .aload_n 0, 1, (0, 0, [])),
  (10, .iload_n 2, 1, (0, 0, [])),
  (11, .invokevirtual 84, 3, (89, 0, [1, 8])),
  (14, .astore 4, 2, (0, 0, [])),
  (16, .aload_n 3, 1, (0, 0, [])),
  (17, .getfield 147, 3, (5, 0, [5])),
  (20, .aload 4, 2, (0, 0, [])),
  (22, .getfield 147, 3, (5, 0, [5])),
  (25, .isub, 1, (0, 0, [])),
  (26, .istore 5, 2, (0, 0, [])),
  (28, .iconst 0, 1, (0, 0, [])),
  (29, .istore 6, 2, (0, 0, [])),
  (31, .iload 6, 2, (0, 0, [])),
  (33, .iload 5, 2, (0, 0, [])),
  (35, .if_icmp .ge 22, 3, (0, 0, [])),
  (38, .aload 4, 2, (0, 0, [])),
  (40, .getfield 90, 3, (6, 0, [5])),
  (43, .ifCond .ne 14, 3, (0, 0, [])),
  (46, .aload 4, 2, (0, 0, [])),
  (48, .invokevirtual 94, 3, (38, 0, [0, 5])),
  (51, .iinc 6 1, 3, (0, 0, [])),
  (54, .goto (-23), 3, (0, 0, [])),
  (57, .aload 4, 2, (0, 0, [])),
  (59, .aload_n 3, 1, (0, 0, [])),
  (60, .invokevirtual 169, 3, (40, 0, [1, 5])),
  (63, .ireturn, 1, (0, 0, []))], 8, 135)
def zm_X9_pair : zM := (yX9_pair, cX9_pair, 6, (some .int), [], [], [(0, .aload_n 0, 1, (0, 0, [])),
  (1, .iload_n 1, 1, (0, 0, [])),
  (2, .invokevirtual 44, 3, (88, 0, [1, 8])),
  (5, .astore 4, 2, (0, 0, [])),
  (7, .aload_n 0, 1, (0, 0, [])),
  (8, .iload_n 2, 1, (0, 0, [])),
  (9, .invokevirtual 44, 3, (88, 0, [1, 8])),
  (12, .astore 5, 2, (0, 0, [])),
  (14, .aload_n 0, 1, (0, 0, [])),
  (15, .aload 4, 2, (0, 0, [])),
  (17, .getfield 121, 3, (1, 0, [4])),
  (20, .aload 5, 2, (0, 0, [])),
  (22, .getfield 121, 3, (1, 0, [4])),
  (25, .invokevirtual 122, 3, (82, 0, [2, 8])),
  (28, .aload_n 0, 1, (0, 0, [])),
  (29, .aload 4, 2, (0, 0, [])),
  (31, .invokevirtual 76, 3, (83, 0, [1, 8])),
  (34, .aload_n 0, 1, (0, 0, [])),
  (35, .aload 5, 2, (0, 0, [])),
  (37, .invokevirtual 76, 3, (83, 0, [1, 8])),
  (40, .iload_n 3, 1, (0, 0, [])),
  (41, .iconst 0, 1, (0, 0, [])),
  (42, .iconst 1, 1, (0, 0, [])),
  (43, .invokestatic 15, 3, (76, 2, [3])),
  (46, .ifCond .eq 13, 3, (0, 0, [])),
  (49, .new 19, 3, (101, 173, [23, 0])),
  (59, .aload_n 0, 1, (0, 0, [])),
  (60, .new 175, 3, (3, 0, [])),
  (63, .dup, 1, (0, 0, [])),
  (64, .aload 4, 2, (0, 0, [])),
  (66, .aload 5, 2, (0, 0, [])),
  (68, .iload_n 3, 1, (0, 0, [])),
  (69, .iconst 1, 1, (0, 0, [])),
  (70, .if_icmp .ne 7, 3, (0, 0, [])),
  (73, .iconst 1, 1, (0, 0, [])),
  (74, .goto 4, 3, (0, 0, [])),
  (77, .iconst 0, 1, (0, 0, [])),
  (78, .invokespecial 177, 3, (26, 3, [3])),
  (81, .invokevirtual 31, 3, (79, 0, [1, 8])),
  (84, .ireturn, 1, (0, 0, []))], 8, 135)
def zm_X9_explore : zM := (yX9_explore, cX9_explore, 4, (some .int), [], [], [(0, .aload_n 0, 1, (0, 0, [])),
  (1, .iload_n 1, 1, (0, 0, [])),
  (2, .invokevirtual 180, 3, (92, 0, [1, 8])),
  (5, .astore_n 3, 1, (0, 0, [])),
  (6, .iload_n 2, 1, (0, 0, [])),
  (7, .iconst 0, 1, (0, 0, [])),
  (8, .iconst 2, 1, (0, 0, [])),
  (9, .invokestatic 15, 3, (76, 2, [3])),
  (12, .ifCond .eq 13, 3, (0, 0, [])),
  (15, .new 19, 3, (101, 158, [23, 0])),
  (25, .aload_n 0, 1, (0, 0, [])),
  (26, .aload_n 3, 1, (0, 0, [])),
  (27, .invokevirtual 184, 3, (84, 0, [1, 8])),
  (30, .iload_n 2, 1, (0, 0, [])),
  (31, .ifCond .ne 8, 3, (0, 0, [])),
  (34, .aload_n 3, 1, (0, 0, [])),
  (35, .getfield 188, 3, (6, 0, [3])),
  (38, .ireturn, 1, (0, 0, [])),
  (39, .iload_n 2, 1, (0, 0, [])),
  (40, .iconst 1, 1, (0, 0, [])),
  (41, .if_icmp .ne 10, 3, (0, 0, [])),
  (44, .aload_n 3, 1, (0, 0, [])),
  (45, .getfield 191, 3, (7, 0, [3])),
  (48, .goto 7, 3, (0, 0, [])),
  (51, .aload_n 3, 1, (0, 0, [])),
  (52, .getfield 194, 3, (8, 0, [3])),
  (55, .ireturn, 1, (0, 0, []))], 8, 165)
def zm_X9_end : zM := (yX9_end, cX9_end, 5, (some .long), [], [], [(0, .aload_n 0, 1, (0, 0, [])),
  (1, .iload_n 1, 1, (0, 0, [])),
  (2, .invokevirtual 180, 3, (92, 0, [1, 8])),
  (5, .astore 4, 2, (0, 0, [])),
  (7, .iload_n 3, 1, (0, 0, [])),
  (8, .iconst 0, 1, (0, 0, [])),
  (9, .aload 4, 2, (0, 0, [])),
  (11, .invokevirtual 197, 3, (29, 0, [0, 3])),
  (14, .iconst 1, 1, (0, 0, [])),
  (15, .isub, 1, (0, 0, [])),
  (16, .invokestatic 15, 3, (76, 2, [3])),
  (19, .ifCond .eq 13, 3, (0, 0, [])),
  (22, .new 19, 3, (101, 164, [23, 0])),
  (32, .aload_n 0, 1, (0, 0, [])),
  (33, .aload 4, 2, (0, 0, [])),
  (35, .invokevirtual 184, 3, (84, 0, [1, 8])),
  (38, .iload_n 2, 1, (0, 0, [])),
  (39, .iconst 0, 1, (0, 0, [])),
  (40, .aload 4, 2, (0, 0, [])),
  (42, .getfield 191, 3, (7, 0, [3])),
  (45, .iconst 1, 1, (0, 0, [])),
  (46, .isub, 1, (0, 0, [])),
  (47, .invokestatic 15, 3, (76, 2, [3])),
  (50, .ifCond .eq 13, 3, (0, 0, [])),
  (53, .new 201, 3, (103, 203, [205, 0])),
  (63, .aload 4, 2, (0, 0, [])),
  (65, .getfield 206, 3, (9, 0, [3])),
  (68, .iload_n 2, 1, (0, 0, [])),
  (69, .aload 4, 2, (0, 0, [])),
  (71, .invokevirtual 197, 3, (29, 0, [0, 3])),
  (74, .imul, 1, (0, 0, [])),
  (75, .iload_n 3, 1, (0, 0, [])),
  (76, .iadd, 1, (0, 0, [])),
  (77, .laload, 1, (0, 0, [])),
  (78, .lreturn, 1, (0, 0, []))], 8, 165)
def zm_X9_drop : zM := (yX9_drop, cX9_drop, 3, (some .int), [], [], [(0, .aload_n 0, 1, (0, 0, [])),
  (1, .iload_n 1, 1, (0, 0, [])),
  (2, .invokevirtual 209, 3, (86, 0, [1, 8])),
  (5, .astore_n 2, 1, (0, 0, [])),
  (6, .aload_n 0, 1, (0, 0, [])),
  (7, .aload_n 2, 1, (0, 0, [])),
  (8, .invokevirtual 48, 3, (81, 0, [1, 8])),
  (11, .aload_n 0, 1, (0, 0, [])),
  (12, .getfield 11, 3, (0, 0, [8])),
  (15, .iload_n 1, 1, (0, 0, [])),
  (16, .aconst_null, 1, (0, 0, [])),
  (17, .aastore, 1, (0, 0, [])),
  (18, .aload_n 2, 1, (0, 0, [])),
  (19, .getfield 212, 3, (0, 0, [0, 2, 3, 4, 5, 6])),
  (22, .ireturn, 1, (0, 0, []))], 8, 136)
def zm_X9_kind : zM := (yX9_kind, cX9_kind, 3, (some .int), [], [], [(0, .aload_n 0, 1, (0, 0, [])),
  (1, .iload_n 1, 1, (0, 0, [])),
  (2, .invokevirtual 150, 3, (85, 0, [1, 8])),
  (5, .astore_n 2, 1, (0, 0, [])),
  (6, .aload_n 2, 1, (0, 0, [])),
  (7, .ifnonnull 7, 3, (0, 0, [])),
  (10, .iconst 0, 1, (0, 0, [])),
  (11, .goto 7, 3, (0, 0, [])),
  (14, .aload_n 2, 1, (0, 0, [])),
  (15, .getfield 212, 3, (0, 0, [0, 2, 3, 4, 5, 6])),
  (18, .ireturn, 1, (0, 0, []))], 2, 43)
def zm_X9_rule : zM := (yX9_rule, cX9_rule, 1, (some .int), [], [], [(0, .aload_n 0, 1, (0, 0, [])),
  (1, .getfield 215, 3, (2, 0, [8])),
  (4, .ireturn, 1, (0, 0, []))], 0, 0)
def zm_X9_count : zM := (yX9_count, cX9_count, 7, (some .int), [], [], [(0, .iload_n 1, 1, (0, 0, [])),
  (1, .iconst 0, 1, (0, 0, [])),
  (2, .bipush 7, 2, (0, 0, [])),
  (4, .invokestatic 15, 3, (76, 2, [3])),
  (7, .ifCond .eq 5, 3, (0, 0, [])),
  (10, .iconst (-1), 1, (0, 0, [])),
  (11, .ireturn, 1, (0, 0, [])),
  (12, .iload_n 1, 1, (0, 0, [])),
  (13, .ifCond .ne 8, 3, (0, 0, [])),
  (16, .aload_n 0, 1, (0, 0, [])),
  (17, .getfield 218, 3, (1, 0, [8])),
  (20, .ireturn, 1, (0, 0, [])),
  (21, .iconst 0, 1, (0, 0, [])),
  (22, .istore_n 2, 1, (0, 0, [])),
  (23, .aload_n 0, 1, (0, 0, [])),
  (24, .getfield 11, 3, (0, 0, [8])),
  (27, .astore_n 3, 1, (0, 0, [])),
  (28, .aload_n 3, 1, (0, 0, [])),
  (29, .arraylength, 1, (0, 0, [])),
  (30, .istore 4, 2, (0, 0, [])),
  (32, .iconst 0, 1, (0, 0, [])),
  (33, .istore 5, 2, (0, 0, [])),
  (35, .iload 5, 2, (0, 0, [])),
  (37, .iload 4, 2, (0, 0, [])),
  (39, .if_icmp .ge 39, 3, (0, 0, [])),
  (42, .aload_n 3, 1, (0, 0, [])),
  (43, .iload 5, 2, (0, 0, [])),
  (45, .aaload, 1, (0, 0, [])),
  (46, .astore 6, 2, (0, 0, [])),
  (48, .aload 6, 2, (0, 0, [])),
  (50, .ifnull 22, 3, (0, 0, [])),
  (53, .iload_n 1, 1, (0, 0, [])),
  (54, .iconst 1, 1, (0, 0, [])),
  (55, .if_icmp .eq 14, 3, (0, 0, [])),
  (58, .aload 6, 2, (0, 0, [])),
  (60, .getfield 212, 3, (0, 0, [0, 2, 3, 4, 5, 6])),
  (63, .iload_n 1, 1, (0, 0, [])),
  (64, .iconst 1, 1, (0, 0, [])),
  (65, .isub, 1, (0, 0, [])),
  (66, .if_icmp .ne 6, 3, (0, 0, [])),
  (69, .iinc 2 1, 3, (0, 0, [])),
  (72, .iinc 5 1, 3, (0, 0, [])),
  (75, .goto (-40), 3, (0, 0, [])),
  (78, .iload_n 2, 1, (0, 0, [])),
  (79, .ireturn, 1, (0, 0, []))], 1, 22)
def zm_X9_outside : zM := (yX9_outside, cX9_outside, 3, (some .boolean), [], [], [(0, .iload_n 0, 1, (0, 0, [])),
  (1, .iload_n 1, 1, (0, 0, [])),
  (2, .if_icmp .lt 8, 3, (0, 0, [])),
  (5, .iload_n 0, 1, (0, 0, [])),
  (6, .iload_n 2, 1, (0, 0, [])),
  (7, .if_icmp .le 7, 3, (0, 0, [])),
  (10, .iconst 1, 1, (0, 0, [])),
  (11, .goto 4, 3, (0, 0, [])),
  (14, .iconst 0, 1, (0, 0, [])),
  (15, .ireturn, 1, (0, 0, []))], 0, 0)
def zm_X9_noRegister : zM := (yX9_noRegister, cX9_noRegister, 1, (some .boolean), [], [], [(0, .iload_n 0, 1, (0, 0, [])),
  (1, .iconst 0, 1, (0, 0, [])),
  (2, .iconst 3, 1, (0, 0, [])),
  (3, .invokestatic 15, 3, (76, 2, [3])),
  (6, .ireturn, 1, (0, 0, []))], 1, 22)
def zm_X9_noCore : zM := (yX9_noCore, cX9_noCore, 4, (some .boolean), [], [], [(0, .iload_n 0, 1, (0, 0, [])),
  (1, .iconst 1, 1, (0, 0, [])),
  (2, .bipush 8, 2, (0, 0, [])),
  (4, .invokestatic 15, 3, (76, 2, [3])),
  (7, .ifCond .ne 33, 3, (0, 0, [])),
  (10, .iload_n 1, 1, (0, 0, [])),
  (11, .iconst 0, 1, (0, 0, [])),
  (12, .bipush 8, 2, (0, 0, [])),
  (14, .invokestatic 15, 3, (76, 2, [3])),
  (17, .ifCond .ne 23, 3, (0, 0, [])),
  (20, .iload_n 2, 1, (0, 0, [])),
  (21, .iconst 0, 1, (0, 0, [])),
  (22, .bipush 8, 2, (0, 0, [])),
  (24, .invokestatic 15, 3, (76, 2, [3])),
  (27, .ifCond .ne 13, 3, (0, 0, [])),
  (30, .iload_n 3, 1, (0, 0, [])),
  (31, .iconst 0, 1, (0, 0, [])),
  (32, .bipush 8, 2, (0, 0, [])),
  (34, .invokestatic 15, 3, (76, 2, [3])),
  (37, .ifCond .eq 7, 3, (0, 0, [])),
  (40, .iconst 1, 1, (0, 0, [])),
  (41, .goto 4, 3, (0, 0, [])),
  (44, .iconst 0, 1, (0, 0, [])),
  (45, .ireturn, 1, (0, 0, []))], 1, 22)
def zm_X9_admit : zM := (yX9_admit, cX9_admit, 2, (some .int), [], [], [(0, .aload_n 0, 1, (0, 0, [])),
  (1, .getfield 218, 3, (1, 0, [8])),
  (4, .bipush 60, 2, (0, 0, [])),
  (6, .if_icmp .lt 9, 3, (0, 0, [])),
  (9, .aload_n 0, 1, (0, 0, [])),
  (10, .bipush 6, 2, (0, 0, [])),
  (12, .invokevirtual 221, 3, (80, 0, [1, 8])),
  (15, .aload_n 0, 1, (0, 0, [])),
  (16, .dup, 1, (0, 0, [])),
  (17, .getfield 218, 3, (1, 0, [8])),
  (20, .iconst 1, 1, (0, 0, [])),
  (21, .iadd, 1, (0, 0, [])),
  (22, .putfield 218, 3, (1, 0, [8])),
  (25, .aload_n 0, 1, (0, 0, [])),
  (26, .getfield 11, 3, (0, 0, [8])),
  (29, .aload_n 0, 1, (0, 0, [])),
  (30, .getfield 218, 3, (1, 0, [8])),
  (33, .aload_n 1, 1, (0, 0, [])),
  (34, .aastore, 1, (0, 0, [])),
  (35, .aload_n 0, 1, (0, 0, [])),
  (36, .getfield 218, 3, (1, 0, [8])),
  (39, .ireturn, 1, (0, 0, []))], 7, 111)
def zm_X9_refuse : zM := (yX9_refuse, cX9_refuse, 2, none, [], [], [(0, .aload_n 0, 1, (0, 0, [])),
  (1, .iload_n 1, 1, (0, 0, [])),
  (2, .putfield 215, 3, (2, 0, [8])),
  (5, .new 225, 3, (100, 227, [229, 0]))], 6, 90)
def zm_X9_refuseIfUsed : zM := (yX9_refuseIfUsed, cX9_refuseIfUsed, 6, none, [], [], [(0, .aload_n 0, 1, (0, 0, [])),
  (1, .getfield 11, 3, (0, 0, [8])),
  (4, .astore_n 2, 1, (0, 0, [])),
  (5, .aload_n 2, 1, (0, 0, [])),
  (6, .arraylength, 1, (0, 0, [])),
  (7, .istore_n 3, 1, (0, 0, [])),
  (8, .iconst 0, 1, (0, 0, [])),
  (9, .istore 4, 2, (0, 0, [])),
  (11, .iload 4, 2, (0, 0, [])),
  (13, .iload_n 3, 1, (0, 0, [])),
  (14, .if_icmp .ge 34, 3, (0, 0, [])),
  (17, .aload_n 2, 1, (0, 0, [])),
  (18, .iload 4, 2, (0, 0, [])),
  (20, .aaload, 1, (0, 0, [])),
  (21, .astore 5, 2, (0, 0, [])),
  (23, .aload 5, 2, (0, 0, [])),
  (25, .ifnull 17, 3, (0, 0, [])),
  (28, .aload 5, 2, (0, 0, [])),
  (30, .aload_n 1, 1, (0, 0, [])),
  (31, .invokevirtual 230, 3, (0, 1, [1, 1, 0, 23, 27, 31, 36, 43])),
  (34, .ifCond .eq 8, 3, (0, 0, [])),
  (37, .aload_n 0, 1, (0, 0, [])),
  (38, .iconst 3, 1, (0, 0, [])),
  (39, .invokevirtual 221, 3, (80, 0, [1, 8])),
  (42, .iinc 4 1, 3, (0, 0, [])),
  (45, .goto (-34), 3, (0, 0, [])),
  (48, .return_, 1, (0, 0, []))], 7, 111)
def zm_X9_refuseIfApart : zM := (yX9_refuseIfApart, cX9_refuseIfApart, 3, none, [], [], [(0, .aload_n 1, 1, (0, 0, [])),
  (1, .aload_n 2, 1, (0, 0, [])),
  (2, .if_acmp .eq 8, 3, (0, 0, [])),
  (5, .aload_n 0, 1, (0, 0, [])),
  (6, .iconst 4, 1, (0, 0, [])),
  (7, .invokevirtual 221, 3, (80, 0, [1, 8])),
  (10, .return_, 1, (0, 0, []))], 7, 111)
def zm_X9_refuseIfEmpty : zM := (yX9_refuseIfEmpty, cX9_refuseIfEmpty, 2, none, [], [], [(0, .aload_n 1, 1, (0, 0, [])),
  (1, .getfield 58, 3, (3, 0, [4])),
  (4, .ifCond .ne 8, 3, (0, 0, [])),
  (7, .aload_n 0, 1, (0, 0, [])),
  (8, .iconst 5, 1, (0, 0, [])),
  (9, .invokevirtual 221, 3, (80, 0, [1, 8])),
  (12, .return_, 1, (0, 0, []))], 7, 111)
def zm_X9_refuseIfTooLarge : zM := (yX9_refuseIfTooLarge, cX9_refuseIfTooLarge, 2, none, [], [], [(0, .aload_n 1, 1, (0, 0, [])),
  (1, .getfield 234, 3, (4, 0, [3])),
  (4, .ifCond .ne 29, 3, (0, 0, [])),
  (7, .aload_n 0, 1, (0, 0, [])),
  (8, .getfield 237, 3, (3, 0, [8])),
  (11, .ifnonnull 14, 3, (0, 0, [])),
  (14, .aload_n 0, 1, (0, 0, [])),
  (15, .new 241, 3, (1, 0, [])),
  (18, .dup, 1, (0, 0, [])),
  (19, .invokespecial 243, 3, (3, 5, [0])),
  (22, .putfield 237, 3, (3, 0, [8])),
  (25, .aload_n 0, 1, (0, 0, [])),
  (26, .getfield 237, 3, (3, 0, [8])),
  (29, .aload_n 1, 1, (0, 0, [])),
  (30, .invokevirtual 244, 3, (4, 0, [1, 1])),
  (33, .aload_n 1, 1, (0, 0, [])),
  (34, .getfield 247, 3, (5, 0, [3])),
  (37, .ifCond .eq 9, 3, (0, 0, [])),
  (40, .aload_n 0, 1, (0, 0, [])),
  (41, .bipush 7, 2, (0, 0, [])),
  (43, .invokevirtual 221, 3, (80, 0, [1, 8])),
  (46, .return_, 1, (0, 0, []))], 7, 144)
def zm_X9_thingAt : zM := (yX9_thingAt, cX9_thingAt, 2, (some (.object "ProcessorHouse$Thing")), [], [], [(0, .iload_n 1, 1, (0, 0, [])),
  (1, .iconst 1, 1, (0, 0, [])),
  (2, .bipush 60, 2, (0, 0, [])),
  (4, .invokestatic 15, 3, (76, 2, [3])),
  (7, .ifCond .eq 7, 3, (0, 0, [])),
  (10, .aconst_null, 1, (0, 0, [])),
  (11, .goto 9, 3, (0, 0, [])),
  (14, .aload_n 0, 1, (0, 0, [])),
  (15, .getfield 11, 3, (0, 0, [8])),
  (18, .iload_n 1, 1, (0, 0, [])),
  (19, .aaload, 1, (0, 0, [])),
  (20, .areturn, 1, (0, 0, []))], 1, 22)
def zm_X9_livingAt : zM := (yX9_livingAt, cX9_livingAt, 3, (some (.object "ProcessorHouse$Thing")), [], [], [(0, .aload_n 0, 1, (0, 0, [])),
  (1, .iload_n 1, 1, (0, 0, [])),
  (2, .invokevirtual 150, 3, (85, 0, [1, 8])),
  (5, .astore_n 2, 1, (0, 0, [])),
  (6, .aload_n 2, 1, (0, 0, [])),
  (7, .ifnonnull 18, 3, (0, 0, [])),
  (10, .aload_n 0, 1, (0, 0, [])),
  (11, .iconst 1, 1, (0, 0, [])),
  (12, .putfield 215, 3, (2, 0, [8])),
  (15, .new 225, 3, (100, 250, [229, 0])),
  (25, .aload_n 2, 1, (0, 0, [])),
  (26, .areturn, 1, (0, 0, []))], 6, 90)
def zm_X9_machineAt : zM := (yX9_machineAt, cX9_machineAt, 4, (some (.object "ProcessorHouse$Machine")), [], [], [(0, .aload_n 0, 1, (0, 0, [])),
  (1, .iload_n 1, 1, (0, 0, [])),
  (2, .invokevirtual 209, 3, (86, 0, [1, 8])),
  (5, .astore_n 3, 1, (0, 0, [])),
  (6, .aload_n 3, 1, (0, 0, [])),
  (7, .instanceof 26, 3, (2, 0, [])),
  (10, .ifCond .eq 10, 3, (0, 0, [])),
  (13, .aload_n 3, 1, (0, 0, [])),
  (14, .checkcast 26, 3, (2, 0, [])),
  (17, .astore_n 2, 1, (0, 0, [])),
  (18, .aload_n 2, 1, (0, 0, [])),
  (19, .areturn, 1, (0, 0, [])),
  (20, .aload_n 0, 1, (0, 0, [])),
  (21, .iconst 2, 1, (0, 0, [])),
  (22, .putfield 215, 3, (2, 0, [8])),
  (25, .new 225, 3, (100, 252, [229, 0]))], 7, 112)
def zm_X9_programAt : zM := (yX9_programAt, cX9_programAt, 4, (some (.object "ProcessorHouse$Program")), [], [], [(0, .aload_n 0, 1, (0, 0, [])),
  (1, .iload_n 1, 1, (0, 0, [])),
  (2, .invokevirtual 209, 3, (86, 0, [1, 8])),
  (5, .astore_n 3, 1, (0, 0, [])),
  (6, .aload_n 3, 1, (0, 0, [])),
  (7, .instanceof 35, 3, (4, 0, [])),
  (10, .ifCond .eq 10, 3, (0, 0, [])),
  (13, .aload_n 3, 1, (0, 0, [])),
  (14, .checkcast 35, 3, (4, 0, [])),
  (17, .astore_n 2, 1, (0, 0, [])),
  (18, .aload_n 2, 1, (0, 0, [])),
  (19, .areturn, 1, (0, 0, [])),
  (20, .aload_n 0, 1, (0, 0, [])),
  (21, .iconst 2, 1, (0, 0, [])),
  (22, .putfield 215, 3, (2, 0, [8])),
  (25, .new 225, 3, (100, 254, [229, 0]))], 7, 112)
def zm_X9_runAt : zM := (yX9_runAt, cX9_runAt, 4, (some (.object "ProcessorHouse$Run")), [], [], [(0, .aload_n 0, 1, (0, 0, [])),
  (1, .iload_n 1, 1, (0, 0, [])),
  (2, .invokevirtual 209, 3, (86, 0, [1, 8])),
  (5, .astore_n 3, 1, (0, 0, [])),
  (6, .aload_n 3, 1, (0, 0, [])),
  (7, .instanceof 80, 3, (5, 0, [])),
  (10, .ifCond .eq 10, 3, (0, 0, [])),
  (13, .aload_n 3, 1, (0, 0, [])),
  (14, .checkcast 80, 3, (5, 0, [])),
  (17, .astore_n 2, 1, (0, 0, [])),
  (18, .aload_n 2, 1, (0, 0, [])),
  (19, .areturn, 1, (0, 0, [])),
  (20, .aload_n 0, 1, (0, 0, [])),
  (21, .iconst 2, 1, (0, 0, [])),
  (22, .putfield 215, 3, (2, 0, [8])),
  (25, .new 225, 3, (100, 256, [229, 1]))], 7, 112)
def zm_X9_coreAt : zM := (yX9_coreAt, cX9_coreAt, 4, (some (.object "ProcessorHouse$Core")), [], [], [(0, .aload_n 0, 1, (0, 0, [])),
  (1, .iload_n 1, 1, (0, 0, [])),
  (2, .invokevirtual 209, 3, (86, 0, [1, 8])),
  (5, .astore_n 3, 1, (0, 0, [])),
  (6, .aload_n 3, 1, (0, 0, [])),
  (7, .instanceof 103, 3, (0, 0, [])),
  (10, .ifCond .eq 10, 3, (0, 0, [])),
  (13, .aload_n 3, 1, (0, 0, [])),
  (14, .checkcast 103, 3, (0, 0, [])),
  (17, .astore_n 2, 1, (0, 0, [])),
  (18, .aload_n 2, 1, (0, 0, [])),
  (19, .areturn, 1, (0, 0, [])),
  (20, .aload_n 0, 1, (0, 0, [])),
  (21, .iconst 2, 1, (0, 0, [])),
  (22, .putfield 215, 3, (2, 0, [8])),
  (25, .new 225, 3, (100, 258, [229, 1]))], 7, 112)
def zm_X9_simAt : zM := (yX9_simAt, cX9_simAt, 4, (some (.object "ProcessorHouse$Sim")), [], [], [(0, .aload_n 0, 1, (0, 0, [])),
  (1, .iload_n 1, 1, (0, 0, [])),
  (2, .invokevirtual 209, 3, (86, 0, [1, 8])),
  (5, .astore_n 3, 1, (0, 0, [])),
  (6, .aload_n 3, 1, (0, 0, [])),
  (7, .instanceof 126, 3, (6, 0, [])),
  (10, .ifCond .eq 10, 3, (0, 0, [])),
  (13, .aload_n 3, 1, (0, 0, [])),
  (14, .checkcast 126, 3, (6, 0, [])),
  (17, .astore_n 2, 1, (0, 0, [])),
  (18, .aload_n 2, 1, (0, 0, [])),
  (19, .areturn, 1, (0, 0, [])),
  (20, .aload_n 0, 1, (0, 0, [])),
  (21, .iconst 2, 1, (0, 0, [])),
  (22, .putfield 215, 3, (2, 0, [8])),
  (25, .new 225, 3, (100, 260, [229, 1]))], 7, 112)
def zm_X9_pairAt : zM := (yX9_pairAt, cX9_pairAt, 4, (some (.object "ProcessorHouse$Pair")), [], [], [(0, .aload_n 0, 1, (0, 0, [])),
  (1, .iload_n 1, 1, (0, 0, [])),
  (2, .invokevirtual 209, 3, (86, 0, [1, 8])),
  (5, .astore_n 3, 1, (0, 0, [])),
  (6, .aload_n 3, 1, (0, 0, [])),
  (7, .instanceof 175, 3, (3, 0, [])),
  (10, .ifCond .eq 10, 3, (0, 0, [])),
  (13, .aload_n 3, 1, (0, 0, [])),
  (14, .checkcast 175, 3, (3, 0, [])),
  (17, .astore_n 2, 1, (0, 0, [])),
  (18, .aload_n 2, 1, (0, 0, [])),
  (19, .areturn, 1, (0, 0, [])),
  (20, .aload_n 0, 1, (0, 0, [])),
  (21, .iconst 2, 1, (0, 0, [])),
  (22, .putfield 215, 3, (2, 0, [8])),
  (25, .new 225, 3, (100, 262, [229, 1]))], 7, 112)
def zm_X9_shownAt : zM := (yX9_shownAt, cX9_shownAt, 4, (some (.object "ProcessorHouse$Run")), [], [], [(0, .aload_n 0, 1, (0, 0, [])),
  (1, .iload_n 1, 1, (0, 0, [])),
  (2, .invokevirtual 209, 3, (86, 0, [1, 8])),
  (5, .astore_n 2, 1, (0, 0, [])),
  (6, .aload_n 2, 1, (0, 0, [])),
  (7, .instanceof 80, 3, (5, 0, [])),
  (10, .ifCond .eq 10, 3, (0, 0, [])),
  (13, .aload_n 2, 1, (0, 0, [])),
  (14, .checkcast 80, 3, (5, 0, [])),
  (17, .astore_n 3, 1, (0, 0, [])),
  (18, .aload_n 3, 1, (0, 0, [])),
  (19, .areturn, 1, (0, 0, [])),
  (20, .aload_n 2, 1, (0, 0, [])),
  (21, .instanceof 126, 3, (6, 0, [])),
  (24, .ifCond .eq 13, 3, (0, 0, [])),
  (27, .aload_n 2, 1, (0, 0, [])),
  (28, .checkcast 126, 3, (6, 0, [])),
  (31, .astore_n 3, 1, (0, 0, [])),
  (32, .aload_n 3, 1, (0, 0, [])),
  (33, .getfield 137, 3, (3, 0, [6])),
  (36, .areturn, 1, (0, 0, [])),
  (37, .aload_n 0, 1, (0, 0, [])),
  (38, .iconst 2, 1, (0, 0, [])),
  (39, .putfield 215, 3, (2, 0, [8])),
  (42, .new 225, 3, (100, 264, [229, 1]))], 7, 112)
def zm_X10_init : zM := (yX10_init, cX10_init, 1, none, [], [], [(0, .aload_n 0, 1, (0, 0, [])),
  (1, .invokespecial 1, 3, (0, 7, [])),
  (4, .aload_n 0, 1, (0, 0, [])),
  (5, .bipush 61, 2, (0, 0, [])),
  (7, .newarray .int, 2, (0, 0, [])),
  (9, .putfield 7, 3, (3, 0, [9])),
  (12, .aload_n 0, 1, (0, 0, [])),
  (13, .bipush 61, 2, (0, 0, [])),
  (15, .newarray .boolean, 2, (0, 0, [])),
  (17, .putfield 13, 3, (4, 0, [9])),
  (20, .aload_n 0, 1, (0, 0, [])),
  (21, .bipush 61, 2, (0, 0, [])),
  (23, .newarray .int, 2, (0, 0, [])),
  (25, .putfield 17, 3, (5, 0, [9])),
  (28, .aload_n 0, 1, (0, 0, [])),
  (29, .bipush 61, 2, (0, 0, [])),
  (31, .newarray .int, 2, (0, 0, [])),
  (33, .putfield 20, 3, (6, 0, [9])),
  (36, .aload_n 0, 1, (0, 0, [])),
  (37, .bipush 61, 2, (0, 0, [])),
  (39, .newarray .int, 2, (0, 0, [])),
  (41, .putfield 23, 3, (7, 0, [9])),
  (44, .aload_n 0, 1, (0, 0, [])),
  (45, .bipush 61, 2, (0, 0, [])),
  (47, .newarray .int, 2, (0, 0, [])),
  (49, .putfield 26, 3, (8, 0, [9])),
  (52, .aload_n 0, 1, (0, 0, [])),
  (53, .bipush 61, 2, (0, 0, [])),
  (55, .newarray .int, 2, (0, 0, [])),
  (57, .putfield 29, 3, (9, 0, [9])),
  (60, .aload_n 0, 1, (0, 0, [])),
  (61, .bipush 61, 2, (0, 0, [])),
  (63, .newarray .int, 2, (0, 0, [])),
  (65, .putfield 32, 3, (10, 0, [9])),
  (68, .aload_n 0, 1, (0, 0, [])),
  (69, .bipush 61, 2, (0, 0, [])),
  (71, .newarray .int, 2, (0, 0, [])),
  (73, .putfield 35, 3, (11, 0, [9])),
  (76, .aload_n 0, 1, (0, 0, [])),
  (77, .bipush 61, 2, (0, 0, [])),
  (79, .newarray .int, 2, (0, 0, [])),
  (81, .putfield 38, 3, (12, 0, [9])),
  (84, .aload_n 0, 1, (0, 0, [])),
  (85, .bipush 61, 2, (0, 0, [])),
  (87, .newarray .int, 2, (0, 0, [])),
  (89, .putfield 41, 3, (13, 0, [9])),
  (92, .aload_n 0, 1, (0, 0, [])),
  (93, .sipush 1464, 3, (0, 0, [])),
  (96, .newarray .int, 2, (0, 0, [])),
  (98, .putfield 44, 3, (14, 0, [9])),
  (101, .aload_n 0, 1, (0, 0, [])),
  (102, .sipush 1464, 3, (0, 0, [])),
  (105, .newarray .int, 2, (0, 0, [])),
  (107, .putfield 47, 3, (15, 0, [9])),
  (110, .aload_n 0, 1, (0, 0, [])),
  (111, .sipush 1464, 3, (0, 0, [])),
  (114, .newarray .int, 2, (0, 0, [])),
  (116, .putfield 50, 3, (16, 0, [9])),
  (119, .aload_n 0, 1, (0, 0, [])),
  (120, .sipush 1464, 3, (0, 0, [])),
  (123, .newarray .int, 2, (0, 0, [])),
  (125, .putfield 53, 3, (17, 0, [9])),
  (128, .aload_n 0, 1, (0, 0, [])),
  (129, .sipush 1464, 3, (0, 0, [])),
  (132, .newarray .int, 2, (0, 0, [])),
  (134, .putfield 56, 3, (18, 0, [9])),
  (137, .aload_n 0, 1, (0, 0, [])),
  (138, .sipush 1464, 3, (0, 0, [])),
  (141, .newarray .long, 2, (0, 0, [])),
  (143, .putfield 59, 3, (19, 0, [9])),
  (146, .aload_n 0, 1, (0, 0, [])),
  (147, .bipush 122, 2, (0, 0, [])),
  (149, .newarray .int, 2, (0, 0, [])),
  (151, .putfield 63, 3, (20, 0, [9])),
  (154, .aload_n 0, 1, (0, 0, [])),
  (155, .bipush 122, 2, (0, 0, [])),
  (157, .newarray .int, 2, (0, 0, [])),
  (159, .putfield 66, 3, (21, 0, [9])),
  (162, .aload_n 0, 1, (0, 0, [])),
  (163, .bipush 122, 2, (0, 0, [])),
  (165, .newarray .boolean, 2, (0, 0, [])),
  (167, .putfield 69, 3, (22, 0, [9])),
  (170, .aload_n 0, 1, (0, 0, [])),
  (171, .bipush 61, 2, (0, 0, [])),
  (173, .newarray .int, 2, (0, 0, [])),
  (175, .putfield 72, 3, (23, 0, [9])),
  (178, .aload_n 0, 1, (0, 0, [])),
  (179, .bipush 61, 2, (0, 0, [])),
  (181, .newarray .int, 2, (0, 0, [])),
  (183, .putfield 75, 3, (24, 0, [9])),
  (186, .aload_n 0, 1, (0, 0, [])),
  (187, .sipush 976, 3, (0, 0, [])),
  (190, .newarray .int, 2, (0, 0, [])),
  (192, .putfield 78, 3, (25, 0, [9])),
  (195, .aload_n 0, 1, (0, 0, [])),
  (196, .sipush 244, 3, (0, 0, [])),
  (199, .newarray .int, 2, (0, 0, [])),
  (201, .putfield 81, 3, (26, 0, [9])),
  (204, .aload_n 0, 1, (0, 0, [])),
  (205, .sipush 244, 3, (0, 0, [])),
  (208, .newarray .int, 2, (0, 0, [])),
  (210, .putfield 84, 3, (27, 0, [9])),
  (213, .aload_n 0, 1, (0, 0, [])),
  (214, .bipush 61, 2, (0, 0, [])),
  (216, .newarray .int, 2, (0, 0, [])),
  (218, .putfield 87, 3, (28, 0, [9])),
  (221, .aload_n 0, 1, (0, 0, [])),
  (222, .bipush 61, 2, (0, 0, [])),
  (224, .newarray .int, 2, (0, 0, [])),
  (226, .putfield 90, 3, (29, 0, [9])),
  (229, .aload_n 0, 1, (0, 0, [])),
  (230, .ldc 93, 2, (56028, 0, [])),
  (232, .newarray .long, 2, (0, 0, [])),
  (234, .putfield 94, 3, (36, 0, [9])),
  (237, .aload_n 0, 1, (0, 0, [])),
  (238, .sipush 2001, 3, (0, 0, [])),
  (241, .newarray .int, 2, (0, 0, [])),
  (243, .putfield 97, 3, (37, 0, [9])),
  (246, .aload_n 0, 1, (0, 0, [])),
  (247, .bipush 28, 2, (0, 0, [])),
  (249, .newarray .long, 2, (0, 0, [])),
  (251, .putfield 100, 3, (38, 0, [9])),
  (254, .aload_n 0, 1, (0, 0, [])),
  (255, .sipush 2003, 3, (0, 0, [])),
  (258, .newarray .int, 2, (0, 0, [])),
  (260, .putfield 103, 3, (39, 0, [9])),
  (263, .aload_n 0, 1, (0, 0, [])),
  (264, .sipush 2001, 3, (0, 0, [])),
  (267, .newarray .int, 2, (0, 0, [])),
  (269, .putfield 106, 3, (40, 0, [9])),
  (272, .aload_n 0, 1, (0, 0, [])),
  (273, .bipush 61, 2, (0, 0, [])),
  (275, .newarray .boolean, 2, (0, 0, [])),
  (277, .putfield 109, 3, (41, 0, [9])),
  (280, .return_, 1, (0, 0, []))], 1, 20)
def zm_X10_thrown : zM := (yX10_thrown, cX10_thrown, 1, (some .int), [], [], [(0, .aload_n 0, 1, (0, 0, [])),
  (1, .getfield 112, 3, (0, 0, [9])),
  (4, .ireturn, 1, (0, 0, []))], 0, 0)
def zm_X10_fail : zM := (yX10_fail, cX10_fail, 2, (some .int), [], [], [(0, .aload_n 0, 1, (0, 0, [])),
  (1, .iload_n 1, 1, (0, 0, [])),
  (2, .putfield 112, 3, (0, 0, [9])),
  (5, .iconst 0, 1, (0, 0, [])),
  (6, .ireturn, 1, (0, 0, []))], 0, 0)
def zm_X10_within : zM := (yX10_within, cX10_within, 3, (some .boolean), [], [], [(0, .iload_n 0, 1, (0, 0, [])),
  (1, .iload_n 1, 1, (0, 0, [])),
  (2, .if_icmp .lt 12, 3, (0, 0, [])),
  (5, .iload_n 0, 1, (0, 0, [])),
  (6, .iload_n 2, 1, (0, 0, [])),
  (7, .if_icmp .gt 7, 3, (0, 0, [])),
  (10, .iconst 1, 1, (0, 0, [])),
  (11, .goto 4, 3, (0, 0, [])),
  (14, .iconst 0, 1, (0, 0, [])),
  (15, .ireturn, 1, (0, 0, []))], 0, 0)
def zm_X10_refuse : zM := (yX10_refuse, cX10_refuse, 3, (some .int), [], [], [(0, .aload_n 0, 1, (0, 0, [])),
  (1, .iload_n 1, 1, (0, 0, [])),
  (2, .putfield 116, 3, (1, 0, [9])),
  (5, .aload_n 0, 1, (0, 0, [])),
  (6, .iload_n 2, 1, (0, 0, [])),
  (7, .invokevirtual 119, 3, (96, 0, [1, 9])),
  (10, .ireturn, 1, (0, 0, []))], 1, 21)
def zm_X10_isThere : zM := (yX10_isThere, cX10_isThere, 2, (some .boolean), [], [], [(0, .iload_n 1, 1, (0, 0, [])),
  (1, .iconst 1, 1, (0, 0, [])),
  (2, .aload_n 0, 1, (0, 0, [])),
  (3, .getfield 123, 3, (2, 0, [9])),
  (6, .invokestatic 126, 3, (97, 2, [3])),
  (9, .ifCond .eq 16, 3, (0, 0, [])),
  (12, .aload_n 0, 1, (0, 0, [])),
  (13, .getfield 13, 3, (4, 0, [9])),
  (16, .iload_n 1, 1, (0, 0, [])),
  (17, .baload, 1, (0, 0, [])),
  (18, .ifCond .eq 7, 3, (0, 0, [])),
  (21, .iconst 1, 1, (0, 0, [])),
  (22, .goto 4, 3, (0, 0, [])),
  (25, .iconst 0, 1, (0, 0, [])),
  (26, .ireturn, 1, (0, 0, []))], 1, 22)
def zm_X10_isOf : zM := (yX10_isOf, cX10_isOf, 5, (some .boolean), [], [], [(0, .aload_n 0, 1, (0, 0, [])),
  (1, .iconst 0, 1, (0, 0, [])),
  (2, .putfield 112, 3, (0, 0, [9])),
  (5, .aload_n 0, 1, (0, 0, [])),
  (6, .iload_n 1, 1, (0, 0, [])),
  (7, .invokevirtual 130, 3, (99, 0, [1, 9])),
  (10, .ifCond .ne 7, 3, (0, 0, [])),
  (13, .iconst 1, 1, (0, 0, [])),
  (14, .goto 18, 3, (0, 0, [])),
  (17, .aload_n 0, 1, (0, 0, [])),
  (18, .getfield 7, 3, (3, 0, [9])),
  (21, .iload_n 1, 1, (0, 0, [])),
  (22, .iaload, 1, (0, 0, [])),
  (23, .iload_n 2, 1, (0, 0, [])),
  (24, .if_icmp .eq 7, 3, (0, 0, [])),
  (27, .iconst 2, 1, (0, 0, [])),
  (28, .goto 4, 3, (0, 0, [])),
  (31, .iconst 0, 1, (0, 0, [])),
  (32, .istore 4, 2, (0, 0, [])),
  (34, .iload 4, 2, (0, 0, [])),
  (36, .ifCond .le 11, 3, (0, 0, [])),
  (39, .aload_n 0, 1, (0, 0, [])),
  (40, .iload 4, 2, (0, 0, [])),
  (42, .iload_n 3, 1, (0, 0, [])),
  (43, .invokevirtual 134, 3, (98, 0, [2, 9])),
  (46, .pop, 1, (0, 0, [])),
  (47, .iload 4, 2, (0, 0, [])),
  (49, .ifCond .ne 7, 3, (0, 0, [])),
  (52, .iconst 1, 1, (0, 0, [])),
  (53, .goto 4, 3, (0, 0, [])),
  (56, .iconst 0, 1, (0, 0, [])),
  (57, .ireturn, 1, (0, 0, []))], 2, 43)
def zm_X10_isUsed : zM := (yX10_isUsed, cX10_isUsed, 5, (some .boolean), [], [], [(0, .iconst 0, 1, (0, 0, [])),
  (1, .istore_n 2, 1, (0, 0, [])),
  (2, .iconst 1, 1, (0, 0, [])),
  (3, .istore_n 3, 1, (0, 0, [])),
  (4, .iload_n 3, 1, (0, 0, [])),
  (5, .aload_n 0, 1, (0, 0, [])),
  (6, .getfield 123, 3, (2, 0, [9])),
  (9, .if_icmp .gt 91, 3, (0, 0, [])),
  (12, .aload_n 0, 1, (0, 0, [])),
  (13, .getfield 7, 3, (3, 0, [9])),
  (16, .iload_n 3, 1, (0, 0, [])),
  (17, .iaload, 1, (0, 0, [])),
  (18, .iconst 1, 1, (0, 0, [])),
  (19, .if_icmp .eq 13, 3, (0, 0, [])),
  (22, .aload_n 0, 1, (0, 0, [])),
  (23, .getfield 17, 3, (5, 0, [9])),
  (26, .iload_n 3, 1, (0, 0, [])),
  (27, .iaload, 1, (0, 0, [])),
  (28, .iload_n 1, 1, (0, 0, [])),
  (29, .if_icmp .eq 34, 3, (0, 0, [])),
  (32, .aload_n 0, 1, (0, 0, [])),
  (33, .getfield 7, 3, (3, 0, [9])),
  (36, .iload_n 3, 1, (0, 0, [])),
  (37, .iaload, 1, (0, 0, [])),
  (38, .iconst 5, 1, (0, 0, [])),
  (39, .if_icmp .eq 14, 3, (0, 0, [])),
  (42, .aload_n 0, 1, (0, 0, [])),
  (43, .getfield 7, 3, (3, 0, [9])),
  (46, .iload_n 3, 1, (0, 0, [])),
  (47, .iaload, 1, (0, 0, [])),
  (48, .bipush 6, 2, (0, 0, [])),
  (50, .if_icmp .ne 17, 3, (0, 0, [])),
  (53, .aload_n 0, 1, (0, 0, [])),
  (54, .getfield 20, 3, (6, 0, [9])),
  (57, .iload_n 3, 1, (0, 0, [])),
  (58, .iaload, 1, (0, 0, [])),
  (59, .iload_n 1, 1, (0, 0, [])),
  (60, .if_icmp .ne 7, 3, (0, 0, [])),
  (63, .iconst 1, 1, (0, 0, [])),
  (64, .goto 4, 3, (0, 0, [])),
  (67, .iconst 0, 1, (0, 0, [])),
  (68, .istore 4, 2, (0, 0, [])),
  (70, .iload_n 2, 1, (0, 0, [])),
  (71, .ifCond .ne 17, 3, (0, 0, [])),
  (74, .aload_n 0, 1, (0, 0, [])),
  (75, .getfield 13, 3, (4, 0, [9])),
  (78, .iload_n 3, 1, (0, 0, [])),
  (79, .baload, 1, (0, 0, [])),
  (80, .ifCond .eq 12, 3, (0, 0, [])),
  (83, .iload 4, 2, (0, 0, [])),
  (85, .ifCond .eq 7, 3, (0, 0, [])),
  (88, .iconst 1, 1, (0, 0, [])),
  (89, .goto 4, 3, (0, 0, [])),
  (92, .iconst 0, 1, (0, 0, [])),
  (93, .istore_n 2, 1, (0, 0, [])),
  (94, .iinc 3 1, 3, (0, 0, [])),
  (97, .goto (-93), 3, (0, 0, [])),
  (100, .iload_n 2, 1, (0, 0, [])),
  (101, .ireturn, 1, (0, 0, []))], 0, 0)
def zm_X10_add : zM := (yX10_add, cX10_add, 4, (some .int), [], [], [(0, .aload_n 0, 1, (0, 0, [])),
  (1, .dup, 1, (0, 0, [])),
  (2, .getfield 123, 3, (2, 0, [9])),
  (5, .iconst 1, 1, (0, 0, [])),
  (6, .iadd, 1, (0, 0, [])),
  (7, .putfield 123, 3, (2, 0, [9])),
  (10, .aload_n 0, 1, (0, 0, [])),
  (11, .getfield 7, 3, (3, 0, [9])),
  (14, .aload_n 0, 1, (0, 0, [])),
  (15, .getfield 123, 3, (2, 0, [9])),
  (18, .iload_n 1, 1, (0, 0, [])),
  (19, .iastore, 1, (0, 0, [])),
  (20, .aload_n 0, 1, (0, 0, [])),
  (21, .getfield 13, 3, (4, 0, [9])),
  (24, .aload_n 0, 1, (0, 0, [])),
  (25, .getfield 123, 3, (2, 0, [9])),
  (28, .iconst 1, 1, (0, 0, [])),
  (29, .bastore, 1, (0, 0, [])),
  (30, .aload_n 0, 1, (0, 0, [])),
  (31, .getfield 17, 3, (5, 0, [9])),
  (34, .aload_n 0, 1, (0, 0, [])),
  (35, .getfield 123, 3, (2, 0, [9])),
  (38, .iload_n 2, 1, (0, 0, [])),
  (39, .iastore, 1, (0, 0, [])),
  (40, .aload_n 0, 1, (0, 0, [])),
  (41, .getfield 20, 3, (6, 0, [9])),
  (44, .aload_n 0, 1, (0, 0, [])),
  (45, .getfield 123, 3, (2, 0, [9])),
  (48, .iload_n 3, 1, (0, 0, [])),
  (49, .iastore, 1, (0, 0, [])),
  (50, .aload_n 0, 1, (0, 0, [])),
  (51, .getfield 123, 3, (2, 0, [9])),
  (54, .ireturn, 1, (0, 0, []))], 0, 0)
def zm_X10_isFull : zM := (yX10_isFull, cX10_isFull, 2, (some .boolean), [], [], [(0, .aload_n 0, 1, (0, 0, [])),
  (1, .getfield 123, 3, (2, 0, [9])),
  (4, .bipush 60, 2, (0, 0, [])),
  (6, .if_icmp .ne 11, 3, (0, 0, [])),
  (9, .aload_n 0, 1, (0, 0, [])),
  (10, .bipush 6, 2, (0, 0, [])),
  (12, .iload_n 1, 1, (0, 0, [])),
  (13, .invokevirtual 134, 3, (98, 0, [2, 9])),
  (16, .pop, 1, (0, 0, [])),
  (17, .aload_n 0, 1, (0, 0, [])),
  (18, .getfield 123, 3, (2, 0, [9])),
  (21, .bipush 60, 2, (0, 0, [])),
  (23, .if_icmp .ne 7, 3, (0, 0, [])),
  (26, .iconst 1, 1, (0, 0, [])),
  (27, .goto 4, 3, (0, 0, [])),
  (30, .iconst 0, 1, (0, 0, [])),
  (31, .ireturn, 1, (0, 0, []))], 2, 43)
def zm_X10_machine : zM := (yX10_machine, cX10_machine, 4, (some .int), [], [], [(0, .aload_n 0, 1, (0, 0, [])),
  (1, .iconst 0, 1, (0, 0, [])),
  (2, .putfield 112, 3, (0, 0, [9])),
  (5, .iload_n 1, 1, (0, 0, [])),
  (6, .iconst 1, 1, (0, 0, [])),
  (7, .bipush 32, 2, (0, 0, [])),
  (9, .invokestatic 126, 3, (97, 2, [3])),
  (12, .ifCond .eq 13, 3, (0, 0, [])),
  (15, .iload_n 2, 1, (0, 0, [])),
  (16, .iconst 1, 1, (0, 0, [])),
  (17, .bipush 8, 2, (0, 0, [])),
  (19, .invokestatic 126, 3, (97, 2, [3])),
  (22, .ifCond .ne 9, 3, (0, 0, [])),
  (25, .aload_n 0, 1, (0, 0, [])),
  (26, .iconst 1, 1, (0, 0, [])),
  (27, .invokevirtual 119, 3, (96, 0, [1, 9])),
  (30, .ireturn, 1, (0, 0, [])),
  (31, .aload_n 0, 1, (0, 0, [])),
  (32, .iconst 2, 1, (0, 0, [])),
  (33, .invokevirtual 138, 3, (103, 0, [1, 9])),
  (36, .ifCond .eq 5, 3, (0, 0, [])),
  (39, .iconst 0, 1, (0, 0, [])),
  (40, .ireturn, 1, (0, 0, [])),
  (41, .aload_n 0, 1, (0, 0, [])),
  (42, .iconst 1, 1, (0, 0, [])),
  (43, .iconst 0, 1, (0, 0, [])),
  (44, .iconst 0, 1, (0, 0, [])),
  (45, .invokevirtual 141, 3, (102, 0, [3, 9])),
  (48, .istore_n 3, 1, (0, 0, [])),
  (49, .aload_n 0, 1, (0, 0, [])),
  (50, .getfield 23, 3, (7, 0, [9])),
  (53, .iload_n 3, 1, (0, 0, [])),
  (54, .iload_n 1, 1, (0, 0, [])),
  (55, .iastore, 1, (0, 0, [])),
  (56, .aload_n 0, 1, (0, 0, [])),
  (57, .getfield 26, 3, (8, 0, [9])),
  (60, .iload_n 3, 1, (0, 0, [])),
  (61, .iload_n 2, 1, (0, 0, [])),
  (62, .iastore, 1, (0, 0, [])),
  (63, .iload_n 3, 1, (0, 0, [])),
  (64, .ireturn, 1, (0, 0, []))], 3, 64)
def zm_X10_program : zM := (yX10_program, cX10_program, 3, (some .int), [], [], [(0, .aload_n 0, 1, (0, 0, [])),
  (1, .iload_n 1, 1, (0, 0, [])),
  (2, .iconst 1, 1, (0, 0, [])),
  (3, .iconst 1, 1, (0, 0, [])),
  (4, .invokevirtual 145, 3, (100, 0, [3, 9])),
  (7, .ifCond .eq 11, 3, (0, 0, [])),
  (10, .aload_n 0, 1, (0, 0, [])),
  (11, .iconst 1, 1, (0, 0, [])),
  (12, .invokevirtual 138, 3, (103, 0, [1, 9])),
  (15, .ifCond .eq 5, 3, (0, 0, [])),
  (18, .iconst 0, 1, (0, 0, [])),
  (19, .ireturn, 1, (0, 0, [])),
  (20, .aload_n 0, 1, (0, 0, [])),
  (21, .iconst 2, 1, (0, 0, [])),
  (22, .iload_n 1, 1, (0, 0, [])),
  (23, .iconst 0, 1, (0, 0, [])),
  (24, .invokevirtual 141, 3, (102, 0, [3, 9])),
  (27, .istore_n 2, 1, (0, 0, [])),
  (28, .aload_n 0, 1, (0, 0, [])),
  (29, .getfield 41, 3, (13, 0, [9])),
  (32, .iload_n 2, 1, (0, 0, [])),
  (33, .iconst 0, 1, (0, 0, [])),
  (34, .iastore, 1, (0, 0, [])),
  (35, .iload_n 2, 1, (0, 0, [])),
  (36, .ireturn, 1, (0, 0, []))], 3, 67)
def zm_X10_word : zM := (yX10_word, cX10_word, 8, (some .int), [], [], [(0, .aload_n 0, 1, (0, 0, [])),
  (1, .iload_n 1, 1, (0, 0, [])),
  (2, .iconst 2, 1, (0, 0, [])),
  (3, .iconst 1, 1, (0, 0, [])),
  (4, .invokevirtual 145, 3, (100, 0, [3, 9])),
  (7, .ifCond .ne 5, 3, (0, 0, [])),
  (10, .iconst 0, 1, (0, 0, [])),
  (11, .ireturn, 1, (0, 0, [])),
  (12, .aload_n 0, 1, (0, 0, [])),
  (13, .iload_n 1, 1, (0, 0, [])),
  (14, .invokevirtual 148, 3, (101, 0, [1, 9])),
  (17, .ifCond .eq 10, 3, (0, 0, [])),
  (20, .aload_n 0, 1, (0, 0, [])),
  (21, .iconst 3, 1, (0, 0, [])),
  (22, .iconst 1, 1, (0, 0, [])),
  (23, .invokevirtual 134, 3, (98, 0, [2, 9])),
  (26, .ireturn, 1, (0, 0, [])),
  (27, .iload_n 2, 1, (0, 0, [])),
  (28, .iconst 0, 1, (0, 0, [])),
  (29, .bipush 7, 2, (0, 0, [])),
  (31, .invokestatic 126, 3, (97, 2, [3])),
  (34, .ifCond .eq 32, 3, (0, 0, [])),
  (37, .iload_n 3, 1, (0, 0, [])),
  (38, .iconst 0, 1, (0, 0, [])),
  (39, .iconst 3, 1, (0, 0, [])),
  (40, .invokestatic 126, 3, (97, 2, [3])),
  (43, .ifCond .eq 23, 3, (0, 0, [])),
  (46, .iload 4, 2, (0, 0, [])),
  (48, .iconst 0, 1, (0, 0, [])),
  (49, .iconst 3, 1, (0, 0, [])),
  (50, .invokestatic 126, 3, (97, 2, [3])),
  (53, .ifCond .eq 13, 3, (0, 0, [])),
  (56, .iload 5, 2, (0, 0, [])),
  (58, .iconst 0, 1, (0, 0, [])),
  (59, .iconst 3, 1, (0, 0, [])),
  (60, .invokestatic 126, 3, (97, 2, [3])),
  (63, .ifCond .ne 9, 3, (0, 0, [])),
  (66, .aload_n 0, 1, (0, 0, [])),
  (67, .iconst 2, 1, (0, 0, [])),
  (68, .invokevirtual 119, 3, (96, 0, [1, 9])),
  (71, .ireturn, 1, (0, 0, [])),
  (72, .aload_n 0, 1, (0, 0, [])),
  (73, .getfield 41, 3, (13, 0, [9])),
  (76, .iload_n 1, 1, (0, 0, [])),
  (77, .iaload, 1, (0, 0, [])),
  (78, .bipush 24, 2, (0, 0, [])),
  (80, .if_icmp .ne 9, 3, (0, 0, [])),
  (83, .aload_n 0, 1, (0, 0, [])),
  (84, .iconst 3, 1, (0, 0, [])),
  (85, .invokevirtual 119, 3, (96, 0, [1, 9])),
  (88, .ireturn, 1, (0, 0, [])),
  (89, .bipush 24, 2, (0, 0, [])),
  (91, .iload_n 1, 1, (0, 0, [])),
  (92, .imul, 1, (0, 0, [])),
  (93, .aload_n 0, 1, (0, 0, [])),
  (94, .getfield 41, 3, (13, 0, [9])),
  (97, .iload_n 1, 1, (0, 0, [])),
  (98, .iaload, 1, (0, 0, [])),
  (99, .iadd, 1, (0, 0, [])),
  (100, .istore 7, 2, (0, 0, [])),
  (102, .aload_n 0, 1, (0, 0, [])),
  (103, .getfield 44, 3, (14, 0, [9])),
  (106, .iload 7, 2, (0, 0, [])),
  (108, .iload_n 2, 1, (0, 0, [])),
  (109, .iastore, 1, (0, 0, [])),
  (110, .aload_n 0, 1, (0, 0, [])),
  (111, .getfield 47, 3, (15, 0, [9])),
  (114, .iload 7, 2, (0, 0, [])),
  (116, .iload_n 3, 1, (0, 0, [])),
  (117, .iastore, 1, (0, 0, [])),
  (118, .aload_n 0, 1, (0, 0, [])),
  (119, .getfield 50, 3, (16, 0, [9])),
  (122, .iload 7, 2, (0, 0, [])),
  (124, .iload 4, 2, (0, 0, [])),
  (126, .iastore, 1, (0, 0, [])),
  (127, .aload_n 0, 1, (0, 0, [])),
  (128, .getfield 53, 3, (17, 0, [9])),
  (131, .iload 7, 2, (0, 0, [])),
  (133, .iload 5, 2, (0, 0, [])),
  (135, .iastore, 1, (0, 0, [])),
  (136, .aload_n 0, 1, (0, 0, [])),
  (137, .getfield 56, 3, (18, 0, [9])),
  (140, .iload 7, 2, (0, 0, [])),
  (142, .iload 6, 2, (0, 0, [])),
  (144, .iastore, 1, (0, 0, [])),
  (145, .aload_n 0, 1, (0, 0, [])),
  (146, .getfield 41, 3, (13, 0, [9])),
  (149, .iload_n 1, 1, (0, 0, [])),
  (150, .dup2, 1, (0, 0, [])),
  (151, .iaload, 1, (0, 0, [])),
  (152, .iconst 1, 1, (0, 0, [])),
  (153, .iadd, 1, (0, 0, [])),
  (154, .iastore, 1, (0, 0, [])),
  (155, .aload_n 0, 1, (0, 0, [])),
  (156, .getfield 41, 3, (13, 0, [9])),
  (159, .iload_n 1, 1, (0, 0, [])),
  (160, .iaload, 1, (0, 0, [])),
  (161, .ireturn, 1, (0, 0, []))], 3, 67)
def zm_X10_isCore : zM := (yX10_isCore, cX10_isCore, 4, (some .boolean), [], [], [(0, .iload_n 0, 1, (0, 0, [])),
  (1, .iconst 1, 1, (0, 0, [])),
  (2, .bipush 8, 2, (0, 0, [])),
  (4, .invokestatic 126, 3, (97, 2, [3])),
  (7, .ifCond .eq 37, 3, (0, 0, [])),
  (10, .iload_n 1, 1, (0, 0, [])),
  (11, .iconst 0, 1, (0, 0, [])),
  (12, .bipush 8, 2, (0, 0, [])),
  (14, .invokestatic 126, 3, (97, 2, [3])),
  (17, .ifCond .eq 27, 3, (0, 0, [])),
  (20, .iload_n 2, 1, (0, 0, [])),
  (21, .iconst 0, 1, (0, 0, [])),
  (22, .bipush 8, 2, (0, 0, [])),
  (24, .invokestatic 126, 3, (97, 2, [3])),
  (27, .ifCond .eq 17, 3, (0, 0, [])),
  (30, .iload_n 3, 1, (0, 0, [])),
  (31, .iconst 0, 1, (0, 0, [])),
  (32, .bipush 8, 2, (0, 0, [])),
  (34, .invokestatic 126, 3, (97, 2, [3])),
  (37, .ifCond .eq 7, 3, (0, 0, [])),
  (40, .iconst 1, 1, (0, 0, [])),
  (41, .goto 4, 3, (0, 0, [])),
  (44, .iconst 0, 1, (0, 0, [])),
  (45, .ireturn, 1, (0, 0, []))], 1, 22)
def zm_X10_setCore : zM := (yX10_setCore, cX10_setCore, 6, none, [], [], [(0, .aload_n 0, 1, (0, 0, [])),
  (1, .getfield 29, 3, (9, 0, [9])),
  (4, .iload_n 1, 1, (0, 0, [])),
  (5, .iload_n 2, 1, (0, 0, [])),
  (6, .iastore, 1, (0, 0, [])),
  (7, .aload_n 0, 1, (0, 0, [])),
  (8, .getfield 32, 3, (10, 0, [9])),
  (11, .iload_n 1, 1, (0, 0, [])),
  (12, .iload_n 3, 1, (0, 0, [])),
  (13, .iastore, 1, (0, 0, [])),
  (14, .aload_n 0, 1, (0, 0, [])),
  (15, .getfield 35, 3, (11, 0, [9])),
  (18, .iload_n 1, 1, (0, 0, [])),
  (19, .iload 4, 2, (0, 0, [])),
  (21, .iastore, 1, (0, 0, [])),
  (22, .aload_n 0, 1, (0, 0, [])),
  (23, .getfield 38, 3, (12, 0, [9])),
  (26, .iload_n 1, 1, (0, 0, [])),
  (27, .iload 5, 2, (0, 0, [])),
  (29, .iastore, 1, (0, 0, [])),
  (30, .return_, 1, (0, 0, []))], 0, 0)
def zm_X10_core : zM := (yX10_core, cX10_core, 6, (some .int), [], [], [(0, .aload_n 0, 1, (0, 0, [])),
  (1, .iload_n 1, 1, (0, 0, [])),
  (2, .iconst 1, 1, (0, 0, [])),
  (3, .iconst 1, 1, (0, 0, [])),
  (4, .invokevirtual 145, 3, (100, 0, [3, 9])),
  (7, .ifCond .ne 5, 3, (0, 0, [])),
  (10, .iconst 0, 1, (0, 0, [])),
  (11, .ireturn, 1, (0, 0, [])),
  (12, .iload_n 2, 1, (0, 0, [])),
  (13, .iload_n 3, 1, (0, 0, [])),
  (14, .iload 4, 2, (0, 0, [])),
  (16, .iload 5, 2, (0, 0, [])),
  (18, .invokestatic 151, 3, (107, 2, [4])),
  (21, .ifCond .ne 9, 3, (0, 0, [])),
  (24, .aload_n 0, 1, (0, 0, [])),
  (25, .iconst 2, 1, (0, 0, [])),
  (26, .invokevirtual 119, 3, (96, 0, [1, 9])),
  (29, .ireturn, 1, (0, 0, [])),
  (30, .aload_n 0, 1, (0, 0, [])),
  (31, .iconst 1, 1, (0, 0, [])),
  (32, .invokevirtual 138, 3, (103, 0, [1, 9])),
  (35, .ifCond .eq 5, 3, (0, 0, [])),
  (38, .iconst 0, 1, (0, 0, [])),
  (39, .ireturn, 1, (0, 0, [])),
  (40, .aload_n 0, 1, (0, 0, [])),
  (41, .aload_n 0, 1, (0, 0, [])),
  (42, .iconst 4, 1, (0, 0, [])),
  (43, .iload_n 1, 1, (0, 0, [])),
  (44, .iconst 0, 1, (0, 0, [])),
  (45, .invokevirtual 141, 3, (102, 0, [3, 9])),
  (48, .iload_n 2, 1, (0, 0, [])),
  (49, .iload_n 3, 1, (0, 0, [])),
  (50, .iload 4, 2, (0, 0, [])),
  (52, .iload 5, 2, (0, 0, [])),
  (54, .invokevirtual 155, 3, (108, 0, [5, 9])),
  (57, .aload_n 0, 1, (0, 0, [])),
  (58, .getfield 123, 3, (2, 0, [9])),
  (61, .ireturn, 1, (0, 0, []))], 3, 67)
def zm_X10_change : zM := (yX10_change, cX10_change, 7, (some .int), [], [], [(0, .aload_n 0, 1, (0, 0, [])),
  (1, .iload_n 1, 1, (0, 0, [])),
  (2, .iconst 4, 1, (0, 0, [])),
  (3, .iconst 1, 1, (0, 0, [])),
  (4, .invokevirtual 145, 3, (100, 0, [3, 9])),
  (7, .ifCond .ne 5, 3, (0, 0, [])),
  (10, .iconst 0, 1, (0, 0, [])),
  (11, .ireturn, 1, (0, 0, [])),
  (12, .aload_n 0, 1, (0, 0, [])),
  (13, .iload_n 1, 1, (0, 0, [])),
  (14, .invokevirtual 148, 3, (101, 0, [1, 9])),
  (17, .ifCond .eq 10, 3, (0, 0, [])),
  (20, .aload_n 0, 1, (0, 0, [])),
  (21, .iconst 3, 1, (0, 0, [])),
  (22, .iconst 1, 1, (0, 0, [])),
  (23, .invokevirtual 134, 3, (98, 0, [2, 9])),
  (26, .ireturn, 1, (0, 0, [])),
  (27, .iload_n 2, 1, (0, 0, [])),
  (28, .iload_n 3, 1, (0, 0, [])),
  (29, .iload 4, 2, (0, 0, [])),
  (31, .iload 5, 2, (0, 0, [])),
  (33, .invokestatic 151, 3, (107, 2, [4])),
  (36, .ifCond .ne 9, 3, (0, 0, [])),
  (39, .aload_n 0, 1, (0, 0, [])),
  (40, .iconst 2, 1, (0, 0, [])),
  (41, .invokevirtual 119, 3, (96, 0, [1, 9])),
  (44, .ireturn, 1, (0, 0, [])),
  (45, .aload_n 0, 1, (0, 0, [])),
  (46, .getfield 29, 3, (9, 0, [9])),
  (49, .iload_n 1, 1, (0, 0, [])),
  (50, .iaload, 1, (0, 0, [])),
  (51, .istore 6, 2, (0, 0, [])),
  (53, .aload_n 0, 1, (0, 0, [])),
  (54, .iload_n 1, 1, (0, 0, [])),
  (55, .iload_n 2, 1, (0, 0, [])),
  (56, .iload_n 3, 1, (0, 0, [])),
  (57, .iload 4, 2, (0, 0, [])),
  (59, .iload 5, 2, (0, 0, [])),
  (61, .invokevirtual 155, 3, (108, 0, [5, 9])),
  (64, .iload 6, 2, (0, 0, [])),
  (66, .ireturn, 1, (0, 0, []))], 3, 67)
def zm_X10_begin : zM := (yX10_begin, cX10_begin, 3, none, [], [], [(0, .bipush 12, 2, (0, 0, [])),
  (2, .iload_n 1, 1, (0, 0, [])),
  (3, .imul, 1, (0, 0, [])),
  (4, .istore_n 2, 1, (0, 0, [])),
  (5, .iload_n 2, 1, (0, 0, [])),
  (6, .bipush 12, 2, (0, 0, [])),
  (8, .iload_n 1, 1, (0, 0, [])),
  (9, .imul, 1, (0, 0, [])),
  (10, .bipush 12, 2, (0, 0, [])),
  (12, .iadd, 1, (0, 0, [])),
  (13, .if_icmp .ge 16, 3, (0, 0, [])),
  (16, .aload_n 0, 1, (0, 0, [])),
  (17, .getfield 59, 3, (19, 0, [9])),
  (20, .iload_n 2, 1, (0, 0, [])),
  (21, .lconst 0, 1, (0, 0, [])),
  (22, .lastore, 1, (0, 0, [])),
  (23, .iinc 2 1, 3, (0, 0, [])),
  (26, .goto (-21), 3, (0, 0, [])),
  (29, .aload_n 0, 1, (0, 0, [])),
  (30, .getfield 63, 3, (20, 0, [9])),
  (33, .iload_n 1, 1, (0, 0, [])),
  (34, .iconst 0, 1, (0, 0, [])),
  (35, .iastore, 1, (0, 0, [])),
  (36, .aload_n 0, 1, (0, 0, [])),
  (37, .getfield 66, 3, (21, 0, [9])),
  (40, .iload_n 1, 1, (0, 0, [])),
  (41, .iconst 0, 1, (0, 0, [])),
  (42, .iastore, 1, (0, 0, [])),
  (43, .aload_n 0, 1, (0, 0, [])),
  (44, .getfield 69, 3, (22, 0, [9])),
  (47, .iload_n 1, 1, (0, 0, [])),
  (48, .iconst 0, 1, (0, 0, [])),
  (49, .bastore, 1, (0, 0, [])),
  (50, .return_, 1, (0, 0, []))], 0, 0)
def zm_X10_cut : zM := (yX10_cut, cX10_cut, 4, (some .long), [], [], [(0, .lload_n 2, 1, (0, 0, [])),
  (1, .lconst 1, 1, (0, 0, [])),
  (2, .aload_n 0, 1, (0, 0, [])),
  (3, .getfield 23, 3, (7, 0, [9])),
  (6, .iload_n 1, 1, (0, 0, [])),
  (7, .iaload, 1, (0, 0, [])),
  (8, .lshl, 1, (0, 0, [])),
  (9, .lconst 1, 1, (0, 0, [])),
  (10, .lsub, 1, (0, 0, [])),
  (11, .land, 1, (0, 0, [])),
  (12, .lreturn, 1, (0, 0, []))], 0, 0)
def zm_X10_modulo : zM := (yX10_modulo, cX10_modulo, 3, (some .int), [], [], [(0, .iload_n 1, 1, (0, 0, [])),
  (1, .iload_n 2, 1, (0, 0, [])),
  (2, .irem, 1, (0, 0, [])),
  (3, .iload_n 2, 1, (0, 0, [])),
  (4, .iadd, 1, (0, 0, [])),
  (5, .iload_n 2, 1, (0, 0, [])),
  (6, .irem, 1, (0, 0, [])),
  (7, .ireturn, 1, (0, 0, []))], 0, 0)
def zm_X10_wordOf : zM := (yX10_wordOf, cX10_wordOf, 3, (some .int), [], [], [(0, .bipush 24, 2, (0, 0, [])),
  (2, .iload_n 2, 1, (0, 0, [])),
  (3, .imul, 1, (0, 0, [])),
  (4, .aload_n 0, 1, (0, 0, [])),
  (5, .getfield 63, 3, (20, 0, [9])),
  (8, .iload_n 1, 1, (0, 0, [])),
  (9, .iaload, 1, (0, 0, [])),
  (10, .iadd, 1, (0, 0, [])),
  (11, .ireturn, 1, (0, 0, []))], 0, 0)
def zm_X10_goes : zM := (yX10_goes, cX10_goes, 3, (some .boolean), [], [], [(0, .aload_n 0, 1, (0, 0, [])),
  (1, .getfield 44, 3, (14, 0, [9])),
  (4, .iload_n 2, 1, (0, 0, [])),
  (5, .iaload, 1, (0, 0, [])),
  (6, .bipush 6, 2, (0, 0, [])),
  (8, .if_icmp .ne 28, 3, (0, 0, [])),
  (11, .aload_n 0, 1, (0, 0, [])),
  (12, .getfield 59, 3, (19, 0, [9])),
  (15, .bipush 12, 2, (0, 0, [])),
  (17, .iload_n 1, 1, (0, 0, [])),
  (18, .imul, 1, (0, 0, [])),
  (19, .aload_n 0, 1, (0, 0, [])),
  (20, .getfield 50, 3, (16, 0, [9])),
  (23, .iload_n 2, 1, (0, 0, [])),
  (24, .iaload, 1, (0, 0, [])),
  (25, .iadd, 1, (0, 0, [])),
  (26, .laload, 1, (0, 0, [])),
  (27, .lconst 0, 1, (0, 0, [])),
  (28, .lcmp, 1, (0, 0, [])),
  (29, .ifCond .eq 7, 3, (0, 0, [])),
  (32, .iconst 1, 1, (0, 0, [])),
  (33, .goto 4, 3, (0, 0, [])),
  (36, .iconst 0, 1, (0, 0, [])),
  (37, .ireturn, 1, (0, 0, []))], 0, 0)
def zm_X10_doWord : zM := (yX10_doWord, cX10_doWord, 11, none, [], [], [(0, .aload_n 0, 1, (0, 0, [])),
  (1, .getfield 17, 3, (5, 0, [9])),
  (4, .iload_n 2, 1, (0, 0, [])),
  (5, .iaload, 1, (0, 0, [])),
  (6, .istore_n 3, 1, (0, 0, [])),
  (7, .aload_n 0, 1, (0, 0, [])),
  (8, .iload_n 1, 1, (0, 0, [])),
  (9, .iload_n 2, 1, (0, 0, [])),
  (10, .invokevirtual 159, 3, (114, 0, [2, 9])),
  (13, .istore 4, 2, (0, 0, [])),
  (15, .aload_n 0, 1, (0, 0, [])),
  (16, .getfield 59, 3, (19, 0, [9])),
  (19, .bipush 12, 2, (0, 0, [])),
  (21, .iload_n 1, 1, (0, 0, [])),
  (22, .imul, 1, (0, 0, [])),
  (23, .aload_n 0, 1, (0, 0, [])),
  (24, .getfield 50, 3, (16, 0, [9])),
  (27, .iload 4, 2, (0, 0, [])),
  (29, .iaload, 1, (0, 0, [])),
  (30, .iadd, 1, (0, 0, [])),
  (31, .laload, 1, (0, 0, [])),
  (32, .lstore 5, 2, (0, 0, [])),
  (34, .aload_n 0, 1, (0, 0, [])),
  (35, .getfield 59, 3, (19, 0, [9])),
  (38, .bipush 12, 2, (0, 0, [])),
  (40, .iload_n 1, 1, (0, 0, [])),
  (41, .imul, 1, (0, 0, [])),
  (42, .aload_n 0, 1, (0, 0, [])),
  (43, .getfield 53, 3, (17, 0, [9])),
  (46, .iload 4, 2, (0, 0, [])),
  (48, .iaload, 1, (0, 0, [])),
  (49, .iadd, 1, (0, 0, [])),
  (50, .laload, 1, (0, 0, [])),
  (51, .lstore 7, 2, (0, 0, [])),
  (53, .aload_n 0, 1, (0, 0, [])),
  (54, .getfield 63, 3, (20, 0, [9])),
  (57, .iload_n 1, 1, (0, 0, [])),
  (58, .iaload, 1, (0, 0, [])),
  (59, .iconst 1, 1, (0, 0, [])),
  (60, .iadd, 1, (0, 0, [])),
  (61, .aload_n 0, 1, (0, 0, [])),
  (62, .getfield 41, 3, (13, 0, [9])),
  (65, .iload_n 2, 1, (0, 0, [])),
  (66, .iaload, 1, (0, 0, [])),
  (67, .irem, 1, (0, 0, [])),
  (68, .istore 9, 2, (0, 0, [])),
  (70, .aload_n 0, 1, (0, 0, [])),
  (71, .iload_n 1, 1, (0, 0, [])),
  (72, .iload 4, 2, (0, 0, [])),
  (74, .invokevirtual 162, 3, (115, 0, [2, 9])),
  (77, .ifCond .eq 22, 3, (0, 0, [])),
  (80, .aload_n 0, 1, (0, 0, [])),
  (81, .aload_n 0, 1, (0, 0, [])),
  (82, .getfield 56, 3, (18, 0, [9])),
  (85, .iload 4, 2, (0, 0, [])),
  (87, .iaload, 1, (0, 0, [])),
  (88, .aload_n 0, 1, (0, 0, [])),
  (89, .getfield 41, 3, (13, 0, [9])),
  (92, .iload_n 2, 1, (0, 0, [])),
  (93, .iaload, 1, (0, 0, [])),
  (94, .invokevirtual 166, 3, (113, 0, [2, 9])),
  (97, .istore 9, 2, (0, 0, [])),
  (99, .bipush 12, 2, (0, 0, [])),
  (101, .iload_n 1, 1, (0, 0, [])),
  (102, .imul, 1, (0, 0, [])),
  (103, .iconst 4, 1, (0, 0, [])),
  (104, .iadd, 1, (0, 0, [])),
  (105, .lload 5, 2, (0, 0, [])),
  (107, .aload_n 0, 1, (0, 0, [])),
  (108, .getfield 26, 3, (8, 0, [9])),
  (111, .iload_n 3, 1, (0, 0, [])),
  (112, .iaload, 1, (0, 0, [])),
  (113, .i2l, 1, (0, 0, [])),
  (114, .lrem, 1, (0, 0, [])),
  (115, .l2i, 1, (0, 0, [])),
  (116, .iadd, 1, (0, 0, [])),
  (117, .istore 10, 2, (0, 0, [])),
  (119, .aload_n 0, 1, (0, 0, [])),
  (120, .getfield 44, 3, (14, 0, [9])),
  (123, .iload 4, 2, (0, 0, [])),
  (125, .iaload, 1, (0, 0, [])),
  (126, .ifCond .ne 33, 3, (0, 0, [])),
  (129, .aload_n 0, 1, (0, 0, [])),
  (130, .getfield 59, 3, (19, 0, [9])),
  (133, .bipush 12, 2, (0, 0, [])),
  (135, .iload_n 1, 1, (0, 0, [])),
  (136, .imul, 1, (0, 0, [])),
  (137, .aload_n 0, 1, (0, 0, [])),
  (138, .getfield 47, 3, (15, 0, [9])),
  (141, .iload 4, 2, (0, 0, [])),
  (143, .iaload, 1, (0, 0, [])),
  (144, .iadd, 1, (0, 0, [])),
  (145, .aload_n 0, 1, (0, 0, [])),
  (146, .iload_n 3, 1, (0, 0, [])),
  (147, .aload_n 0, 1, (0, 0, [])),
  (148, .getfield 56, 3, (18, 0, [9])),
  (151, .iload 4, 2, (0, 0, [])),
  (153, .iaload, 1, (0, 0, [])),
  (154, .i2l, 1, (0, 0, [])),
  (155, .invokevirtual 169, 3, (112, 0, [2, 9])),
  (158, .lastore, 1, (0, 0, [])),
  (159, .aload_n 0, 1, (0, 0, [])),
  (160, .getfield 44, 3, (14, 0, [9])),
  (163, .iload 4, 2, (0, 0, [])),
  (165, .iaload, 1, (0, 0, [])),
  (166, .iconst 1, 1, (0, 0, [])),
  (167, .if_icmp .ne 30, 3, (0, 0, [])),
  (170, .aload_n 0, 1, (0, 0, [])),
  (171, .getfield 59, 3, (19, 0, [9])),
  (174, .bipush 12, 2, (0, 0, [])),
  (176, .iload_n 1, 1, (0, 0, [])),
  (177, .imul, 1, (0, 0, [])),
  (178, .aload_n 0, 1, (0, 0, [])),
  (179, .getfield 47, 3, (15, 0, [9])),
  (182, .iload 4, 2, (0, 0, [])),
  (184, .iaload, 1, (0, 0, [])),
  (185, .iadd, 1, (0, 0, [])),
  (186, .aload_n 0, 1, (0, 0, [])),
  (187, .iload_n 3, 1, (0, 0, [])),
  (188, .lload 5, 2, (0, 0, [])),
  (190, .lload 7, 2, (0, 0, [])),
  (192, .ladd, 1, (0, 0, [])),
  (193, .invokevirtual 169, 3, (112, 0, [2, 9])),
  (196, .lastore, 1, (0, 0, [])),
  (197, .aload_n 0, 1, (0, 0, [])),
  (198, .getfield 44, 3, (14, 0, [9])),
  (201, .iload 4, 2, (0, 0, [])),
  (203, .iaload, 1, (0, 0, [])),
  (204, .iconst 2, 1, (0, 0, [])),
  (205, .if_icmp .ne 30, 3, (0, 0, [])),
  (208, .aload_n 0, 1, (0, 0, [])),
  (209, .getfield 59, 3, (19, 0, [9])),
  (212, .bipush 12, 2, (0, 0, [])),
  (214, .iload_n 1, 1, (0, 0, [])),
  (215, .imul, 1, (0, 0, [])),
  (216, .aload_n 0, 1, (0, 0, [])),
  (217, .getfield 47, 3, (15, 0, [9])),
  (220, .iload 4, 2, (0, 0, [])),
  (222, .iaload, 1, (0, 0, [])),
  (223, .iadd, 1, (0, 0, [])),
  (224, .aload_n 0, 1, (0, 0, [])),
  (225, .iload_n 3, 1, (0, 0, [])),
  (226, .lload 5, 2, (0, 0, [])),
  (228, .lload 7, 2, (0, 0, [])),
  (230, .lsub, 1, (0, 0, [])),
  (231, .invokevirtual 169, 3, (112, 0, [2, 9])),
  (234, .lastore, 1, (0, 0, [])),
  (235, .aload_n 0, 1, (0, 0, [])),
  (236, .getfield 44, 3, (14, 0, [9])),
  (239, .iload 4, 2, (0, 0, [])),
  (241, .iaload, 1, (0, 0, [])),
  (242, .iconst 3, 1, (0, 0, [])),
  (243, .if_icmp .ne 25, 3, (0, 0, [])),
  (246, .aload_n 0, 1, (0, 0, [])),
  (247, .getfield 59, 3, (19, 0, [9])),
  (250, .bipush 12, 2, (0, 0, [])),
  (252, .iload_n 1, 1, (0, 0, [])),
  (253, .imul, 1, (0, 0, [])),
  (254, .aload_n 0, 1, (0, 0, [])),
  (255, .getfield 47, 3, (15, 0, [9])),
  (258, .iload 4, 2, (0, 0, [])),
  (260, .iaload, 1, (0, 0, [])),
  (261, .iadd, 1, (0, 0, [])),
  (262, .lload 5, 2, (0, 0, [])),
  (264, .lload 7, 2, (0, 0, [])),
  (266, .land, 1, (0, 0, [])),
  (267, .lastore, 1, (0, 0, [])),
  (268, .aload_n 0, 1, (0, 0, [])),
  (269, .getfield 44, 3, (14, 0, [9])),
  (272, .iload 4, 2, (0, 0, [])),
  (274, .iaload, 1, (0, 0, [])),
  (275, .iconst 4, 1, (0, 0, [])),
  (276, .if_icmp .ne 27, 3, (0, 0, [])),
  (279, .aload_n 0, 1, (0, 0, [])),
  (280, .getfield 59, 3, (19, 0, [9])),
  (283, .bipush 12, 2, (0, 0, [])),
  (285, .iload_n 1, 1, (0, 0, [])),
  (286, .imul, 1, (0, 0, [])),
  (287, .aload_n 0, 1, (0, 0, [])),
  (288, .getfield 47, 3, (15, 0, [9])),
  (291, .iload 4, 2, (0, 0, [])),
  (293, .iaload, 1, (0, 0, [])),
  (294, .iadd, 1, (0, 0, [])),
  (295, .aload_n 0, 1, (0, 0, [])),
  (296, .getfield 59, 3, (19, 0, [9])),
  (299, .iload 10, 2, (0, 0, [])),
  (301, .laload, 1, (0, 0, [])),
  (302, .lastore, 1, (0, 0, [])),
  (303, .aload_n 0, 1, (0, 0, [])),
  (304, .getfield 44, 3, (14, 0, [9])),
  (307, .iload 4, 2, (0, 0, [])),
  (309, .iaload, 1, (0, 0, [])),
  (310, .iconst 5, 1, (0, 0, [])),
  (311, .if_icmp .ne 12, 3, (0, 0, [])),
  (314, .aload_n 0, 1, (0, 0, [])),
  (315, .getfield 59, 3, (19, 0, [9])),
  (318, .iload 10, 2, (0, 0, [])),
  (320, .lload 7, 2, (0, 0, [])),
  (322, .lastore, 1, (0, 0, [])),
  (323, .aload_n 0, 1, (0, 0, [])),
  (324, .getfield 69, 3, (22, 0, [9])),
  (327, .iload_n 1, 1, (0, 0, [])),
  (328, .aload_n 0, 1, (0, 0, [])),
  (329, .getfield 44, 3, (14, 0, [9])),
  (332, .iload 4, 2, (0, 0, [])),
  (334, .iaload, 1, (0, 0, [])),
  (335, .bipush 7, 2, (0, 0, [])),
  (337, .if_icmp .ne 7, 3, (0, 0, [])),
  (340, .iconst 1, 1, (0, 0, [])),
  (341, .goto 4, 3, (0, 0, [])),
  (344, .iconst 0, 1, (0, 0, [])),
  (345, .bastore, 1, (0, 0, [])),
  (346, .aload_n 0, 1, (0, 0, [])),
  (347, .getfield 63, 3, (20, 0, [9])),
  (350, .iload_n 1, 1, (0, 0, [])),
  (351, .iload 9, 2, (0, 0, [])),
  (353, .iastore, 1, (0, 0, [])),
  (354, .aload_n 0, 1, (0, 0, [])),
  (355, .getfield 66, 3, (21, 0, [9])),
  (358, .iload_n 1, 1, (0, 0, [])),
  (359, .dup2, 1, (0, 0, [])),
  (360, .iaload, 1, (0, 0, [])),
  (361, .iconst 1, 1, (0, 0, [])),
  (362, .iadd, 1, (0, 0, [])),
  (363, .iastore, 1, (0, 0, [])),
  (364, .return_, 1, (0, 0, []))], 1, 23)
def zm_X10_run : zM := (yX10_run, cX10_run, 2, (some .int), [], [], [(0, .aload_n 0, 1, (0, 0, [])),
  (1, .iload_n 1, 1, (0, 0, [])),
  (2, .iconst 2, 1, (0, 0, [])),
  (3, .iconst 1, 1, (0, 0, [])),
  (4, .invokevirtual 145, 3, (100, 0, [3, 9])),
  (7, .ifCond .ne 5, 3, (0, 0, [])),
  (10, .iconst 0, 1, (0, 0, [])),
  (11, .ireturn, 1, (0, 0, [])),
  (12, .aload_n 0, 1, (0, 0, [])),
  (13, .getfield 41, 3, (13, 0, [9])),
  (16, .iload_n 1, 1, (0, 0, [])),
  (17, .iaload, 1, (0, 0, [])),
  (18, .ifCond .ne 10, 3, (0, 0, [])),
  (21, .aload_n 0, 1, (0, 0, [])),
  (22, .iconst 5, 1, (0, 0, [])),
  (23, .iconst 1, 1, (0, 0, [])),
  (24, .invokevirtual 134, 3, (98, 0, [2, 9])),
  (27, .ireturn, 1, (0, 0, [])),
  (28, .aload_n 0, 1, (0, 0, [])),
  (29, .iconst 1, 1, (0, 0, [])),
  (30, .invokevirtual 138, 3, (103, 0, [1, 9])),
  (33, .ifCond .eq 5, 3, (0, 0, [])),
  (36, .iconst 0, 1, (0, 0, [])),
  (37, .ireturn, 1, (0, 0, [])),
  (38, .aload_n 0, 1, (0, 0, [])),
  (39, .aload_n 0, 1, (0, 0, [])),
  (40, .iconst 3, 1, (0, 0, [])),
  (41, .iload_n 1, 1, (0, 0, [])),
  (42, .iconst 0, 1, (0, 0, [])),
  (43, .invokevirtual 141, 3, (102, 0, [3, 9])),
  (46, .invokevirtual 173, 3, (111, 0, [1, 9])),
  (49, .aload_n 0, 1, (0, 0, [])),
  (50, .getfield 123, 3, (2, 0, [9])),
  (53, .ireturn, 1, (0, 0, []))], 3, 67)
def zm_X10_step : zM := (yX10_step, cX10_step, 4, (some .int), [], [], [(0, .aload_n 0, 1, (0, 0, [])),
  (1, .iload_n 1, 1, (0, 0, [])),
  (2, .iconst 3, 1, (0, 0, [])),
  (3, .iconst 1, 1, (0, 0, [])),
  (4, .invokevirtual 145, 3, (100, 0, [3, 9])),
  (7, .ifCond .ne 5, 3, (0, 0, [])),
  (10, .iconst 0, 1, (0, 0, [])),
  (11, .ireturn, 1, (0, 0, [])),
  (12, .iload_n 2, 1, (0, 0, [])),
  (13, .iconst 1, 1, (0, 0, [])),
  (14, .sipush 2000, 3, (0, 0, [])),
  (17, .invokestatic 126, 3, (97, 2, [3])),
  (20, .ifCond .ne 9, 3, (0, 0, [])),
  (23, .aload_n 0, 1, (0, 0, [])),
  (24, .iconst 2, 1, (0, 0, [])),
  (25, .invokevirtual 119, 3, (96, 0, [1, 9])),
  (28, .ireturn, 1, (0, 0, [])),
  (29, .aload_n 0, 1, (0, 0, [])),
  (30, .getfield 66, 3, (21, 0, [9])),
  (33, .iload_n 1, 1, (0, 0, [])),
  (34, .iaload, 1, (0, 0, [])),
  (35, .istore_n 3, 1, (0, 0, [])),
  (36, .aload_n 0, 1, (0, 0, [])),
  (37, .getfield 69, 3, (22, 0, [9])),
  (40, .iload_n 1, 1, (0, 0, [])),
  (41, .baload, 1, (0, 0, [])),
  (42, .ifCond .ne 29, 3, (0, 0, [])),
  (45, .aload_n 0, 1, (0, 0, [])),
  (46, .getfield 66, 3, (21, 0, [9])),
  (49, .iload_n 1, 1, (0, 0, [])),
  (50, .iaload, 1, (0, 0, [])),
  (51, .iload_n 3, 1, (0, 0, [])),
  (52, .iload_n 2, 1, (0, 0, [])),
  (53, .iadd, 1, (0, 0, [])),
  (54, .if_icmp .ge 17, 3, (0, 0, [])),
  (57, .aload_n 0, 1, (0, 0, [])),
  (58, .iload_n 1, 1, (0, 0, [])),
  (59, .aload_n 0, 1, (0, 0, [])),
  (60, .getfield 17, 3, (5, 0, [9])),
  (63, .iload_n 1, 1, (0, 0, [])),
  (64, .iaload, 1, (0, 0, [])),
  (65, .invokevirtual 177, 3, (116, 0, [2, 9])),
  (68, .goto (-32), 3, (0, 0, [])),
  (71, .aload_n 0, 1, (0, 0, [])),
  (72, .getfield 66, 3, (21, 0, [9])),
  (75, .iload_n 1, 1, (0, 0, [])),
  (76, .iaload, 1, (0, 0, [])),
  (77, .iload_n 3, 1, (0, 0, [])),
  (78, .isub, 1, (0, 0, [])),
  (79, .ireturn, 1, (0, 0, []))], 3, 67)
def zm_X10_sim : zM := (yX10_sim, cX10_sim, 5, (some .int), [], [], [(0, .aload_n 0, 1, (0, 0, [])),
  (1, .iload_n 1, 1, (0, 0, [])),
  (2, .iconst 4, 1, (0, 0, [])),
  (3, .iconst 1, 1, (0, 0, [])),
  (4, .invokevirtual 145, 3, (100, 0, [3, 9])),
  (7, .ifCond .eq 13, 3, (0, 0, [])),
  (10, .aload_n 0, 1, (0, 0, [])),
  (11, .iload_n 2, 1, (0, 0, [])),
  (12, .iconst 2, 1, (0, 0, [])),
  (13, .iconst 1, 1, (0, 0, [])),
  (14, .invokevirtual 145, 3, (100, 0, [3, 9])),
  (17, .ifCond .ne 5, 3, (0, 0, [])),
  (20, .iconst 0, 1, (0, 0, [])),
  (21, .ireturn, 1, (0, 0, [])),
  (22, .aload_n 0, 1, (0, 0, [])),
  (23, .getfield 17, 3, (5, 0, [9])),
  (26, .iload_n 1, 1, (0, 0, [])),
  (27, .iaload, 1, (0, 0, [])),
  (28, .aload_n 0, 1, (0, 0, [])),
  (29, .getfield 17, 3, (5, 0, [9])),
  (32, .iload_n 2, 1, (0, 0, [])),
  (33, .iaload, 1, (0, 0, [])),
  (34, .if_icmp .eq 10, 3, (0, 0, [])),
  (37, .aload_n 0, 1, (0, 0, [])),
  (38, .iconst 4, 1, (0, 0, [])),
  (39, .iconst 1, 1, (0, 0, [])),
  (40, .invokevirtual 134, 3, (98, 0, [2, 9])),
  (43, .ireturn, 1, (0, 0, [])),
  (44, .aload_n 0, 1, (0, 0, [])),
  (45, .getfield 41, 3, (13, 0, [9])),
  (48, .iload_n 2, 1, (0, 0, [])),
  (49, .iaload, 1, (0, 0, [])),
  (50, .ifCond .ne 10, 3, (0, 0, [])),
  (53, .aload_n 0, 1, (0, 0, [])),
  (54, .iconst 5, 1, (0, 0, [])),
  (55, .iconst 1, 1, (0, 0, [])),
  (56, .invokevirtual 134, 3, (98, 0, [2, 9])),
  (59, .ireturn, 1, (0, 0, [])),
  (60, .aload_n 0, 1, (0, 0, [])),
  (61, .iconst 1, 1, (0, 0, [])),
  (62, .invokevirtual 138, 3, (103, 0, [1, 9])),
  (65, .ifCond .eq 5, 3, (0, 0, [])),
  (68, .iconst 0, 1, (0, 0, [])),
  (69, .ireturn, 1, (0, 0, [])),
  (70, .aload_n 0, 1, (0, 0, [])),
  (71, .iconst 5, 1, (0, 0, [])),
  (72, .iload_n 1, 1, (0, 0, [])),
  (73, .iload_n 2, 1, (0, 0, [])),
  (74, .invokevirtual 141, 3, (102, 0, [3, 9])),
  (77, .istore_n 3, 1, (0, 0, [])),
  (78, .aload_n 0, 1, (0, 0, [])),
  (79, .iload_n 3, 1, (0, 0, [])),
  (80, .invokevirtual 173, 3, (111, 0, [1, 9])),
  (83, .aload_n 0, 1, (0, 0, [])),
  (84, .bipush 61, 2, (0, 0, [])),
  (86, .iload_n 3, 1, (0, 0, [])),
  (87, .iadd, 1, (0, 0, [])),
  (88, .invokevirtual 173, 3, (111, 0, [1, 9])),
  (91, .aload_n 0, 1, (0, 0, [])),
  (92, .getfield 72, 3, (23, 0, [9])),
  (95, .iload_n 3, 1, (0, 0, [])),
  (96, .iconst 0, 1, (0, 0, [])),
  (97, .iastore, 1, (0, 0, [])),
  (98, .aload_n 0, 1, (0, 0, [])),
  (99, .getfield 75, 3, (24, 0, [9])),
  (102, .iload_n 3, 1, (0, 0, [])),
  (103, .iconst 1, 1, (0, 0, [])),
  (104, .iastore, 1, (0, 0, [])),
  (105, .aload_n 0, 1, (0, 0, [])),
  (106, .getfield 87, 3, (28, 0, [9])),
  (109, .iload_n 3, 1, (0, 0, [])),
  (110, .iconst 0, 1, (0, 0, [])),
  (111, .iastore, 1, (0, 0, [])),
  (112, .aload_n 0, 1, (0, 0, [])),
  (113, .getfield 90, 3, (29, 0, [9])),
  (116, .iload_n 3, 1, (0, 0, [])),
  (117, .iconst 0, 1, (0, 0, [])),
  (118, .iastore, 1, (0, 0, [])),
  (119, .iconst 0, 1, (0, 0, [])),
  (120, .istore 4, 2, (0, 0, [])),
  (122, .iload 4, 2, (0, 0, [])),
  (124, .iconst 4, 1, (0, 0, [])),
  (125, .if_icmp .ge 33, 3, (0, 0, [])),
  (128, .aload_n 0, 1, (0, 0, [])),
  (129, .getfield 81, 3, (26, 0, [9])),
  (132, .iconst 4, 1, (0, 0, [])),
  (133, .iload_n 3, 1, (0, 0, [])),
  (134, .imul, 1, (0, 0, [])),
  (135, .iload 4, 2, (0, 0, [])),
  (137, .iadd, 1, (0, 0, [])),
  (138, .iconst (-1), 1, (0, 0, [])),
  (139, .iastore, 1, (0, 0, [])),
  (140, .aload_n 0, 1, (0, 0, [])),
  (141, .getfield 84, 3, (27, 0, [9])),
  (144, .iconst 4, 1, (0, 0, [])),
  (145, .iload_n 3, 1, (0, 0, [])),
  (146, .imul, 1, (0, 0, [])),
  (147, .iload 4, 2, (0, 0, [])),
  (149, .iadd, 1, (0, 0, [])),
  (150, .iconst 0, 1, (0, 0, [])),
  (151, .iastore, 1, (0, 0, [])),
  (152, .iinc 4 1, 3, (0, 0, [])),
  (155, .goto (-33), 3, (0, 0, [])),
  (158, .iload_n 3, 1, (0, 0, [])),
  (159, .ireturn, 1, (0, 0, []))], 3, 67)
def zm_X10_reads : zM := (yX10_reads, cX10_reads, 2, (some .int), [], [], [(0, .aload_n 0, 1, (0, 0, [])),
  (1, .getfield 44, 3, (14, 0, [9])),
  (4, .iload_n 1, 1, (0, 0, [])),
  (5, .iaload, 1, (0, 0, [])),
  (6, .iconst 1, 1, (0, 0, [])),
  (7, .if_icmp .eq 33, 3, (0, 0, [])),
  (10, .aload_n 0, 1, (0, 0, [])),
  (11, .getfield 44, 3, (14, 0, [9])),
  (14, .iload_n 1, 1, (0, 0, [])),
  (15, .iaload, 1, (0, 0, [])),
  (16, .iconst 2, 1, (0, 0, [])),
  (17, .if_icmp .eq 23, 3, (0, 0, [])),
  (20, .aload_n 0, 1, (0, 0, [])),
  (21, .getfield 44, 3, (14, 0, [9])),
  (24, .iload_n 1, 1, (0, 0, [])),
  (25, .iaload, 1, (0, 0, [])),
  (26, .iconst 3, 1, (0, 0, [])),
  (27, .if_icmp .eq 13, 3, (0, 0, [])),
  (30, .aload_n 0, 1, (0, 0, [])),
  (31, .getfield 44, 3, (14, 0, [9])),
  (34, .iload_n 1, 1, (0, 0, [])),
  (35, .iaload, 1, (0, 0, [])),
  (36, .iconst 5, 1, (0, 0, [])),
  (37, .if_icmp .ne 7, 3, (0, 0, [])),
  (40, .iconst 2, 1, (0, 0, [])),
  (41, .goto 29, 3, (0, 0, [])),
  (44, .aload_n 0, 1, (0, 0, [])),
  (45, .getfield 44, 3, (14, 0, [9])),
  (48, .iload_n 1, 1, (0, 0, [])),
  (49, .iaload, 1, (0, 0, [])),
  (50, .iconst 4, 1, (0, 0, [])),
  (51, .if_icmp .eq 14, 3, (0, 0, [])),
  (54, .aload_n 0, 1, (0, 0, [])),
  (55, .getfield 44, 3, (14, 0, [9])),
  (58, .iload_n 1, 1, (0, 0, [])),
  (59, .iaload, 1, (0, 0, [])),
  (60, .bipush 6, 2, (0, 0, [])),
  (62, .if_icmp .ne 7, 3, (0, 0, [])),
  (65, .iconst 1, 1, (0, 0, [])),
  (66, .goto 4, 3, (0, 0, [])),
  (69, .iconst 0, 1, (0, 0, [])),
  (70, .ireturn, 1, (0, 0, []))], 0, 0)
def zm_X10_writes : zM := (yX10_writes, cX10_writes, 2, (some .boolean), [], [], [(0, .aload_n 0, 1, (0, 0, [])),
  (1, .getfield 44, 3, (14, 0, [9])),
  (4, .iload_n 1, 1, (0, 0, [])),
  (5, .iaload, 1, (0, 0, [])),
  (6, .iconst 4, 1, (0, 0, [])),
  (7, .if_icmp .gt 7, 3, (0, 0, [])),
  (10, .iconst 1, 1, (0, 0, [])),
  (11, .goto 4, 3, (0, 0, [])),
  (14, .iconst 0, 1, (0, 0, [])),
  (15, .ireturn, 1, (0, 0, []))], 0, 0)
def zm_X10_readyAt : zM := (yX10_readyAt, cX10_readyAt, 4, (some .int), [], [], [(0, .iconst 4, 1, (0, 0, [])),
  (1, .iload_n 1, 1, (0, 0, [])),
  (2, .imul, 1, (0, 0, [])),
  (3, .iload_n 2, 1, (0, 0, [])),
  (4, .iadd, 1, (0, 0, [])),
  (5, .istore_n 3, 1, (0, 0, [])),
  (6, .aload_n 0, 1, (0, 0, [])),
  (7, .getfield 81, 3, (26, 0, [9])),
  (10, .iload_n 3, 1, (0, 0, [])),
  (11, .iaload, 1, (0, 0, [])),
  (12, .ifCond .ge 7, 3, (0, 0, [])),
  (15, .iconst 0, 1, (0, 0, [])),
  (16, .goto 18, 3, (0, 0, [])),
  (19, .aload_n 0, 1, (0, 0, [])),
  (20, .getfield 81, 3, (26, 0, [9])),
  (23, .iload_n 3, 1, (0, 0, [])),
  (24, .iaload, 1, (0, 0, [])),
  (25, .aload_n 0, 1, (0, 0, [])),
  (26, .getfield 84, 3, (27, 0, [9])),
  (29, .iload_n 3, 1, (0, 0, [])),
  (30, .iaload, 1, (0, 0, [])),
  (31, .iadd, 1, (0, 0, [])),
  (32, .iconst 1, 1, (0, 0, [])),
  (33, .iadd, 1, (0, 0, [])),
  (34, .ireturn, 1, (0, 0, []))], 0, 0)
def zm_X10_enter : zM := (yX10_enter, cX10_enter, 10, none, [], [], [(0, .bipush 61, 2, (0, 0, [])),
  (2, .iload_n 1, 1, (0, 0, [])),
  (3, .iadd, 1, (0, 0, [])),
  (4, .istore_n 2, 1, (0, 0, [])),
  (5, .aload_n 0, 1, (0, 0, [])),
  (6, .getfield 20, 3, (6, 0, [9])),
  (9, .iload_n 1, 1, (0, 0, [])),
  (10, .iaload, 1, (0, 0, [])),
  (11, .istore_n 3, 1, (0, 0, [])),
  (12, .aload_n 0, 1, (0, 0, [])),
  (13, .getfield 17, 3, (5, 0, [9])),
  (16, .iload_n 1, 1, (0, 0, [])),
  (17, .iaload, 1, (0, 0, [])),
  (18, .istore 4, 2, (0, 0, [])),
  (20, .aload_n 0, 1, (0, 0, [])),
  (21, .iload_n 2, 1, (0, 0, [])),
  (22, .iload_n 3, 1, (0, 0, [])),
  (23, .invokevirtual 159, 3, (114, 0, [2, 9])),
  (26, .istore 5, 2, (0, 0, [])),
  (28, .aload_n 0, 1, (0, 0, [])),
  (29, .iload_n 2, 1, (0, 0, [])),
  (30, .iload 5, 2, (0, 0, [])),
  (32, .invokevirtual 162, 3, (115, 0, [2, 9])),
  (35, .istore 6, 2, (0, 0, [])),
  (37, .aload_n 0, 1, (0, 0, [])),
  (38, .getfield 75, 3, (24, 0, [9])),
  (41, .iload_n 1, 1, (0, 0, [])),
  (42, .iaload, 1, (0, 0, [])),
  (43, .istore 7, 2, (0, 0, [])),
  (45, .aload_n 0, 1, (0, 0, [])),
  (46, .getfield 78, 3, (25, 0, [9])),
  (49, .bipush 16, 2, (0, 0, [])),
  (51, .iload_n 1, 1, (0, 0, [])),
  (52, .imul, 1, (0, 0, [])),
  (53, .aload_n 0, 1, (0, 0, [])),
  (54, .getfield 66, 3, (21, 0, [9])),
  (57, .iload_n 2, 1, (0, 0, [])),
  (58, .iaload, 1, (0, 0, [])),
  (59, .bipush 16, 2, (0, 0, [])),
  (61, .irem, 1, (0, 0, [])),
  (62, .iadd, 1, (0, 0, [])),
  (63, .iload 7, 2, (0, 0, [])),
  (65, .iastore, 1, (0, 0, [])),
  (66, .aload_n 0, 1, (0, 0, [])),
  (67, .iload 5, 2, (0, 0, [])),
  (69, .invokevirtual 181, 3, (121, 0, [1, 9])),
  (72, .ifCond .eq 65, 3, (0, 0, [])),
  (75, .aload_n 0, 1, (0, 0, [])),
  (76, .getfield 81, 3, (26, 0, [9])),
  (79, .iconst 4, 1, (0, 0, [])),
  (80, .iload_n 1, 1, (0, 0, [])),
  (81, .imul, 1, (0, 0, [])),
  (82, .aload_n 0, 1, (0, 0, [])),
  (83, .getfield 47, 3, (15, 0, [9])),
  (86, .iload 5, 2, (0, 0, [])),
  (88, .iaload, 1, (0, 0, [])),
  (89, .iadd, 1, (0, 0, [])),
  (90, .iload 7, 2, (0, 0, [])),
  (92, .iastore, 1, (0, 0, [])),
  (93, .aload_n 0, 1, (0, 0, [])),
  (94, .getfield 84, 3, (27, 0, [9])),
  (97, .iconst 4, 1, (0, 0, [])),
  (98, .iload_n 1, 1, (0, 0, [])),
  (99, .imul, 1, (0, 0, [])),
  (100, .aload_n 0, 1, (0, 0, [])),
  (101, .getfield 47, 3, (15, 0, [9])),
  (104, .iload 5, 2, (0, 0, [])),
  (106, .iaload, 1, (0, 0, [])),
  (107, .iadd, 1, (0, 0, [])),
  (108, .aload_n 0, 1, (0, 0, [])),
  (109, .getfield 44, 3, (14, 0, [9])),
  (112, .iload 5, 2, (0, 0, [])),
  (114, .iaload, 1, (0, 0, [])),
  (115, .iconst 4, 1, (0, 0, [])),
  (116, .if_icmp .ne 13, 3, (0, 0, [])),
  (119, .aload_n 0, 1, (0, 0, [])),
  (120, .getfield 35, 3, (11, 0, [9])),
  (123, .iload 4, 2, (0, 0, [])),
  (125, .iaload, 1, (0, 0, [])),
  (126, .goto 10, 3, (0, 0, [])),
  (129, .aload_n 0, 1, (0, 0, [])),
  (130, .getfield 32, 3, (10, 0, [9])),
  (133, .iload 4, 2, (0, 0, [])),
  (135, .iaload, 1, (0, 0, [])),
  (136, .iastore, 1, (0, 0, [])),
  (137, .aload_n 0, 1, (0, 0, [])),
  (138, .iload_n 2, 1, (0, 0, [])),
  (139, .iload_n 3, 1, (0, 0, [])),
  (140, .invokevirtual 177, 3, (116, 0, [2, 9])),
  (143, .aload_n 0, 1, (0, 0, [])),
  (144, .getfield 69, 3, (22, 0, [9])),
  (147, .iload_n 2, 1, (0, 0, [])),
  (148, .baload, 1, (0, 0, [])),
  (149, .ifCond .eq 4, 3, (0, 0, [])),
  (152, .return_, 1, (0, 0, [])),
  (153, .iload 7, 2, (0, 0, [])),
  (155, .iconst 1, 1, (0, 0, [])),
  (156, .iadd, 1, (0, 0, [])),
  (157, .iload 6, 2, (0, 0, [])),
  (159, .ifCond .eq 13, 3, (0, 0, [])),
  (162, .aload_n 0, 1, (0, 0, [])),
  (163, .getfield 38, 3, (12, 0, [9])),
  (166, .iload 4, 2, (0, 0, [])),
  (168, .iaload, 1, (0, 0, [])),
  (169, .goto 4, 3, (0, 0, [])),
  (172, .iconst 0, 1, (0, 0, [])),
  (173, .iadd, 1, (0, 0, [])),
  (174, .istore 8, 2, (0, 0, [])),
  (176, .iload 8, 2, (0, 0, [])),
  (178, .istore 9, 2, (0, 0, [])),
  (180, .aload_n 0, 1, (0, 0, [])),
  (181, .iload_n 2, 1, (0, 0, [])),
  (182, .iload_n 3, 1, (0, 0, [])),
  (183, .invokevirtual 159, 3, (114, 0, [2, 9])),
  (186, .istore 5, 2, (0, 0, [])),
  (188, .aload_n 0, 1, (0, 0, [])),
  (189, .iload 5, 2, (0, 0, [])),
  (191, .invokevirtual 184, 3, (120, 0, [1, 9])),
  (194, .ifCond .le 34, 3, (0, 0, [])),
  (197, .aload_n 0, 1, (0, 0, [])),
  (198, .iload_n 1, 1, (0, 0, [])),
  (199, .aload_n 0, 1, (0, 0, [])),
  (200, .getfield 50, 3, (16, 0, [9])),
  (203, .iload 5, 2, (0, 0, [])),
  (205, .iaload, 1, (0, 0, [])),
  (206, .invokevirtual 187, 3, (122, 0, [2, 9])),
  (209, .iload 9, 2, (0, 0, [])),
  (211, .if_icmp .le 17, 3, (0, 0, [])),
  (214, .aload_n 0, 1, (0, 0, [])),
  (215, .iload_n 1, 1, (0, 0, [])),
  (216, .aload_n 0, 1, (0, 0, [])),
  (217, .getfield 50, 3, (16, 0, [9])),
  (220, .iload 5, 2, (0, 0, [])),
  (222, .iaload, 1, (0, 0, [])),
  (223, .invokevirtual 187, 3, (122, 0, [2, 9])),
  (226, .istore 9, 2, (0, 0, [])),
  (228, .aload_n 0, 1, (0, 0, [])),
  (229, .iload 5, 2, (0, 0, [])),
  (231, .invokevirtual 184, 3, (120, 0, [1, 9])),
  (234, .iconst 1, 1, (0, 0, [])),
  (235, .if_icmp .le 34, 3, (0, 0, [])),
  (238, .aload_n 0, 1, (0, 0, [])),
  (239, .iload_n 1, 1, (0, 0, [])),
  (240, .aload_n 0, 1, (0, 0, [])),
  (241, .getfield 53, 3, (17, 0, [9])),
  (244, .iload 5, 2, (0, 0, [])),
  (246, .iaload, 1, (0, 0, [])),
  (247, .invokevirtual 187, 3, (122, 0, [2, 9])),
  (250, .iload 9, 2, (0, 0, [])),
  (252, .if_icmp .le 17, 3, (0, 0, [])),
  (255, .aload_n 0, 1, (0, 0, [])),
  (256, .iload_n 1, 1, (0, 0, [])),
  (257, .aload_n 0, 1, (0, 0, [])),
  (258, .getfield 53, 3, (17, 0, [9])),
  (261, .iload 5, 2, (0, 0, [])),
  (263, .iaload, 1, (0, 0, [])),
  (264, .invokevirtual 187, 3, (122, 0, [2, 9])),
  (267, .istore 9, 2, (0, 0, [])),
  (269, .aload_n 0, 1, (0, 0, [])),
  (270, .getfield 75, 3, (24, 0, [9])),
  (273, .iload_n 1, 1, (0, 0, [])),
  (274, .iload 9, 2, (0, 0, [])),
  (276, .iastore, 1, (0, 0, [])),
  (277, .return_, 1, (0, 0, []))], 2, 53)
def zm_X10_lose : zM := (yX10_lose, cX10_lose, 7, none, [], [], [(0, .aload_n 0, 1, (0, 0, [])),
  (1, .getfield 75, 3, (24, 0, [9])),
  (4, .iload_n 1, 1, (0, 0, [])),
  (5, .iaload, 1, (0, 0, [])),
  (6, .iload_n 2, 1, (0, 0, [])),
  (7, .isub, 1, (0, 0, [])),
  (8, .iconst 1, 1, (0, 0, [])),
  (9, .isub, 1, (0, 0, [])),
  (10, .istore 4, 2, (0, 0, [])),
  (12, .iload_n 3, 1, (0, 0, [])),
  (13, .ifCond .eq 17, 3, (0, 0, [])),
  (16, .aload_n 0, 1, (0, 0, [])),
  (17, .getfield 38, 3, (12, 0, [9])),
  (20, .aload_n 0, 1, (0, 0, [])),
  (21, .getfield 17, 3, (5, 0, [9])),
  (24, .iload_n 1, 1, (0, 0, [])),
  (25, .iaload, 1, (0, 0, [])),
  (26, .iaload, 1, (0, 0, [])),
  (27, .goto 4, 3, (0, 0, [])),
  (30, .iconst 0, 1, (0, 0, [])),
  (31, .istore 5, 2, (0, 0, [])),
  (33, .iload 4, 2, (0, 0, [])),
  (35, .iload 5, 2, (0, 0, [])),
  (37, .if_icmp .ge 8, 3, (0, 0, [])),
  (40, .iload 4, 2, (0, 0, [])),
  (42, .goto 5, 3, (0, 0, [])),
  (45, .iload 5, 2, (0, 0, [])),
  (47, .istore 6, 2, (0, 0, [])),
  (49, .aload_n 0, 1, (0, 0, [])),
  (50, .getfield 87, 3, (28, 0, [9])),
  (53, .iload_n 1, 1, (0, 0, [])),
  (54, .dup2, 1, (0, 0, [])),
  (55, .iaload, 1, (0, 0, [])),
  (56, .iload 6, 2, (0, 0, [])),
  (58, .iadd, 1, (0, 0, [])),
  (59, .iastore, 1, (0, 0, [])),
  (60, .aload_n 0, 1, (0, 0, [])),
  (61, .getfield 90, 3, (29, 0, [9])),
  (64, .iload_n 1, 1, (0, 0, [])),
  (65, .dup2, 1, (0, 0, [])),
  (66, .iaload, 1, (0, 0, [])),
  (67, .iload 4, 2, (0, 0, [])),
  (69, .iload 6, 2, (0, 0, [])),
  (71, .isub, 1, (0, 0, [])),
  (72, .iadd, 1, (0, 0, [])),
  (73, .iastore, 1, (0, 0, [])),
  (74, .return_, 1, (0, 0, []))], 0, 0)
def zm_X10_enterAll : zM := (yX10_enterAll, cX10_enterAll, 5, none, [], [], [(0, .bipush 61, 2, (0, 0, [])),
  (2, .iload_n 1, 1, (0, 0, [])),
  (3, .iadd, 1, (0, 0, [])),
  (4, .istore_n 3, 1, (0, 0, [])),
  (5, .aload_n 0, 1, (0, 0, [])),
  (6, .getfield 69, 3, (22, 0, [9])),
  (9, .iload_n 3, 1, (0, 0, [])),
  (10, .baload, 1, (0, 0, [])),
  (11, .ifCond .ne 113, 3, (0, 0, [])),
  (14, .aload_n 0, 1, (0, 0, [])),
  (15, .getfield 75, 3, (24, 0, [9])),
  (18, .iload_n 1, 1, (0, 0, [])),
  (19, .iaload, 1, (0, 0, [])),
  (20, .iload_n 2, 1, (0, 0, [])),
  (21, .if_icmp .gt 103, 3, (0, 0, [])),
  (24, .aload_n 0, 1, (0, 0, [])),
  (25, .getfield 66, 3, (21, 0, [9])),
  (28, .iload_n 3, 1, (0, 0, [])),
  (29, .iaload, 1, (0, 0, [])),
  (30, .ifCond .le 35, 3, (0, 0, [])),
  (33, .aload_n 0, 1, (0, 0, [])),
  (34, .iload_n 1, 1, (0, 0, [])),
  (35, .aload_n 0, 1, (0, 0, [])),
  (36, .getfield 78, 3, (25, 0, [9])),
  (39, .bipush 16, 2, (0, 0, [])),
  (41, .iload_n 1, 1, (0, 0, [])),
  (42, .imul, 1, (0, 0, [])),
  (43, .aload_n 0, 1, (0, 0, [])),
  (44, .getfield 66, 3, (21, 0, [9])),
  (47, .iload_n 3, 1, (0, 0, [])),
  (48, .iaload, 1, (0, 0, [])),
  (49, .iconst 1, 1, (0, 0, [])),
  (50, .isub, 1, (0, 0, [])),
  (51, .bipush 16, 2, (0, 0, [])),
  (53, .irem, 1, (0, 0, [])),
  (54, .iadd, 1, (0, 0, [])),
  (55, .iaload, 1, (0, 0, [])),
  (56, .aload_n 0, 1, (0, 0, [])),
  (57, .getfield 109, 3, (41, 0, [9])),
  (60, .iload_n 1, 1, (0, 0, [])),
  (61, .baload, 1, (0, 0, [])),
  (62, .invokevirtual 190, 3, (124, 0, [3, 9])),
  (65, .aload_n 0, 1, (0, 0, [])),
  (66, .iload_n 3, 1, (0, 0, [])),
  (67, .aload_n 0, 1, (0, 0, [])),
  (68, .iload_n 3, 1, (0, 0, [])),
  (69, .aload_n 0, 1, (0, 0, [])),
  (70, .getfield 20, 3, (6, 0, [9])),
  (73, .iload_n 1, 1, (0, 0, [])),
  (74, .iaload, 1, (0, 0, [])),
  (75, .invokevirtual 159, 3, (114, 0, [2, 9])),
  (78, .invokevirtual 162, 3, (115, 0, [2, 9])),
  (81, .istore 4, 2, (0, 0, [])),
  (83, .aload_n 0, 1, (0, 0, [])),
  (84, .iload_n 1, 1, (0, 0, [])),
  (85, .invokevirtual 194, 3, (123, 0, [1, 9])),
  (88, .aload_n 0, 1, (0, 0, [])),
  (89, .getfield 109, 3, (41, 0, [9])),
  (92, .iload_n 1, 1, (0, 0, [])),
  (93, .iload 4, 2, (0, 0, [])),
  (95, .bastore, 1, (0, 0, [])),
  (96, .aload_n 0, 1, (0, 0, [])),
  (97, .iload_n 1, 1, (0, 0, [])),
  (98, .aload_n 0, 1, (0, 0, [])),
  (99, .getfield 75, 3, (24, 0, [9])),
  (102, .iload_n 1, 1, (0, 0, [])),
  (103, .iaload, 1, (0, 0, [])),
  (104, .iload_n 2, 1, (0, 0, [])),
  (105, .if_icmp .ge 12, 3, (0, 0, [])),
  (108, .aload_n 0, 1, (0, 0, [])),
  (109, .getfield 75, 3, (24, 0, [9])),
  (112, .iload_n 1, 1, (0, 0, [])),
  (113, .iaload, 1, (0, 0, [])),
  (114, .goto 4, 3, (0, 0, [])),
  (117, .iload_n 2, 1, (0, 0, [])),
  (118, .invokevirtual 197, 3, (126, 0, [2, 9])),
  (121, .goto (-116), 3, (0, 0, [])),
  (124, .aload_n 0, 1, (0, 0, [])),
  (125, .iload_n 1, 1, (0, 0, [])),
  (126, .iload_n 2, 1, (0, 0, [])),
  (127, .invokevirtual 197, 3, (126, 0, [2, 9])),
  (130, .return_, 1, (0, 0, []))], 3, 82)
def zm_X10_leaveAll : zM := (yX10_leaveAll, cX10_leaveAll, 4, none, [], [], [(0, .bipush 61, 2, (0, 0, [])),
  (2, .iload_n 1, 1, (0, 0, [])),
  (3, .iadd, 1, (0, 0, [])),
  (4, .istore_n 3, 1, (0, 0, [])),
  (5, .aload_n 0, 1, (0, 0, [])),
  (6, .getfield 66, 3, (21, 0, [9])),
  (9, .iload_n 1, 1, (0, 0, [])),
  (10, .iaload, 1, (0, 0, [])),
  (11, .aload_n 0, 1, (0, 0, [])),
  (12, .getfield 66, 3, (21, 0, [9])),
  (15, .iload_n 3, 1, (0, 0, [])),
  (16, .iaload, 1, (0, 0, [])),
  (17, .if_icmp .ge 52, 3, (0, 0, [])),
  (20, .aload_n 0, 1, (0, 0, [])),
  (21, .getfield 78, 3, (25, 0, [9])),
  (24, .bipush 16, 2, (0, 0, [])),
  (26, .iload_n 1, 1, (0, 0, [])),
  (27, .imul, 1, (0, 0, [])),
  (28, .aload_n 0, 1, (0, 0, [])),
  (29, .getfield 66, 3, (21, 0, [9])),
  (32, .iload_n 1, 1, (0, 0, [])),
  (33, .iaload, 1, (0, 0, [])),
  (34, .bipush 16, 2, (0, 0, [])),
  (36, .irem, 1, (0, 0, [])),
  (37, .iadd, 1, (0, 0, [])),
  (38, .iaload, 1, (0, 0, [])),
  (39, .aload_n 0, 1, (0, 0, [])),
  (40, .getfield 29, 3, (9, 0, [9])),
  (43, .aload_n 0, 1, (0, 0, [])),
  (44, .getfield 17, 3, (5, 0, [9])),
  (47, .iload_n 1, 1, (0, 0, [])),
  (48, .iaload, 1, (0, 0, [])),
  (49, .iaload, 1, (0, 0, [])),
  (50, .iadd, 1, (0, 0, [])),
  (51, .iload_n 2, 1, (0, 0, [])),
  (52, .if_icmp .gt 17, 3, (0, 0, [])),
  (55, .aload_n 0, 1, (0, 0, [])),
  (56, .iload_n 1, 1, (0, 0, [])),
  (57, .aload_n 0, 1, (0, 0, [])),
  (58, .getfield 20, 3, (6, 0, [9])),
  (61, .iload_n 1, 1, (0, 0, [])),
  (62, .iaload, 1, (0, 0, [])),
  (63, .invokevirtual 177, 3, (116, 0, [2, 9])),
  (66, .goto (-61), 3, (0, 0, [])),
  (69, .return_, 1, (0, 0, []))], 2, 53)
def zm_X10_cycles : zM := (yX10_cycles, cX10_cycles, 5, (some .int), [], [], [(0, .aload_n 0, 1, (0, 0, [])),
  (1, .iload_n 1, 1, (0, 0, [])),
  (2, .iconst 5, 1, (0, 0, [])),
  (3, .iconst 1, 1, (0, 0, [])),
  (4, .invokevirtual 145, 3, (100, 0, [3, 9])),
  (7, .ifCond .ne 5, 3, (0, 0, [])),
  (10, .iconst 0, 1, (0, 0, [])),
  (11, .ireturn, 1, (0, 0, [])),
  (12, .iload_n 2, 1, (0, 0, [])),
  (13, .iconst 1, 1, (0, 0, [])),
  (14, .sipush 2000, 3, (0, 0, [])),
  (17, .invokestatic 126, 3, (97, 2, [3])),
  (20, .ifCond .ne 9, 3, (0, 0, [])),
  (23, .aload_n 0, 1, (0, 0, [])),
  (24, .iconst 2, 1, (0, 0, [])),
  (25, .invokevirtual 119, 3, (96, 0, [1, 9])),
  (28, .ireturn, 1, (0, 0, [])),
  (29, .aload_n 0, 1, (0, 0, [])),
  (30, .getfield 72, 3, (23, 0, [9])),
  (33, .iload_n 1, 1, (0, 0, [])),
  (34, .iaload, 1, (0, 0, [])),
  (35, .istore_n 3, 1, (0, 0, [])),
  (36, .aload_n 0, 1, (0, 0, [])),
  (37, .getfield 69, 3, (22, 0, [9])),
  (40, .iload_n 1, 1, (0, 0, [])),
  (41, .baload, 1, (0, 0, [])),
  (42, .ifCond .eq 5, 3, (0, 0, [])),
  (45, .iconst 0, 1, (0, 0, [])),
  (46, .ireturn, 1, (0, 0, [])),
  (47, .aload_n 0, 1, (0, 0, [])),
  (48, .iload_n 1, 1, (0, 0, [])),
  (49, .iload_n 3, 1, (0, 0, [])),
  (50, .iload_n 2, 1, (0, 0, [])),
  (51, .iadd, 1, (0, 0, [])),
  (52, .invokevirtual 200, 3, (125, 0, [2, 9])),
  (55, .aload_n 0, 1, (0, 0, [])),
  (56, .getfield 69, 3, (22, 0, [9])),
  (59, .iload_n 1, 1, (0, 0, [])),
  (60, .baload, 1, (0, 0, [])),
  (61, .ifCond .eq 39, 3, (0, 0, [])),
  (64, .aload_n 0, 1, (0, 0, [])),
  (65, .getfield 78, 3, (25, 0, [9])),
  (68, .bipush 16, 2, (0, 0, [])),
  (70, .iload_n 1, 1, (0, 0, [])),
  (71, .imul, 1, (0, 0, [])),
  (72, .aload_n 0, 1, (0, 0, [])),
  (73, .getfield 66, 3, (21, 0, [9])),
  (76, .iload_n 1, 1, (0, 0, [])),
  (77, .iaload, 1, (0, 0, [])),
  (78, .iconst 1, 1, (0, 0, [])),
  (79, .isub, 1, (0, 0, [])),
  (80, .bipush 16, 2, (0, 0, [])),
  (82, .irem, 1, (0, 0, [])),
  (83, .iadd, 1, (0, 0, [])),
  (84, .iaload, 1, (0, 0, [])),
  (85, .aload_n 0, 1, (0, 0, [])),
  (86, .getfield 29, 3, (9, 0, [9])),
  (89, .aload_n 0, 1, (0, 0, [])),
  (90, .getfield 17, 3, (5, 0, [9])),
  (93, .iload_n 1, 1, (0, 0, [])),
  (94, .iaload, 1, (0, 0, [])),
  (95, .iaload, 1, (0, 0, [])),
  (96, .iadd, 1, (0, 0, [])),
  (97, .goto 6, 3, (0, 0, [])),
  (100, .iload_n 3, 1, (0, 0, [])),
  (101, .iload_n 2, 1, (0, 0, [])),
  (102, .iadd, 1, (0, 0, [])),
  (103, .istore 4, 2, (0, 0, [])),
  (105, .aload_n 0, 1, (0, 0, [])),
  (106, .getfield 72, 3, (23, 0, [9])),
  (109, .iload_n 1, 1, (0, 0, [])),
  (110, .iload 4, 2, (0, 0, [])),
  (112, .iastore, 1, (0, 0, [])),
  (113, .iload 4, 2, (0, 0, [])),
  (115, .iload_n 3, 1, (0, 0, [])),
  (116, .isub, 1, (0, 0, [])),
  (117, .ireturn, 1, (0, 0, []))], 4, 106)
def zm_X10_isRunning : zM := (yX10_isRunning, cX10_isRunning, 3, (some .boolean), [], [], [(0, .aload_n 0, 1, (0, 0, [])),
  (1, .iconst 0, 1, (0, 0, [])),
  (2, .putfield 112, 3, (0, 0, [9])),
  (5, .aload_n 0, 1, (0, 0, [])),
  (6, .iload_n 1, 1, (0, 0, [])),
  (7, .invokevirtual 130, 3, (99, 0, [1, 9])),
  (10, .ifCond .ne 7, 3, (0, 0, [])),
  (13, .iconst 1, 1, (0, 0, [])),
  (14, .goto 28, 3, (0, 0, [])),
  (17, .aload_n 0, 1, (0, 0, [])),
  (18, .getfield 7, 3, (3, 0, [9])),
  (21, .iload_n 1, 1, (0, 0, [])),
  (22, .iaload, 1, (0, 0, [])),
  (23, .iconst 3, 1, (0, 0, [])),
  (24, .if_icmp .eq 17, 3, (0, 0, [])),
  (27, .aload_n 0, 1, (0, 0, [])),
  (28, .getfield 7, 3, (3, 0, [9])),
  (31, .iload_n 1, 1, (0, 0, [])),
  (32, .iaload, 1, (0, 0, [])),
  (33, .iconst 5, 1, (0, 0, [])),
  (34, .if_icmp .eq 7, 3, (0, 0, [])),
  (37, .iconst 2, 1, (0, 0, [])),
  (38, .goto 4, 3, (0, 0, [])),
  (41, .iconst 0, 1, (0, 0, [])),
  (42, .istore_n 2, 1, (0, 0, [])),
  (43, .iload_n 2, 1, (0, 0, [])),
  (44, .ifCond .le 10, 3, (0, 0, [])),
  (47, .aload_n 0, 1, (0, 0, [])),
  (48, .iload_n 2, 1, (0, 0, [])),
  (49, .iconst 1, 1, (0, 0, [])),
  (50, .invokevirtual 134, 3, (98, 0, [2, 9])),
  (53, .pop, 1, (0, 0, [])),
  (54, .iload_n 2, 1, (0, 0, [])),
  (55, .ifCond .ne 7, 3, (0, 0, [])),
  (58, .iconst 1, 1, (0, 0, [])),
  (59, .goto 4, 3, (0, 0, [])),
  (62, .iconst 0, 1, (0, 0, [])),
  (63, .ireturn, 1, (0, 0, []))], 2, 43)
def zm_X10_state : zM := (yX10_state, cX10_state, 3, (some .int), [], [], [(0, .aload_n 0, 1, (0, 0, [])),
  (1, .iload_n 1, 1, (0, 0, [])),
  (2, .invokevirtual 203, 3, (128, 0, [1, 9])),
  (5, .ifCond .ne 5, 3, (0, 0, [])),
  (8, .iconst 0, 1, (0, 0, [])),
  (9, .ireturn, 1, (0, 0, [])),
  (10, .iload_n 2, 1, (0, 0, [])),
  (11, .iconst 0, 1, (0, 0, [])),
  (12, .aload_n 0, 1, (0, 0, [])),
  (13, .getfield 7, 3, (3, 0, [9])),
  (16, .iload_n 1, 1, (0, 0, [])),
  (17, .iaload, 1, (0, 0, [])),
  (18, .iconst 3, 1, (0, 0, [])),
  (19, .if_icmp .ne 7, 3, (0, 0, [])),
  (22, .iconst 1, 1, (0, 0, [])),
  (23, .goto 4, 3, (0, 0, [])),
  (26, .iconst 5, 1, (0, 0, [])),
  (27, .invokestatic 126, 3, (97, 2, [3])),
  (30, .ifCond .ne 9, 3, (0, 0, [])),
  (33, .aload_n 0, 1, (0, 0, [])),
  (34, .iconst 2, 1, (0, 0, [])),
  (35, .invokevirtual 119, 3, (96, 0, [1, 9])),
  (38, .ireturn, 1, (0, 0, [])),
  (39, .iload_n 2, 1, (0, 0, [])),
  (40, .tableswitch 82 0 4 #[36, 43, 58, 65, 75], 36, (0, 0, [])),
  (76, .aload_n 0, 1, (0, 0, [])),
  (77, .getfield 66, 3, (21, 0, [9])),
  (80, .iload_n 1, 1, (0, 0, [])),
  (81, .iaload, 1, (0, 0, [])),
  (82, .ireturn, 1, (0, 0, [])),
  (83, .aload_n 0, 1, (0, 0, [])),
  (84, .getfield 69, 3, (22, 0, [9])),
  (87, .iload_n 1, 1, (0, 0, [])),
  (88, .baload, 1, (0, 0, [])),
  (89, .ifCond .eq 7, 3, (0, 0, [])),
  (92, .iconst 1, 1, (0, 0, [])),
  (93, .goto 4, 3, (0, 0, [])),
  (96, .iconst 0, 1, (0, 0, [])),
  (97, .ireturn, 1, (0, 0, [])),
  (98, .aload_n 0, 1, (0, 0, [])),
  (99, .getfield 72, 3, (23, 0, [9])),
  (102, .iload_n 1, 1, (0, 0, [])),
  (103, .iaload, 1, (0, 0, [])),
  (104, .ireturn, 1, (0, 0, [])),
  (105, .aload_n 0, 1, (0, 0, [])),
  (106, .getfield 66, 3, (21, 0, [9])),
  (109, .bipush 61, 2, (0, 0, [])),
  (111, .iload_n 1, 1, (0, 0, [])),
  (112, .iadd, 1, (0, 0, [])),
  (113, .iaload, 1, (0, 0, [])),
  (114, .ireturn, 1, (0, 0, [])),
  (115, .aload_n 0, 1, (0, 0, [])),
  (116, .getfield 87, 3, (28, 0, [9])),
  (119, .iload_n 1, 1, (0, 0, [])),
  (120, .iaload, 1, (0, 0, [])),
  (121, .ireturn, 1, (0, 0, [])),
  (122, .aload_n 0, 1, (0, 0, [])),
  (123, .getfield 90, 3, (29, 0, [9])),
  (126, .iload_n 1, 1, (0, 0, [])),
  (127, .iaload, 1, (0, 0, [])),
  (128, .ireturn, 1, (0, 0, []))], 3, 65)
def zm_X10_programOf : zM := (yX10_programOf, cX10_programOf, 2, (some .int), [], [], [(0, .aload_n 0, 1, (0, 0, [])),
  (1, .getfield 7, 3, (3, 0, [9])),
  (4, .iload_n 1, 1, (0, 0, [])),
  (5, .iaload, 1, (0, 0, [])),
  (6, .iconst 3, 1, (0, 0, [])),
  (7, .if_icmp .ne 12, 3, (0, 0, [])),
  (10, .aload_n 0, 1, (0, 0, [])),
  (11, .getfield 17, 3, (5, 0, [9])),
  (14, .iload_n 1, 1, (0, 0, [])),
  (15, .iaload, 1, (0, 0, [])),
  (16, .goto 9, 3, (0, 0, [])),
  (19, .aload_n 0, 1, (0, 0, [])),
  (20, .getfield 20, 3, (6, 0, [9])),
  (23, .iload_n 1, 1, (0, 0, [])),
  (24, .iaload, 1, (0, 0, [])),
  (25, .ireturn, 1, (0, 0, []))], 0, 0)
def zm_X10_number : zM := (yX10_number, cX10_number, 3, (some .long), [], [], [(0, .aload_n 0, 1, (0, 0, [])),
  (1, .iload_n 1, 1, (0, 0, [])),
  (2, .invokevirtual 203, 3, (128, 0, [1, 9])),
  (5, .ifCond .ne 5, 3, (0, 0, [])),
  (8, .lconst 0, 1, (0, 0, [])),
  (9, .lreturn, 1, (0, 0, [])),
  (10, .iload_n 2, 1, (0, 0, [])),
  (11, .iconst 0, 1, (0, 0, [])),
  (12, .iconst 3, 1, (0, 0, [])),
  (13, .aload_n 0, 1, (0, 0, [])),
  (14, .getfield 26, 3, (8, 0, [9])),
  (17, .aload_n 0, 1, (0, 0, [])),
  (18, .getfield 17, 3, (5, 0, [9])),
  (21, .aload_n 0, 1, (0, 0, [])),
  (22, .iload_n 1, 1, (0, 0, [])),
  (23, .invokevirtual 206, 3, (130, 0, [1, 9])),
  (26, .iaload, 1, (0, 0, [])),
  (27, .iaload, 1, (0, 0, [])),
  (28, .iadd, 1, (0, 0, [])),
  (29, .invokestatic 126, 3, (97, 2, [3])),
  (32, .ifCond .ne 10, 3, (0, 0, [])),
  (35, .aload_n 0, 1, (0, 0, [])),
  (36, .iconst 2, 1, (0, 0, [])),
  (37, .putfield 112, 3, (0, 0, [9])),
  (40, .lconst 0, 1, (0, 0, [])),
  (41, .lreturn, 1, (0, 0, [])),
  (42, .aload_n 0, 1, (0, 0, [])),
  (43, .getfield 59, 3, (19, 0, [9])),
  (46, .bipush 12, 2, (0, 0, [])),
  (48, .iload_n 1, 1, (0, 0, [])),
  (49, .imul, 1, (0, 0, [])),
  (50, .iload_n 2, 1, (0, 0, [])),
  (51, .iadd, 1, (0, 0, [])),
  (52, .laload, 1, (0, 0, [])),
  (53, .lreturn, 1, (0, 0, []))], 3, 65)
def zm_X10_agrees : zM := (yX10_agrees, cX10_agrees, 5, (some .boolean), [], [], [(0, .aload_n 0, 1, (0, 0, [])),
  (1, .iload_n 1, 1, (0, 0, [])),
  (2, .iconst 5, 1, (0, 0, [])),
  (3, .iconst 1, 1, (0, 0, [])),
  (4, .invokevirtual 145, 3, (100, 0, [3, 9])),
  (7, .ifCond .eq 13, 3, (0, 0, [])),
  (10, .aload_n 0, 1, (0, 0, [])),
  (11, .iload_n 2, 1, (0, 0, [])),
  (12, .iconst 3, 1, (0, 0, [])),
  (13, .iconst 1, 1, (0, 0, [])),
  (14, .invokevirtual 145, 3, (100, 0, [3, 9])),
  (17, .ifCond .ne 5, 3, (0, 0, [])),
  (20, .iconst 0, 1, (0, 0, [])),
  (21, .ireturn, 1, (0, 0, [])),
  (22, .aload_n 0, 1, (0, 0, [])),
  (23, .getfield 69, 3, (22, 0, [9])),
  (26, .iload_n 2, 1, (0, 0, [])),
  (27, .baload, 1, (0, 0, [])),
  (28, .ifCond .ne 32, 3, (0, 0, [])),
  (31, .aload_n 0, 1, (0, 0, [])),
  (32, .getfield 66, 3, (21, 0, [9])),
  (35, .iload_n 2, 1, (0, 0, [])),
  (36, .iaload, 1, (0, 0, [])),
  (37, .aload_n 0, 1, (0, 0, [])),
  (38, .getfield 66, 3, (21, 0, [9])),
  (41, .iload_n 1, 1, (0, 0, [])),
  (42, .iaload, 1, (0, 0, [])),
  (43, .if_icmp .ge 17, 3, (0, 0, [])),
  (46, .aload_n 0, 1, (0, 0, [])),
  (47, .iload_n 2, 1, (0, 0, [])),
  (48, .aload_n 0, 1, (0, 0, [])),
  (49, .getfield 17, 3, (5, 0, [9])),
  (52, .iload_n 2, 1, (0, 0, [])),
  (53, .iaload, 1, (0, 0, [])),
  (54, .invokevirtual 177, 3, (116, 0, [2, 9])),
  (57, .goto (-35), 3, (0, 0, [])),
  (60, .aload_n 0, 1, (0, 0, [])),
  (61, .getfield 17, 3, (5, 0, [9])),
  (64, .iload_n 2, 1, (0, 0, [])),
  (65, .iaload, 1, (0, 0, [])),
  (66, .aload_n 0, 1, (0, 0, [])),
  (67, .getfield 20, 3, (6, 0, [9])),
  (70, .iload_n 1, 1, (0, 0, [])),
  (71, .iaload, 1, (0, 0, [])),
  (72, .if_icmp .ne 22, 3, (0, 0, [])),
  (75, .aload_n 0, 1, (0, 0, [])),
  (76, .getfield 66, 3, (21, 0, [9])),
  (79, .iload_n 2, 1, (0, 0, [])),
  (80, .iaload, 1, (0, 0, [])),
  (81, .aload_n 0, 1, (0, 0, [])),
  (82, .getfield 66, 3, (21, 0, [9])),
  (85, .iload_n 1, 1, (0, 0, [])),
  (86, .iaload, 1, (0, 0, [])),
  (87, .if_icmp .ne 7, 3, (0, 0, [])),
  (90, .iconst 1, 1, (0, 0, [])),
  (91, .goto 4, 3, (0, 0, [])),
  (94, .iconst 0, 1, (0, 0, [])),
  (95, .istore_n 3, 1, (0, 0, [])),
  (96, .iconst 0, 1, (0, 0, [])),
  (97, .istore 4, 2, (0, 0, [])),
  (99, .iload 4, 2, (0, 0, [])),
  (101, .bipush 12, 2, (0, 0, [])),
  (103, .if_icmp .ge 47, 3, (0, 0, [])),
  (106, .iload_n 3, 1, (0, 0, [])),
  (107, .ifCond .eq 35, 3, (0, 0, [])),
  (110, .aload_n 0, 1, (0, 0, [])),
  (111, .getfield 59, 3, (19, 0, [9])),
  (114, .bipush 12, 2, (0, 0, [])),
  (116, .iload_n 2, 1, (0, 0, [])),
  (117, .imul, 1, (0, 0, [])),
  (118, .iload 4, 2, (0, 0, [])),
  (120, .iadd, 1, (0, 0, [])),
  (121, .laload, 1, (0, 0, [])),
  (122, .aload_n 0, 1, (0, 0, [])),
  (123, .getfield 59, 3, (19, 0, [9])),
  (126, .bipush 12, 2, (0, 0, [])),
  (128, .iload_n 1, 1, (0, 0, [])),
  (129, .imul, 1, (0, 0, [])),
  (130, .iload 4, 2, (0, 0, [])),
  (132, .iadd, 1, (0, 0, [])),
  (133, .laload, 1, (0, 0, [])),
  (134, .lcmp, 1, (0, 0, [])),
  (135, .ifCond .ne 7, 3, (0, 0, [])),
  (138, .iconst 1, 1, (0, 0, [])),
  (139, .goto 4, 3, (0, 0, [])),
  (142, .iconst 0, 1, (0, 0, [])),
  (143, .istore_n 3, 1, (0, 0, [])),
  (144, .iinc 4 1, 3, (0, 0, [])),
  (147, .goto (-48), 3, (0, 0, [])),
  (150, .iload_n 3, 1, (0, 0, [])),
  (151, .ireturn, 1, (0, 0, []))], 3, 67)
def zm_X10_open : zM := (yX10_open, cX10_open, 3, none, [], [], [(0, .iconst 0, 1, (0, 0, [])),
  (1, .istore_n 2, 1, (0, 0, [])),
  (2, .iload_n 2, 1, (0, 0, [])),
  (3, .bipush 28, 2, (0, 0, [])),
  (5, .if_icmp .ge 26, 3, (0, 0, [])),
  (8, .aload_n 0, 1, (0, 0, [])),
  (9, .getfield 100, 3, (38, 0, [9])),
  (12, .iload_n 2, 1, (0, 0, [])),
  (13, .aload_n 0, 1, (0, 0, [])),
  (14, .getfield 94, 3, (36, 0, [9])),
  (17, .bipush 28, 2, (0, 0, [])),
  (19, .iload_n 1, 1, (0, 0, [])),
  (20, .imul, 1, (0, 0, [])),
  (21, .iload_n 2, 1, (0, 0, [])),
  (22, .iadd, 1, (0, 0, [])),
  (23, .laload, 1, (0, 0, [])),
  (24, .lastore, 1, (0, 0, [])),
  (25, .iinc 2 1, 3, (0, 0, [])),
  (28, .goto (-26), 3, (0, 0, [])),
  (31, .return_, 1, (0, 0, []))], 0, 0)
def zm_X10_chainOf : zM := (yX10_chainOf, cX10_chainOf, 4, (some .int), [], [], [(0, .ldc2_w 209, 3, (17, 0, [])),
  (3, .lstore_n 1, 1, (0, 0, [])),
  (4, .iconst 0, 1, (0, 0, [])),
  (5, .istore_n 3, 1, (0, 0, [])),
  (6, .iload_n 3, 1, (0, 0, [])),
  (7, .bipush 28, 2, (0, 0, [])),
  (9, .if_icmp .ge 26, 3, (0, 0, [])),
  (12, .lload_n 1, 1, (0, 0, [])),
  (13, .ldc2_w 211, 3, (31, 0, [])),
  (16, .lmul, 1, (0, 0, [])),
  (17, .aload_n 0, 1, (0, 0, [])),
  (18, .getfield 100, 3, (38, 0, [9])),
  (21, .iload_n 3, 1, (0, 0, [])),
  (22, .laload, 1, (0, 0, [])),
  (23, .ladd, 1, (0, 0, [])),
  (24, .ldc2_w 213, 3, (2003, 0, [])),
  (27, .lrem, 1, (0, 0, [])),
  (28, .lstore_n 1, 1, (0, 0, [])),
  (29, .iinc 3 1, 3, (0, 0, [])),
  (32, .goto (-26), 3, (0, 0, [])),
  (35, .lload_n 1, 1, (0, 0, [])),
  (36, .l2i, 1, (0, 0, [])),
  (37, .ireturn, 1, (0, 0, []))], 0, 0)
def zm_X10_isKept : zM := (yX10_isKept, cX10_isKept, 5, (some .boolean), [], [], [(0, .aload_n 0, 1, (0, 0, [])),
  (1, .getfield 103, 3, (39, 0, [9])),
  (4, .iload_n 1, 1, (0, 0, [])),
  (5, .iaload, 1, (0, 0, [])),
  (6, .istore_n 2, 1, (0, 0, [])),
  (7, .iload_n 2, 1, (0, 0, [])),
  (8, .ifCond .lt 70, 3, (0, 0, [])),
  (11, .iconst 1, 1, (0, 0, [])),
  (12, .istore_n 3, 1, (0, 0, [])),
  (13, .iconst 0, 1, (0, 0, [])),
  (14, .istore 4, 2, (0, 0, [])),
  (16, .iload 4, 2, (0, 0, [])),
  (18, .bipush 28, 2, (0, 0, [])),
  (20, .if_icmp .ge 42, 3, (0, 0, [])),
  (23, .iload_n 3, 1, (0, 0, [])),
  (24, .ifCond .eq 30, 3, (0, 0, [])),
  (27, .aload_n 0, 1, (0, 0, [])),
  (28, .getfield 94, 3, (36, 0, [9])),
  (31, .bipush 28, 2, (0, 0, [])),
  (33, .iload_n 2, 1, (0, 0, [])),
  (34, .imul, 1, (0, 0, [])),
  (35, .iload 4, 2, (0, 0, [])),
  (37, .iadd, 1, (0, 0, [])),
  (38, .laload, 1, (0, 0, [])),
  (39, .aload_n 0, 1, (0, 0, [])),
  (40, .getfield 100, 3, (38, 0, [9])),
  (43, .iload 4, 2, (0, 0, [])),
  (45, .laload, 1, (0, 0, [])),
  (46, .lcmp, 1, (0, 0, [])),
  (47, .ifCond .ne 7, 3, (0, 0, [])),
  (50, .iconst 1, 1, (0, 0, [])),
  (51, .goto 4, 3, (0, 0, [])),
  (54, .iconst 0, 1, (0, 0, [])),
  (55, .istore_n 3, 1, (0, 0, [])),
  (56, .iinc 4 1, 3, (0, 0, [])),
  (59, .goto (-43), 3, (0, 0, [])),
  (62, .iload_n 3, 1, (0, 0, [])),
  (63, .ifCond .eq 5, 3, (0, 0, [])),
  (66, .iconst 1, 1, (0, 0, [])),
  (67, .ireturn, 1, (0, 0, [])),
  (68, .aload_n 0, 1, (0, 0, [])),
  (69, .getfield 106, 3, (40, 0, [9])),
  (72, .iload_n 2, 1, (0, 0, [])),
  (73, .iaload, 1, (0, 0, [])),
  (74, .istore_n 2, 1, (0, 0, [])),
  (75, .goto (-68), 3, (0, 0, [])),
  (78, .iconst 0, 1, (0, 0, [])),
  (79, .ireturn, 1, (0, 0, []))], 0, 0)
def zm_X10_keep : zM := (yX10_keep, cX10_keep, 3, none, [], [], [(0, .aload_n 0, 1, (0, 0, [])),
  (1, .invokevirtual 215, 3, (134, 0, [0, 9])),
  (4, .istore_n 1, 1, (0, 0, [])),
  (5, .aload_n 0, 1, (0, 0, [])),
  (6, .iload_n 1, 1, (0, 0, [])),
  (7, .invokevirtual 219, 3, (135, 0, [1, 9])),
  (10, .ifCond .eq 4, 3, (0, 0, [])),
  (13, .return_, 1, (0, 0, [])),
  (14, .aload_n 0, 1, (0, 0, [])),
  (15, .getfield 222, 3, (33, 0, [9])),
  (18, .sipush 2000, 3, (0, 0, [])),
  (21, .if_icmp .ge 62, 3, (0, 0, [])),
  (24, .iconst 0, 1, (0, 0, [])),
  (25, .istore_n 2, 1, (0, 0, [])),
  (26, .iload_n 2, 1, (0, 0, [])),
  (27, .bipush 28, 2, (0, 0, [])),
  (29, .if_icmp .ge 29, 3, (0, 0, [])),
  (32, .aload_n 0, 1, (0, 0, [])),
  (33, .getfield 94, 3, (36, 0, [9])),
  (36, .bipush 28, 2, (0, 0, [])),
  (38, .aload_n 0, 1, (0, 0, [])),
  (39, .getfield 222, 3, (33, 0, [9])),
  (42, .imul, 1, (0, 0, [])),
  (43, .iload_n 2, 1, (0, 0, [])),
  (44, .iadd, 1, (0, 0, [])),
  (45, .aload_n 0, 1, (0, 0, [])),
  (46, .getfield 100, 3, (38, 0, [9])),
  (49, .iload_n 2, 1, (0, 0, [])),
  (50, .laload, 1, (0, 0, [])),
  (51, .lastore, 1, (0, 0, [])),
  (52, .iinc 2 1, 3, (0, 0, [])),
  (55, .goto (-29), 3, (0, 0, [])),
  (58, .aload_n 0, 1, (0, 0, [])),
  (59, .getfield 106, 3, (40, 0, [9])),
  (62, .aload_n 0, 1, (0, 0, [])),
  (63, .getfield 222, 3, (33, 0, [9])),
  (66, .aload_n 0, 1, (0, 0, [])),
  (67, .getfield 103, 3, (39, 0, [9])),
  (70, .iload_n 1, 1, (0, 0, [])),
  (71, .iaload, 1, (0, 0, [])),
  (72, .iastore, 1, (0, 0, [])),
  (73, .aload_n 0, 1, (0, 0, [])),
  (74, .getfield 103, 3, (39, 0, [9])),
  (77, .iload_n 1, 1, (0, 0, [])),
  (78, .aload_n 0, 1, (0, 0, [])),
  (79, .getfield 222, 3, (33, 0, [9])),
  (82, .iastore, 1, (0, 0, [])),
  (83, .aload_n 0, 1, (0, 0, [])),
  (84, .dup, 1, (0, 0, [])),
  (85, .getfield 222, 3, (33, 0, [9])),
  (88, .iconst 1, 1, (0, 0, [])),
  (89, .iadd, 1, (0, 0, [])),
  (90, .putfield 222, 3, (33, 0, [9])),
  (93, .return_, 1, (0, 0, []))], 1, 24)
def zm_X10_programAt : zM := (yX10_programAt, cX10_programAt, 3, (some .int), [], [], [(0, .iload_n 2, 1, (0, 0, [])),
  (1, .ifCond .ne 12, 3, (0, 0, [])),
  (4, .aload_n 0, 1, (0, 0, [])),
  (5, .getfield 17, 3, (5, 0, [9])),
  (8, .iload_n 1, 1, (0, 0, [])),
  (9, .iaload, 1, (0, 0, [])),
  (10, .goto 9, 3, (0, 0, [])),
  (13, .aload_n 0, 1, (0, 0, [])),
  (14, .getfield 20, 3, (6, 0, [9])),
  (17, .iload_n 1, 1, (0, 0, [])),
  (18, .iaload, 1, (0, 0, [])),
  (19, .ireturn, 1, (0, 0, []))], 0, 0)
def zm_X10_seen : zM := (yX10_seen, cX10_seen, 7, (some .long), [], [], [(0, .bipush 18, 2, (0, 0, [])),
  (2, .iconst 5, 1, (0, 0, [])),
  (3, .iload_n 1, 1, (0, 0, [])),
  (4, .imul, 1, (0, 0, [])),
  (5, .iadd, 1, (0, 0, [])),
  (6, .istore_n 3, 1, (0, 0, [])),
  (7, .aload_n 0, 1, (0, 0, [])),
  (8, .getfield 100, 3, (38, 0, [9])),
  (11, .bipush 10, 2, (0, 0, [])),
  (13, .iload_n 2, 1, (0, 0, [])),
  (14, .iadd, 1, (0, 0, [])),
  (15, .laload, 1, (0, 0, [])),
  (16, .lstore 4, 2, (0, 0, [])),
  (18, .iconst 0, 1, (0, 0, [])),
  (19, .istore 6, 2, (0, 0, [])),
  (21, .iload 6, 2, (0, 0, [])),
  (23, .aload_n 0, 1, (0, 0, [])),
  (24, .getfield 100, 3, (38, 0, [9])),
  (27, .iload_n 3, 1, (0, 0, [])),
  (28, .laload, 1, (0, 0, [])),
  (29, .l2i, 1, (0, 0, [])),
  (30, .if_icmp .ge 48, 3, (0, 0, [])),
  (33, .aload_n 0, 1, (0, 0, [])),
  (34, .getfield 100, 3, (38, 0, [9])),
  (37, .iload_n 3, 1, (0, 0, [])),
  (38, .iconst 1, 1, (0, 0, [])),
  (39, .iadd, 1, (0, 0, [])),
  (40, .iconst 2, 1, (0, 0, [])),
  (41, .iload 6, 2, (0, 0, [])),
  (43, .imul, 1, (0, 0, [])),
  (44, .iadd, 1, (0, 0, [])),
  (45, .laload, 1, (0, 0, [])),
  (46, .iload_n 2, 1, (0, 0, [])),
  (47, .i2l, 1, (0, 0, [])),
  (48, .lcmp, 1, (0, 0, [])),
  (49, .ifCond .ne 19, 3, (0, 0, [])),
  (52, .aload_n 0, 1, (0, 0, [])),
  (53, .getfield 100, 3, (38, 0, [9])),
  (56, .iload_n 3, 1, (0, 0, [])),
  (57, .iconst 2, 1, (0, 0, [])),
  (58, .iadd, 1, (0, 0, [])),
  (59, .iconst 2, 1, (0, 0, [])),
  (60, .iload 6, 2, (0, 0, [])),
  (62, .imul, 1, (0, 0, [])),
  (63, .iadd, 1, (0, 0, [])),
  (64, .laload, 1, (0, 0, [])),
  (65, .goto 5, 3, (0, 0, [])),
  (68, .lload 4, 2, (0, 0, [])),
  (70, .lstore 4, 2, (0, 0, [])),
  (72, .iinc 6 1, 3, (0, 0, [])),
  (75, .goto (-54), 3, (0, 0, [])),
  (78, .lload 4, 2, (0, 0, [])),
  (80, .lreturn, 1, (0, 0, []))], 0, 0)
def zm_X10_doOf : zM := (yX10_doOf, cX10_doOf, 14, (some .boolean), [], [], [(0, .aload_n 0, 1, (0, 0, [])),
  (1, .iload_n 1, 1, (0, 0, [])),
  (2, .iload_n 2, 1, (0, 0, [])),
  (3, .invokevirtual 225, 3, (137, 0, [2, 9])),
  (6, .istore_n 3, 1, (0, 0, [])),
  (7, .aload_n 0, 1, (0, 0, [])),
  (8, .getfield 100, 3, (38, 0, [9])),
  (11, .iload_n 2, 1, (0, 0, [])),
  (12, .laload, 1, (0, 0, [])),
  (13, .aload_n 0, 1, (0, 0, [])),
  (14, .getfield 41, 3, (13, 0, [9])),
  (17, .iload_n 3, 1, (0, 0, [])),
  (18, .iaload, 1, (0, 0, [])),
  (19, .i2l, 1, (0, 0, [])),
  (20, .lcmp, 1, (0, 0, [])),
  (21, .ifCond .ne 5, 3, (0, 0, [])),
  (24, .iconst 0, 1, (0, 0, [])),
  (25, .ireturn, 1, (0, 0, [])),
  (26, .bipush 24, 2, (0, 0, [])),
  (28, .iload_n 3, 1, (0, 0, [])),
  (29, .imul, 1, (0, 0, [])),
  (30, .aload_n 0, 1, (0, 0, [])),
  (31, .getfield 100, 3, (38, 0, [9])),
  (34, .iload_n 2, 1, (0, 0, [])),
  (35, .laload, 1, (0, 0, [])),
  (36, .l2i, 1, (0, 0, [])),
  (37, .iadd, 1, (0, 0, [])),
  (38, .istore 4, 2, (0, 0, [])),
  (40, .aload_n 0, 1, (0, 0, [])),
  (41, .getfield 17, 3, (5, 0, [9])),
  (44, .iload_n 3, 1, (0, 0, [])),
  (45, .iaload, 1, (0, 0, [])),
  (46, .istore 5, 2, (0, 0, [])),
  (48, .iconst 2, 1, (0, 0, [])),
  (49, .iconst 4, 1, (0, 0, [])),
  (50, .iload_n 2, 1, (0, 0, [])),
  (51, .imul, 1, (0, 0, [])),
  (52, .iadd, 1, (0, 0, [])),
  (53, .istore 6, 2, (0, 0, [])),
  (55, .bipush 18, 2, (0, 0, [])),
  (57, .iconst 5, 1, (0, 0, [])),
  (58, .iload_n 2, 1, (0, 0, [])),
  (59, .imul, 1, (0, 0, [])),
  (60, .iadd, 1, (0, 0, [])),
  (61, .istore 7, 2, (0, 0, [])),
  (63, .aload_n 0, 1, (0, 0, [])),
  (64, .getfield 100, 3, (38, 0, [9])),
  (67, .iload 6, 2, (0, 0, [])),
  (69, .aload_n 0, 1, (0, 0, [])),
  (70, .getfield 50, 3, (16, 0, [9])),
  (73, .iload 4, 2, (0, 0, [])),
  (75, .iaload, 1, (0, 0, [])),
  (76, .iadd, 1, (0, 0, [])),
  (77, .laload, 1, (0, 0, [])),
  (78, .lstore 8, 2, (0, 0, [])),
  (80, .aload_n 0, 1, (0, 0, [])),
  (81, .getfield 100, 3, (38, 0, [9])),
  (84, .iload 6, 2, (0, 0, [])),
  (86, .aload_n 0, 1, (0, 0, [])),
  (87, .getfield 53, 3, (17, 0, [9])),
  (90, .iload 4, 2, (0, 0, [])),
  (92, .iaload, 1, (0, 0, [])),
  (93, .iadd, 1, (0, 0, [])),
  (94, .laload, 1, (0, 0, [])),
  (95, .lstore 10, 2, (0, 0, [])),
  (97, .lload 8, 2, (0, 0, [])),
  (99, .aload_n 0, 1, (0, 0, [])),
  (100, .getfield 26, 3, (8, 0, [9])),
  (103, .iload 5, 2, (0, 0, [])),
  (105, .iaload, 1, (0, 0, [])),
  (106, .i2l, 1, (0, 0, [])),
  (107, .lrem, 1, (0, 0, [])),
  (108, .l2i, 1, (0, 0, [])),
  (109, .istore 12, 2, (0, 0, [])),
  (111, .aload_n 0, 1, (0, 0, [])),
  (112, .getfield 44, 3, (14, 0, [9])),
  (115, .iload 4, 2, (0, 0, [])),
  (117, .iaload, 1, (0, 0, [])),
  (118, .iconst 5, 1, (0, 0, [])),
  (119, .if_icmp .ne 78, 3, (0, 0, [])),
  (122, .aload_n 0, 1, (0, 0, [])),
  (123, .getfield 38, 3, (12, 0, [9])),
  (126, .iload_n 1, 1, (0, 0, [])),
  (127, .iaload, 1, (0, 0, [])),
  (128, .iconst 1, 1, (0, 0, [])),
  (129, .if_icmp .ne 68, 3, (0, 0, [])),
  (132, .aload_n 0, 1, (0, 0, [])),
  (133, .getfield 100, 3, (38, 0, [9])),
  (136, .iload 7, 2, (0, 0, [])),
  (138, .laload, 1, (0, 0, [])),
  (139, .l2i, 1, (0, 0, [])),
  (140, .istore 13, 2, (0, 0, [])),
  (142, .iload 13, 2, (0, 0, [])),
  (144, .iconst 2, 1, (0, 0, [])),
  (145, .if_icmp .ne 5, 3, (0, 0, [])),
  (148, .iconst 0, 1, (0, 0, [])),
  (149, .ireturn, 1, (0, 0, [])),
  (150, .aload_n 0, 1, (0, 0, [])),
  (151, .getfield 100, 3, (38, 0, [9])),
  (154, .iload 7, 2, (0, 0, [])),
  (156, .iconst 1, 1, (0, 0, [])),
  (157, .iadd, 1, (0, 0, [])),
  (158, .iconst 2, 1, (0, 0, [])),
  (159, .iload 13, 2, (0, 0, [])),
  (161, .imul, 1, (0, 0, [])),
  (162, .iadd, 1, (0, 0, [])),
  (163, .iload 12, 2, (0, 0, [])),
  (165, .i2l, 1, (0, 0, [])),
  (166, .lastore, 1, (0, 0, [])),
  (167, .aload_n 0, 1, (0, 0, [])),
  (168, .getfield 100, 3, (38, 0, [9])),
  (171, .iload 7, 2, (0, 0, [])),
  (173, .iconst 2, 1, (0, 0, [])),
  (174, .iadd, 1, (0, 0, [])),
  (175, .iconst 2, 1, (0, 0, [])),
  (176, .iload 13, 2, (0, 0, [])),
  (178, .imul, 1, (0, 0, [])),
  (179, .iadd, 1, (0, 0, [])),
  (180, .lload 10, 2, (0, 0, [])),
  (182, .lastore, 1, (0, 0, [])),
  (183, .aload_n 0, 1, (0, 0, [])),
  (184, .getfield 100, 3, (38, 0, [9])),
  (187, .iload 7, 2, (0, 0, [])),
  (189, .dup2, 1, (0, 0, [])),
  (190, .laload, 1, (0, 0, [])),
  (191, .lconst 1, 1, (0, 0, [])),
  (192, .ladd, 1, (0, 0, [])),
  (193, .lastore, 1, (0, 0, [])),
  (194, .goto 26, 3, (0, 0, [])),
  (197, .aload_n 0, 1, (0, 0, [])),
  (198, .getfield 44, 3, (14, 0, [9])),
  (201, .iload 4, 2, (0, 0, [])),
  (203, .iaload, 1, (0, 0, [])),
  (204, .iconst 5, 1, (0, 0, [])),
  (205, .if_icmp .ne 15, 3, (0, 0, [])),
  (208, .aload_n 0, 1, (0, 0, [])),
  (209, .getfield 100, 3, (38, 0, [9])),
  (212, .bipush 10, 2, (0, 0, [])),
  (214, .iload 12, 2, (0, 0, [])),
  (216, .iadd, 1, (0, 0, [])),
  (217, .lload 10, 2, (0, 0, [])),
  (219, .lastore, 1, (0, 0, [])),
  (220, .aload_n 0, 1, (0, 0, [])),
  (221, .getfield 44, 3, (14, 0, [9])),
  (224, .iload 4, 2, (0, 0, [])),
  (226, .iaload, 1, (0, 0, [])),
  (227, .ifCond .ne 32, 3, (0, 0, [])),
  (230, .aload_n 0, 1, (0, 0, [])),
  (231, .getfield 100, 3, (38, 0, [9])),
  (234, .iload 6, 2, (0, 0, [])),
  (236, .aload_n 0, 1, (0, 0, [])),
  (237, .getfield 47, 3, (15, 0, [9])),
  (240, .iload 4, 2, (0, 0, [])),
  (242, .iaload, 1, (0, 0, [])),
  (243, .iadd, 1, (0, 0, [])),
  (244, .aload_n 0, 1, (0, 0, [])),
  (245, .iload 5, 2, (0, 0, [])),
  (247, .aload_n 0, 1, (0, 0, [])),
  (248, .getfield 56, 3, (18, 0, [9])),
  (251, .iload 4, 2, (0, 0, [])),
  (253, .iaload, 1, (0, 0, [])),
  (254, .i2l, 1, (0, 0, [])),
  (255, .invokevirtual 169, 3, (112, 0, [2, 9])),
  (258, .lastore, 1, (0, 0, [])),
  (259, .aload_n 0, 1, (0, 0, [])),
  (260, .getfield 44, 3, (14, 0, [9])),
  (263, .iload 4, 2, (0, 0, [])),
  (265, .iaload, 1, (0, 0, [])),
  (266, .iconst 1, 1, (0, 0, [])),
  (267, .if_icmp .ne 29, 3, (0, 0, [])),
  (270, .aload_n 0, 1, (0, 0, [])),
  (271, .getfield 100, 3, (38, 0, [9])),
  (274, .iload 6, 2, (0, 0, [])),
  (276, .aload_n 0, 1, (0, 0, [])),
  (277, .getfield 47, 3, (15, 0, [9])),
  (280, .iload 4, 2, (0, 0, [])),
  (282, .iaload, 1, (0, 0, [])),
  (283, .iadd, 1, (0, 0, [])),
  (284, .aload_n 0, 1, (0, 0, [])),
  (285, .iload 5, 2, (0, 0, [])),
  (287, .lload 8, 2, (0, 0, [])),
  (289, .lload 10, 2, (0, 0, [])),
  (291, .ladd, 1, (0, 0, [])),
  (292, .invokevirtual 169, 3, (112, 0, [2, 9])),
  (295, .lastore, 1, (0, 0, [])),
  (296, .aload_n 0, 1, (0, 0, [])),
  (297, .getfield 44, 3, (14, 0, [9])),
  (300, .iload 4, 2, (0, 0, [])),
  (302, .iaload, 1, (0, 0, [])),
  (303, .iconst 2, 1, (0, 0, [])),
  (304, .if_icmp .ne 29, 3, (0, 0, [])),
  (307, .aload_n 0, 1, (0, 0, [])),
  (308, .getfield 100, 3, (38, 0, [9])),
  (311, .iload 6, 2, (0, 0, [])),
  (313, .aload_n 0, 1, (0, 0, [])),
  (314, .getfield 47, 3, (15, 0, [9])),
  (317, .iload 4, 2, (0, 0, [])),
  (319, .iaload, 1, (0, 0, [])),
  (320, .iadd, 1, (0, 0, [])),
  (321, .aload_n 0, 1, (0, 0, [])),
  (322, .iload 5, 2, (0, 0, [])),
  (324, .lload 8, 2, (0, 0, [])),
  (326, .lload 10, 2, (0, 0, [])),
  (328, .lsub, 1, (0, 0, [])),
  (329, .invokevirtual 169, 3, (112, 0, [2, 9])),
  (332, .lastore, 1, (0, 0, [])),
  (333, .aload_n 0, 1, (0, 0, [])),
  (334, .getfield 44, 3, (14, 0, [9])),
  (337, .iload 4, 2, (0, 0, [])),
  (339, .iaload, 1, (0, 0, [])),
  (340, .iconst 3, 1, (0, 0, [])),
  (341, .if_icmp .ne 23, 3, (0, 0, [])),
  (344, .aload_n 0, 1, (0, 0, [])),
  (345, .getfield 100, 3, (38, 0, [9])),
  (348, .iload 6, 2, (0, 0, [])),
  (350, .aload_n 0, 1, (0, 0, [])),
  (351, .getfield 47, 3, (15, 0, [9])),
  (354, .iload 4, 2, (0, 0, [])),
  (356, .iaload, 1, (0, 0, [])),
  (357, .iadd, 1, (0, 0, [])),
  (358, .lload 8, 2, (0, 0, [])),
  (360, .lload 10, 2, (0, 0, [])),
  (362, .land, 1, (0, 0, [])),
  (363, .lastore, 1, (0, 0, [])),
  (364, .aload_n 0, 1, (0, 0, [])),
  (365, .getfield 44, 3, (14, 0, [9])),
  (368, .iload 4, 2, (0, 0, [])),
  (370, .iaload, 1, (0, 0, [])),
  (371, .iconst 4, 1, (0, 0, [])),
  (372, .if_icmp .ne 25, 3, (0, 0, [])),
  (375, .aload_n 0, 1, (0, 0, [])),
  (376, .getfield 100, 3, (38, 0, [9])),
  (379, .iload 6, 2, (0, 0, [])),
  (381, .aload_n 0, 1, (0, 0, [])),
  (382, .getfield 47, 3, (15, 0, [9])),
  (385, .iload 4, 2, (0, 0, [])),
  (387, .iaload, 1, (0, 0, [])),
  (388, .iadd, 1, (0, 0, [])),
  (389, .aload_n 0, 1, (0, 0, [])),
  (390, .iload_n 2, 1, (0, 0, [])),
  (391, .iload 12, 2, (0, 0, [])),
  (393, .invokevirtual 228, 3, (138, 0, [2, 9])),
  (396, .lastore, 1, (0, 0, [])),
  (397, .aload_n 0, 1, (0, 0, [])),
  (398, .getfield 100, 3, (38, 0, [9])),
  (401, .iload_n 2, 1, (0, 0, [])),
  (402, .aload_n 0, 1, (0, 0, [])),
  (403, .getfield 44, 3, (14, 0, [9])),
  (406, .iload 4, 2, (0, 0, [])),
  (408, .iaload, 1, (0, 0, [])),
  (409, .bipush 7, 2, (0, 0, [])),
  (411, .if_icmp .ne 13, 3, (0, 0, [])),
  (414, .aload_n 0, 1, (0, 0, [])),
  (415, .getfield 41, 3, (13, 0, [9])),
  (418, .iload_n 3, 1, (0, 0, [])),
  (419, .iaload, 1, (0, 0, [])),
  (420, .i2l, 1, (0, 0, [])),
  (421, .goto 51, 3, (0, 0, [])),
  (424, .aload_n 0, 1, (0, 0, [])),
  (425, .getfield 44, 3, (14, 0, [9])),
  (428, .iload 4, 2, (0, 0, [])),
  (430, .iaload, 1, (0, 0, [])),
  (431, .bipush 6, 2, (0, 0, [])),
  (433, .if_icmp .ne 31, 3, (0, 0, [])),
  (436, .lload 8, 2, (0, 0, [])),
  (438, .lconst 0, 1, (0, 0, [])),
  (439, .lcmp, 1, (0, 0, [])),
  (440, .ifCond .eq 24, 3, (0, 0, [])),
  (443, .aload_n 0, 1, (0, 0, [])),
  (444, .aload_n 0, 1, (0, 0, [])),
  (445, .getfield 56, 3, (18, 0, [9])),
  (448, .iload 4, 2, (0, 0, [])),
  (450, .iaload, 1, (0, 0, [])),
  (451, .aload_n 0, 1, (0, 0, [])),
  (452, .getfield 41, 3, (13, 0, [9])),
  (455, .iload_n 3, 1, (0, 0, [])),
  (456, .iaload, 1, (0, 0, [])),
  (457, .invokevirtual 166, 3, (113, 0, [2, 9])),
  (460, .i2l, 1, (0, 0, [])),
  (461, .goto 11, 3, (0, 0, [])),
  (464, .aload_n 0, 1, (0, 0, [])),
  (465, .getfield 100, 3, (38, 0, [9])),
  (468, .iload_n 2, 1, (0, 0, [])),
  (469, .laload, 1, (0, 0, [])),
  (470, .lconst 1, 1, (0, 0, [])),
  (471, .ladd, 1, (0, 0, [])),
  (472, .lastore, 1, (0, 0, [])),
  (473, .iconst 1, 1, (0, 0, [])),
  (474, .ireturn, 1, (0, 0, []))], 1, 26)
def zm_X10_letGo : zM := (yX10_letGo, cX10_letGo, 3, (some .boolean), [], [], [(0, .bipush 18, 2, (0, 0, [])),
  (2, .iconst 5, 1, (0, 0, [])),
  (3, .iload_n 1, 1, (0, 0, [])),
  (4, .imul, 1, (0, 0, [])),
  (5, .iadd, 1, (0, 0, [])),
  (6, .istore_n 2, 1, (0, 0, [])),
  (7, .aload_n 0, 1, (0, 0, [])),
  (8, .getfield 100, 3, (38, 0, [9])),
  (11, .iload_n 2, 1, (0, 0, [])),
  (12, .laload, 1, (0, 0, [])),
  (13, .lconst 0, 1, (0, 0, [])),
  (14, .lcmp, 1, (0, 0, [])),
  (15, .ifCond .ne 5, 3, (0, 0, [])),
  (18, .iconst 0, 1, (0, 0, [])),
  (19, .ireturn, 1, (0, 0, [])),
  (20, .aload_n 0, 1, (0, 0, [])),
  (21, .getfield 100, 3, (38, 0, [9])),
  (24, .bipush 10, 2, (0, 0, [])),
  (26, .aload_n 0, 1, (0, 0, [])),
  (27, .getfield 100, 3, (38, 0, [9])),
  (30, .iload_n 2, 1, (0, 0, [])),
  (31, .iconst 1, 1, (0, 0, [])),
  (32, .iadd, 1, (0, 0, [])),
  (33, .laload, 1, (0, 0, [])),
  (34, .l2i, 1, (0, 0, [])),
  (35, .iadd, 1, (0, 0, [])),
  (36, .aload_n 0, 1, (0, 0, [])),
  (37, .getfield 100, 3, (38, 0, [9])),
  (40, .iload_n 2, 1, (0, 0, [])),
  (41, .iconst 2, 1, (0, 0, [])),
  (42, .iadd, 1, (0, 0, [])),
  (43, .laload, 1, (0, 0, [])),
  (44, .lastore, 1, (0, 0, [])),
  (45, .aload_n 0, 1, (0, 0, [])),
  (46, .getfield 100, 3, (38, 0, [9])),
  (49, .iload_n 2, 1, (0, 0, [])),
  (50, .iconst 1, 1, (0, 0, [])),
  (51, .iadd, 1, (0, 0, [])),
  (52, .aload_n 0, 1, (0, 0, [])),
  (53, .getfield 100, 3, (38, 0, [9])),
  (56, .iload_n 2, 1, (0, 0, [])),
  (57, .iconst 3, 1, (0, 0, [])),
  (58, .iadd, 1, (0, 0, [])),
  (59, .laload, 1, (0, 0, [])),
  (60, .lastore, 1, (0, 0, [])),
  (61, .aload_n 0, 1, (0, 0, [])),
  (62, .getfield 100, 3, (38, 0, [9])),
  (65, .iload_n 2, 1, (0, 0, [])),
  (66, .iconst 2, 1, (0, 0, [])),
  (67, .iadd, 1, (0, 0, [])),
  (68, .aload_n 0, 1, (0, 0, [])),
  (69, .getfield 100, 3, (38, 0, [9])),
  (72, .iload_n 2, 1, (0, 0, [])),
  (73, .iconst 4, 1, (0, 0, [])),
  (74, .iadd, 1, (0, 0, [])),
  (75, .laload, 1, (0, 0, [])),
  (76, .lastore, 1, (0, 0, [])),
  (77, .aload_n 0, 1, (0, 0, [])),
  (78, .getfield 100, 3, (38, 0, [9])),
  (81, .iload_n 2, 1, (0, 0, [])),
  (82, .iconst 3, 1, (0, 0, [])),
  (83, .iadd, 1, (0, 0, [])),
  (84, .lconst 0, 1, (0, 0, [])),
  (85, .lastore, 1, (0, 0, [])),
  (86, .aload_n 0, 1, (0, 0, [])),
  (87, .getfield 100, 3, (38, 0, [9])),
  (90, .iload_n 2, 1, (0, 0, [])),
  (91, .iconst 4, 1, (0, 0, [])),
  (92, .iadd, 1, (0, 0, [])),
  (93, .lconst 0, 1, (0, 0, [])),
  (94, .lastore, 1, (0, 0, [])),
  (95, .aload_n 0, 1, (0, 0, [])),
  (96, .getfield 100, 3, (38, 0, [9])),
  (99, .iload_n 2, 1, (0, 0, [])),
  (100, .dup2, 1, (0, 0, [])),
  (101, .laload, 1, (0, 0, [])),
  (102, .lconst 1, 1, (0, 0, [])),
  (103, .lsub, 1, (0, 0, [])),
  (104, .lastore, 1, (0, 0, [])),
  (105, .aload_n 0, 1, (0, 0, [])),
  (106, .getfield 100, 3, (38, 0, [9])),
  (109, .iload_n 2, 1, (0, 0, [])),
  (110, .laload, 1, (0, 0, [])),
  (111, .lconst 0, 1, (0, 0, [])),
  (112, .lcmp, 1, (0, 0, [])),
  (113, .ifCond .ne 21, 3, (0, 0, [])),
  (116, .aload_n 0, 1, (0, 0, [])),
  (117, .getfield 100, 3, (38, 0, [9])),
  (120, .iload_n 2, 1, (0, 0, [])),
  (121, .iconst 1, 1, (0, 0, [])),
  (122, .iadd, 1, (0, 0, [])),
  (123, .lconst 0, 1, (0, 0, [])),
  (124, .lastore, 1, (0, 0, [])),
  (125, .aload_n 0, 1, (0, 0, [])),
  (126, .getfield 100, 3, (38, 0, [9])),
  (129, .iload_n 2, 1, (0, 0, [])),
  (130, .iconst 2, 1, (0, 0, [])),
  (131, .iadd, 1, (0, 0, [])),
  (132, .lconst 0, 1, (0, 0, [])),
  (133, .lastore, 1, (0, 0, [])),
  (134, .iconst 1, 1, (0, 0, [])),
  (135, .ireturn, 1, (0, 0, []))], 0, 0)
def zm_X10_isEnd : zM := (yX10_isEnd, cX10_isEnd, 2, (some .boolean), [], [], [(0, .aload_n 0, 1, (0, 0, [])),
  (1, .getfield 100, 3, (38, 0, [9])),
  (4, .iconst 0, 1, (0, 0, [])),
  (5, .laload, 1, (0, 0, [])),
  (6, .aload_n 0, 1, (0, 0, [])),
  (7, .getfield 41, 3, (13, 0, [9])),
  (10, .aload_n 0, 1, (0, 0, [])),
  (11, .getfield 17, 3, (5, 0, [9])),
  (14, .iload_n 1, 1, (0, 0, [])),
  (15, .iaload, 1, (0, 0, [])),
  (16, .iaload, 1, (0, 0, [])),
  (17, .i2l, 1, (0, 0, [])),
  (18, .lcmp, 1, (0, 0, [])),
  (19, .ifCond .ne 53, 3, (0, 0, [])),
  (22, .aload_n 0, 1, (0, 0, [])),
  (23, .getfield 100, 3, (38, 0, [9])),
  (26, .iconst 1, 1, (0, 0, [])),
  (27, .laload, 1, (0, 0, [])),
  (28, .aload_n 0, 1, (0, 0, [])),
  (29, .getfield 41, 3, (13, 0, [9])),
  (32, .aload_n 0, 1, (0, 0, [])),
  (33, .getfield 20, 3, (6, 0, [9])),
  (36, .iload_n 1, 1, (0, 0, [])),
  (37, .iaload, 1, (0, 0, [])),
  (38, .iaload, 1, (0, 0, [])),
  (39, .i2l, 1, (0, 0, [])),
  (40, .lcmp, 1, (0, 0, [])),
  (41, .ifCond .ne 31, 3, (0, 0, [])),
  (44, .aload_n 0, 1, (0, 0, [])),
  (45, .getfield 100, 3, (38, 0, [9])),
  (48, .bipush 18, 2, (0, 0, [])),
  (50, .laload, 1, (0, 0, [])),
  (51, .lconst 0, 1, (0, 0, [])),
  (52, .lcmp, 1, (0, 0, [])),
  (53, .ifCond .ne 19, 3, (0, 0, [])),
  (56, .aload_n 0, 1, (0, 0, [])),
  (57, .getfield 100, 3, (38, 0, [9])),
  (60, .bipush 23, 2, (0, 0, [])),
  (62, .laload, 1, (0, 0, [])),
  (63, .lconst 0, 1, (0, 0, [])),
  (64, .lcmp, 1, (0, 0, [])),
  (65, .ifCond .ne 7, 3, (0, 0, [])),
  (68, .iconst 1, 1, (0, 0, [])),
  (69, .goto 4, 3, (0, 0, [])),
  (72, .iconst 0, 1, (0, 0, [])),
  (73, .ireturn, 1, (0, 0, []))], 0, 0)
def zm_X10_isBefore : zM := (yX10_isBefore, cX10_isBefore, 4, (some .boolean), [], [], [(0, .iconst 2, 1, (0, 0, [])),
  (1, .istore_n 3, 1, (0, 0, [])),
  (2, .iload_n 3, 1, (0, 0, [])),
  (3, .bipush 18, 2, (0, 0, [])),
  (5, .if_icmp .ge 67, 3, (0, 0, [])),
  (8, .aload_n 0, 1, (0, 0, [])),
  (9, .getfield 94, 3, (36, 0, [9])),
  (12, .bipush 28, 2, (0, 0, [])),
  (14, .iload_n 1, 1, (0, 0, [])),
  (15, .imul, 1, (0, 0, [])),
  (16, .iload_n 3, 1, (0, 0, [])),
  (17, .iadd, 1, (0, 0, [])),
  (18, .laload, 1, (0, 0, [])),
  (19, .aload_n 0, 1, (0, 0, [])),
  (20, .getfield 94, 3, (36, 0, [9])),
  (23, .bipush 28, 2, (0, 0, [])),
  (25, .iload_n 2, 1, (0, 0, [])),
  (26, .imul, 1, (0, 0, [])),
  (27, .iload_n 3, 1, (0, 0, [])),
  (28, .iadd, 1, (0, 0, [])),
  (29, .laload, 1, (0, 0, [])),
  (30, .lcmp, 1, (0, 0, [])),
  (31, .ifCond .eq 35, 3, (0, 0, [])),
  (34, .aload_n 0, 1, (0, 0, [])),
  (35, .getfield 94, 3, (36, 0, [9])),
  (38, .bipush 28, 2, (0, 0, [])),
  (40, .iload_n 1, 1, (0, 0, [])),
  (41, .imul, 1, (0, 0, [])),
  (42, .iload_n 3, 1, (0, 0, [])),
  (43, .iadd, 1, (0, 0, [])),
  (44, .laload, 1, (0, 0, [])),
  (45, .aload_n 0, 1, (0, 0, [])),
  (46, .getfield 94, 3, (36, 0, [9])),
  (49, .bipush 28, 2, (0, 0, [])),
  (51, .iload_n 2, 1, (0, 0, [])),
  (52, .imul, 1, (0, 0, [])),
  (53, .iload_n 3, 1, (0, 0, [])),
  (54, .iadd, 1, (0, 0, [])),
  (55, .laload, 1, (0, 0, [])),
  (56, .lcmp, 1, (0, 0, [])),
  (57, .ifCond .ge 7, 3, (0, 0, [])),
  (60, .iconst 1, 1, (0, 0, [])),
  (61, .goto 4, 3, (0, 0, [])),
  (64, .iconst 0, 1, (0, 0, [])),
  (65, .ireturn, 1, (0, 0, [])),
  (66, .iinc 3 1, 3, (0, 0, [])),
  (69, .goto (-67), 3, (0, 0, [])),
  (72, .iconst 0, 1, (0, 0, [])),
  (73, .ireturn, 1, (0, 0, []))], 0, 0)
def zm_X10_addEnd : zM := (yX10_addEnd, cX10_addEnd, 3, none, [], [], [(0, .aload_n 0, 1, (0, 0, [])),
  (1, .getfield 232, 3, (34, 0, [9])),
  (4, .istore_n 2, 1, (0, 0, [])),
  (5, .iload_n 2, 1, (0, 0, [])),
  (6, .ifCond .le 39, 3, (0, 0, [])),
  (9, .aload_n 0, 1, (0, 0, [])),
  (10, .iload_n 1, 1, (0, 0, [])),
  (11, .aload_n 0, 1, (0, 0, [])),
  (12, .getfield 97, 3, (37, 0, [9])),
  (15, .iload_n 2, 1, (0, 0, [])),
  (16, .iconst 1, 1, (0, 0, [])),
  (17, .isub, 1, (0, 0, [])),
  (18, .iaload, 1, (0, 0, [])),
  (19, .invokevirtual 235, 3, (142, 0, [2, 9])),
  (22, .ifCond .eq 23, 3, (0, 0, [])),
  (25, .aload_n 0, 1, (0, 0, [])),
  (26, .getfield 97, 3, (37, 0, [9])),
  (29, .iload_n 2, 1, (0, 0, [])),
  (30, .aload_n 0, 1, (0, 0, [])),
  (31, .getfield 97, 3, (37, 0, [9])),
  (34, .iload_n 2, 1, (0, 0, [])),
  (35, .iconst 1, 1, (0, 0, [])),
  (36, .isub, 1, (0, 0, [])),
  (37, .iaload, 1, (0, 0, [])),
  (38, .iastore, 1, (0, 0, [])),
  (39, .iinc 2 (-1), 3, (0, 0, [])),
  (42, .goto (-37), 3, (0, 0, [])),
  (45, .aload_n 0, 1, (0, 0, [])),
  (46, .getfield 97, 3, (37, 0, [9])),
  (49, .iload_n 2, 1, (0, 0, [])),
  (50, .iload_n 1, 1, (0, 0, [])),
  (51, .iastore, 1, (0, 0, [])),
  (52, .aload_n 0, 1, (0, 0, [])),
  (53, .dup, 1, (0, 0, [])),
  (54, .getfield 232, 3, (34, 0, [9])),
  (57, .iconst 1, 1, (0, 0, [])),
  (58, .iadd, 1, (0, 0, [])),
  (59, .putfield 232, 3, (34, 0, [9])),
  (62, .return_, 1, (0, 0, []))], 1, 23)
def zm_X10_goFrom : zM := (yX10_goFrom, cX10_goFrom, 6, none, [], [], [(0, .iconst 0, 1, (0, 0, [])),
  (1, .istore_n 3, 1, (0, 0, [])),
  (2, .iconst 0, 1, (0, 0, [])),
  (3, .istore 4, 2, (0, 0, [])),
  (5, .iload 4, 2, (0, 0, [])),
  (7, .iconst 4, 1, (0, 0, [])),
  (8, .if_icmp .ge 52, 3, (0, 0, [])),
  (11, .aload_n 0, 1, (0, 0, [])),
  (12, .iload_n 2, 1, (0, 0, [])),
  (13, .invokevirtual 238, 3, (133, 0, [1, 9])),
  (16, .iload 4, 2, (0, 0, [])),
  (18, .iconst 2, 1, (0, 0, [])),
  (19, .if_icmp .ge 13, 3, (0, 0, [])),
  (22, .aload_n 0, 1, (0, 0, [])),
  (23, .iload_n 1, 1, (0, 0, [])),
  (24, .iload 4, 2, (0, 0, [])),
  (26, .invokevirtual 241, 3, (139, 0, [2, 9])),
  (29, .goto 11, 3, (0, 0, [])),
  (32, .aload_n 0, 1, (0, 0, [])),
  (33, .iload 4, 2, (0, 0, [])),
  (35, .iconst 2, 1, (0, 0, [])),
  (36, .isub, 1, (0, 0, [])),
  (37, .invokevirtual 244, 3, (140, 0, [1, 9])),
  (40, .istore 5, 2, (0, 0, [])),
  (42, .iload 5, 2, (0, 0, [])),
  (44, .ifCond .eq 10, 3, (0, 0, [])),
  (47, .iinc 3 1, 3, (0, 0, [])),
  (50, .aload_n 0, 1, (0, 0, [])),
  (51, .invokevirtual 247, 3, (136, 0, [0, 9])),
  (54, .iinc 4 1, 3, (0, 0, [])),
  (57, .goto (-52), 3, (0, 0, [])),
  (60, .aload_n 0, 1, (0, 0, [])),
  (61, .iload_n 2, 1, (0, 0, [])),
  (62, .invokevirtual 238, 3, (133, 0, [1, 9])),
  (65, .aload_n 0, 1, (0, 0, [])),
  (66, .iload_n 1, 1, (0, 0, [])),
  (67, .invokevirtual 250, 3, (141, 0, [1, 9])),
  (70, .ifCond .eq 11, 3, (0, 0, [])),
  (73, .aload_n 0, 1, (0, 0, [])),
  (74, .iload_n 2, 1, (0, 0, [])),
  (75, .invokevirtual 253, 3, (143, 0, [1, 9])),
  (78, .goto 17, 3, (0, 0, [])),
  (81, .iload_n 3, 1, (0, 0, [])),
  (82, .ifCond .ne 13, 3, (0, 0, [])),
  (85, .aload_n 0, 1, (0, 0, [])),
  (86, .dup, 1, (0, 0, [])),
  (87, .getfield 256, 3, (35, 0, [9])),
  (90, .iconst 1, 1, (0, 0, [])),
  (91, .iadd, 1, (0, 0, [])),
  (92, .putfield 256, 3, (35, 0, [9])),
  (95, .return_, 1, (0, 0, []))], 2, 59)
def zm_X10_lookThrough : zM := (yX10_lookThrough, cX10_lookThrough, 3, none, [], [], [(0, .aload_n 0, 1, (0, 0, [])),
  (1, .getfield 259, 3, (32, 0, [9])),
  (4, .iload_n 1, 1, (0, 0, [])),
  (5, .if_icmp .ne 4, 3, (0, 0, [])),
  (8, .return_, 1, (0, 0, [])),
  (9, .aload_n 0, 1, (0, 0, [])),
  (10, .iload_n 1, 1, (0, 0, [])),
  (11, .putfield 259, 3, (32, 0, [9])),
  (14, .aload_n 0, 1, (0, 0, [])),
  (15, .iconst 0, 1, (0, 0, [])),
  (16, .putfield 222, 3, (33, 0, [9])),
  (19, .aload_n 0, 1, (0, 0, [])),
  (20, .iconst 0, 1, (0, 0, [])),
  (21, .putfield 232, 3, (34, 0, [9])),
  (24, .aload_n 0, 1, (0, 0, [])),
  (25, .iconst 0, 1, (0, 0, [])),
  (26, .putfield 256, 3, (35, 0, [9])),
  (29, .iconst 0, 1, (0, 0, [])),
  (30, .istore_n 2, 1, (0, 0, [])),
  (31, .iload_n 2, 1, (0, 0, [])),
  (32, .sipush 2003, 3, (0, 0, [])),
  (35, .if_icmp .ge 16, 3, (0, 0, [])),
  (38, .aload_n 0, 1, (0, 0, [])),
  (39, .getfield 103, 3, (39, 0, [9])),
  (42, .iload_n 2, 1, (0, 0, [])),
  (43, .iconst (-1), 1, (0, 0, [])),
  (44, .iastore, 1, (0, 0, [])),
  (45, .iinc 2 1, 3, (0, 0, [])),
  (48, .goto (-17), 3, (0, 0, [])),
  (51, .iconst 0, 1, (0, 0, [])),
  (52, .istore_n 2, 1, (0, 0, [])),
  (53, .iload_n 2, 1, (0, 0, [])),
  (54, .bipush 28, 2, (0, 0, [])),
  (56, .if_icmp .ge 16, 3, (0, 0, [])),
  (59, .aload_n 0, 1, (0, 0, [])),
  (60, .getfield 100, 3, (38, 0, [9])),
  (63, .iload_n 2, 1, (0, 0, [])),
  (64, .lconst 0, 1, (0, 0, [])),
  (65, .lastore, 1, (0, 0, [])),
  (66, .iinc 2 1, 3, (0, 0, [])),
  (69, .goto (-16), 3, (0, 0, [])),
  (72, .aload_n 0, 1, (0, 0, [])),
  (73, .invokevirtual 247, 3, (136, 0, [0, 9])),
  (76, .iconst 0, 1, (0, 0, [])),
  (77, .istore_n 2, 1, (0, 0, [])),
  (78, .iload_n 2, 1, (0, 0, [])),
  (79, .aload_n 0, 1, (0, 0, [])),
  (80, .getfield 222, 3, (33, 0, [9])),
  (83, .if_icmp .ge 25, 3, (0, 0, [])),
  (86, .aload_n 0, 1, (0, 0, [])),
  (87, .getfield 222, 3, (33, 0, [9])),
  (90, .sipush 2000, 3, (0, 0, [])),
  (93, .if_icmp .gt 15, 3, (0, 0, [])),
  (96, .aload_n 0, 1, (0, 0, [])),
  (97, .iload_n 1, 1, (0, 0, [])),
  (98, .iload_n 2, 1, (0, 0, [])),
  (99, .invokevirtual 262, 3, (144, 0, [2, 9])),
  (102, .iinc 2 1, 3, (0, 0, [])),
  (105, .goto (-27), 3, (0, 0, [])),
  (108, .return_, 1, (0, 0, []))], 3, 84)
def zm_X10_pair : zM := (yX10_pair, cX10_pair, 4, (some .int), [], [], [(0, .aload_n 0, 1, (0, 0, [])),
  (1, .iload_n 1, 1, (0, 0, [])),
  (2, .iconst 2, 1, (0, 0, [])),
  (3, .iconst 1, 1, (0, 0, [])),
  (4, .invokevirtual 145, 3, (100, 0, [3, 9])),
  (7, .ifCond .eq 13, 3, (0, 0, [])),
  (10, .aload_n 0, 1, (0, 0, [])),
  (11, .iload_n 2, 1, (0, 0, [])),
  (12, .iconst 2, 1, (0, 0, [])),
  (13, .iconst 1, 1, (0, 0, [])),
  (14, .invokevirtual 145, 3, (100, 0, [3, 9])),
  (17, .ifCond .ne 5, 3, (0, 0, [])),
  (20, .iconst 0, 1, (0, 0, [])),
  (21, .ireturn, 1, (0, 0, [])),
  (22, .aload_n 0, 1, (0, 0, [])),
  (23, .getfield 17, 3, (5, 0, [9])),
  (26, .iload_n 1, 1, (0, 0, [])),
  (27, .iaload, 1, (0, 0, [])),
  (28, .aload_n 0, 1, (0, 0, [])),
  (29, .getfield 17, 3, (5, 0, [9])),
  (32, .iload_n 2, 1, (0, 0, [])),
  (33, .iaload, 1, (0, 0, [])),
  (34, .if_icmp .eq 10, 3, (0, 0, [])),
  (37, .aload_n 0, 1, (0, 0, [])),
  (38, .iconst 4, 1, (0, 0, [])),
  (39, .iconst 1, 1, (0, 0, [])),
  (40, .invokevirtual 134, 3, (98, 0, [2, 9])),
  (43, .ireturn, 1, (0, 0, [])),
  (44, .aload_n 0, 1, (0, 0, [])),
  (45, .getfield 41, 3, (13, 0, [9])),
  (48, .iload_n 1, 1, (0, 0, [])),
  (49, .iaload, 1, (0, 0, [])),
  (50, .ifCond .eq 12, 3, (0, 0, [])),
  (53, .aload_n 0, 1, (0, 0, [])),
  (54, .getfield 41, 3, (13, 0, [9])),
  (57, .iload_n 2, 1, (0, 0, [])),
  (58, .iaload, 1, (0, 0, [])),
  (59, .ifCond .ne 10, 3, (0, 0, [])),
  (62, .aload_n 0, 1, (0, 0, [])),
  (63, .iconst 5, 1, (0, 0, [])),
  (64, .iconst 1, 1, (0, 0, [])),
  (65, .invokevirtual 134, 3, (98, 0, [2, 9])),
  (68, .ireturn, 1, (0, 0, [])),
  (69, .iload_n 3, 1, (0, 0, [])),
  (70, .iconst 0, 1, (0, 0, [])),
  (71, .iconst 1, 1, (0, 0, [])),
  (72, .invokestatic 126, 3, (97, 2, [3])),
  (75, .ifCond .ne 9, 3, (0, 0, [])),
  (78, .aload_n 0, 1, (0, 0, [])),
  (79, .iconst 2, 1, (0, 0, [])),
  (80, .invokevirtual 119, 3, (96, 0, [1, 9])),
  (83, .ireturn, 1, (0, 0, [])),
  (84, .aload_n 0, 1, (0, 0, [])),
  (85, .iconst 1, 1, (0, 0, [])),
  (86, .invokevirtual 138, 3, (103, 0, [1, 9])),
  (89, .ifCond .eq 5, 3, (0, 0, [])),
  (92, .iconst 0, 1, (0, 0, [])),
  (93, .ireturn, 1, (0, 0, [])),
  (94, .aload_n 0, 1, (0, 0, [])),
  (95, .getfield 38, 3, (12, 0, [9])),
  (98, .aload_n 0, 1, (0, 0, [])),
  (99, .bipush 6, 2, (0, 0, [])),
  (101, .iload_n 1, 1, (0, 0, [])),
  (102, .iload_n 2, 1, (0, 0, [])),
  (103, .invokevirtual 141, 3, (102, 0, [3, 9])),
  (106, .iload_n 3, 1, (0, 0, [])),
  (107, .iastore, 1, (0, 0, [])),
  (108, .aload_n 0, 1, (0, 0, [])),
  (109, .getfield 123, 3, (2, 0, [9])),
  (112, .ireturn, 1, (0, 0, []))], 3, 67)
def zm_X10_isSmall : zM := (yX10_isSmall, cX10_isSmall, 2, (some .boolean), [], [], [(0, .aload_n 0, 1, (0, 0, [])),
  (1, .iload_n 1, 1, (0, 0, [])),
  (2, .invokevirtual 265, 3, (145, 0, [1, 9])),
  (5, .aload_n 0, 1, (0, 0, [])),
  (6, .getfield 222, 3, (33, 0, [9])),
  (9, .sipush 2000, 3, (0, 0, [])),
  (12, .if_icmp .le 11, 3, (0, 0, [])),
  (15, .aload_n 0, 1, (0, 0, [])),
  (16, .bipush 7, 2, (0, 0, [])),
  (18, .iconst 1, 1, (0, 0, [])),
  (19, .invokevirtual 134, 3, (98, 0, [2, 9])),
  (22, .pop, 1, (0, 0, [])),
  (23, .aload_n 0, 1, (0, 0, [])),
  (24, .getfield 222, 3, (33, 0, [9])),
  (27, .sipush 2000, 3, (0, 0, [])),
  (30, .if_icmp .gt 7, 3, (0, 0, [])),
  (33, .iconst 1, 1, (0, 0, [])),
  (34, .goto 4, 3, (0, 0, [])),
  (37, .iconst 0, 1, (0, 0, [])),
  (38, .ireturn, 1, (0, 0, []))], 4, 106)
def zm_X10_explore : zM := (yX10_explore, cX10_explore, 3, (some .int), [], [], [(0, .aload_n 0, 1, (0, 0, [])),
  (1, .iload_n 1, 1, (0, 0, [])),
  (2, .bipush 6, 2, (0, 0, [])),
  (4, .iconst 1, 1, (0, 0, [])),
  (5, .invokevirtual 145, 3, (100, 0, [3, 9])),
  (8, .ifCond .ne 5, 3, (0, 0, [])),
  (11, .iconst 0, 1, (0, 0, [])),
  (12, .ireturn, 1, (0, 0, [])),
  (13, .iload_n 2, 1, (0, 0, [])),
  (14, .iconst 0, 1, (0, 0, [])),
  (15, .iconst 2, 1, (0, 0, [])),
  (16, .invokestatic 126, 3, (97, 2, [3])),
  (19, .ifCond .ne 9, 3, (0, 0, [])),
  (22, .aload_n 0, 1, (0, 0, [])),
  (23, .iconst 2, 1, (0, 0, [])),
  (24, .invokevirtual 119, 3, (96, 0, [1, 9])),
  (27, .ireturn, 1, (0, 0, [])),
  (28, .aload_n 0, 1, (0, 0, [])),
  (29, .iload_n 1, 1, (0, 0, [])),
  (30, .invokevirtual 268, 3, (147, 0, [1, 9])),
  (33, .ifCond .ne 5, 3, (0, 0, [])),
  (36, .iconst 0, 1, (0, 0, [])),
  (37, .ireturn, 1, (0, 0, [])),
  (38, .iload_n 2, 1, (0, 0, [])),
  (39, .ifCond .ne 10, 3, (0, 0, [])),
  (42, .aload_n 0, 1, (0, 0, [])),
  (43, .getfield 222, 3, (33, 0, [9])),
  (46, .goto 19, 3, (0, 0, [])),
  (49, .iload_n 2, 1, (0, 0, [])),
  (50, .iconst 1, 1, (0, 0, [])),
  (51, .if_icmp .ne 10, 3, (0, 0, [])),
  (54, .aload_n 0, 1, (0, 0, [])),
  (55, .getfield 232, 3, (34, 0, [9])),
  (58, .goto 7, 3, (0, 0, [])),
  (61, .aload_n 0, 1, (0, 0, [])),
  (62, .getfield 256, 3, (35, 0, [9])),
  (65, .ireturn, 1, (0, 0, []))], 5, 127)
def zm_X10_end : zM := (yX10_end, cX10_end, 4, (some .long), [], [], [(0, .aload_n 0, 1, (0, 0, [])),
  (1, .iload_n 1, 1, (0, 0, [])),
  (2, .bipush 6, 2, (0, 0, [])),
  (4, .iconst 1, 1, (0, 0, [])),
  (5, .invokevirtual 145, 3, (100, 0, [3, 9])),
  (8, .ifCond .ne 5, 3, (0, 0, [])),
  (11, .lconst 0, 1, (0, 0, [])),
  (12, .lreturn, 1, (0, 0, [])),
  (13, .aload_n 0, 1, (0, 0, [])),
  (14, .iload_n 3, 1, (0, 0, [])),
  (15, .iconst 0, 1, (0, 0, [])),
  (16, .bipush 7, 2, (0, 0, [])),
  (18, .aload_n 0, 1, (0, 0, [])),
  (19, .getfield 26, 3, (8, 0, [9])),
  (22, .aload_n 0, 1, (0, 0, [])),
  (23, .getfield 17, 3, (5, 0, [9])),
  (26, .aload_n 0, 1, (0, 0, [])),
  (27, .getfield 17, 3, (5, 0, [9])),
  (30, .iload_n 1, 1, (0, 0, [])),
  (31, .iaload, 1, (0, 0, [])),
  (32, .iaload, 1, (0, 0, [])),
  (33, .iaload, 1, (0, 0, [])),
  (34, .iadd, 1, (0, 0, [])),
  (35, .invokestatic 126, 3, (97, 2, [3])),
  (38, .ifCond .eq 7, 3, (0, 0, [])),
  (41, .iconst 0, 1, (0, 0, [])),
  (42, .goto 4, 3, (0, 0, [])),
  (45, .iconst 2, 1, (0, 0, [])),
  (46, .putfield 112, 3, (0, 0, [9])),
  (49, .aload_n 0, 1, (0, 0, [])),
  (50, .getfield 112, 3, (0, 0, [9])),
  (53, .ifCond .gt 11, 3, (0, 0, [])),
  (56, .aload_n 0, 1, (0, 0, [])),
  (57, .iload_n 1, 1, (0, 0, [])),
  (58, .invokevirtual 268, 3, (147, 0, [1, 9])),
  (61, .ifCond .ne 5, 3, (0, 0, [])),
  (64, .lconst 0, 1, (0, 0, [])),
  (65, .lreturn, 1, (0, 0, [])),
  (66, .aload_n 0, 1, (0, 0, [])),
  (67, .iload_n 2, 1, (0, 0, [])),
  (68, .iconst 0, 1, (0, 0, [])),
  (69, .aload_n 0, 1, (0, 0, [])),
  (70, .getfield 232, 3, (34, 0, [9])),
  (73, .iconst 1, 1, (0, 0, [])),
  (74, .isub, 1, (0, 0, [])),
  (75, .invokestatic 126, 3, (97, 2, [3])),
  (78, .ifCond .eq 7, 3, (0, 0, [])),
  (81, .iconst 0, 1, (0, 0, [])),
  (82, .goto 4, 3, (0, 0, [])),
  (85, .iconst 3, 1, (0, 0, [])),
  (86, .putfield 112, 3, (0, 0, [9])),
  (89, .aload_n 0, 1, (0, 0, [])),
  (90, .getfield 112, 3, (0, 0, [9])),
  (93, .ifCond .ne 24, 3, (0, 0, [])),
  (96, .aload_n 0, 1, (0, 0, [])),
  (97, .getfield 94, 3, (36, 0, [9])),
  (100, .bipush 28, 2, (0, 0, [])),
  (102, .aload_n 0, 1, (0, 0, [])),
  (103, .getfield 97, 3, (37, 0, [9])),
  (106, .iload_n 2, 1, (0, 0, [])),
  (107, .iaload, 1, (0, 0, [])),
  (108, .imul, 1, (0, 0, [])),
  (109, .iconst 2, 1, (0, 0, [])),
  (110, .iadd, 1, (0, 0, [])),
  (111, .iload_n 3, 1, (0, 0, [])),
  (112, .iadd, 1, (0, 0, [])),
  (113, .laload, 1, (0, 0, [])),
  (114, .goto 4, 3, (0, 0, [])),
  (117, .lconst 0, 1, (0, 0, [])),
  (118, .lreturn, 1, (0, 0, []))], 5, 127)
def zm_X10_drop : zM := (yX10_drop, cX10_drop, 2, (some .int), [], [], [(0, .aload_n 0, 1, (0, 0, [])),
  (1, .iconst 0, 1, (0, 0, [])),
  (2, .putfield 112, 3, (0, 0, [9])),
  (5, .aload_n 0, 1, (0, 0, [])),
  (6, .iload_n 1, 1, (0, 0, [])),
  (7, .invokevirtual 130, 3, (99, 0, [1, 9])),
  (10, .ifCond .ne 10, 3, (0, 0, [])),
  (13, .aload_n 0, 1, (0, 0, [])),
  (14, .iconst 1, 1, (0, 0, [])),
  (15, .iconst 1, 1, (0, 0, [])),
  (16, .invokevirtual 134, 3, (98, 0, [2, 9])),
  (19, .ireturn, 1, (0, 0, [])),
  (20, .aload_n 0, 1, (0, 0, [])),
  (21, .iload_n 1, 1, (0, 0, [])),
  (22, .invokevirtual 148, 3, (101, 0, [1, 9])),
  (25, .ifCond .eq 10, 3, (0, 0, [])),
  (28, .aload_n 0, 1, (0, 0, [])),
  (29, .iconst 3, 1, (0, 0, [])),
  (30, .iconst 1, 1, (0, 0, [])),
  (31, .invokevirtual 134, 3, (98, 0, [2, 9])),
  (34, .ireturn, 1, (0, 0, [])),
  (35, .aload_n 0, 1, (0, 0, [])),
  (36, .getfield 13, 3, (4, 0, [9])),
  (39, .iload_n 1, 1, (0, 0, [])),
  (40, .iconst 0, 1, (0, 0, [])),
  (41, .bastore, 1, (0, 0, [])),
  (42, .aload_n 0, 1, (0, 0, [])),
  (43, .getfield 7, 3, (3, 0, [9])),
  (46, .iload_n 1, 1, (0, 0, [])),
  (47, .iaload, 1, (0, 0, [])),
  (48, .ireturn, 1, (0, 0, []))], 2, 43)
def zm_X10_kind : zM := (yX10_kind, cX10_kind, 2, (some .int), [], [], [(0, .aload_n 0, 1, (0, 0, [])),
  (1, .iconst 0, 1, (0, 0, [])),
  (2, .putfield 112, 3, (0, 0, [9])),
  (5, .aload_n 0, 1, (0, 0, [])),
  (6, .iload_n 1, 1, (0, 0, [])),
  (7, .invokevirtual 130, 3, (99, 0, [1, 9])),
  (10, .ifCond .eq 12, 3, (0, 0, [])),
  (13, .aload_n 0, 1, (0, 0, [])),
  (14, .getfield 7, 3, (3, 0, [9])),
  (17, .iload_n 1, 1, (0, 0, [])),
  (18, .iaload, 1, (0, 0, [])),
  (19, .goto 4, 3, (0, 0, [])),
  (22, .iconst 0, 1, (0, 0, [])),
  (23, .ireturn, 1, (0, 0, []))], 2, 43)
def zm_X10_rule : zM := (yX10_rule, cX10_rule, 1, (some .int), [], [], [(0, .aload_n 0, 1, (0, 0, [])),
  (1, .iconst 0, 1, (0, 0, [])),
  (2, .putfield 112, 3, (0, 0, [9])),
  (5, .aload_n 0, 1, (0, 0, [])),
  (6, .getfield 116, 3, (1, 0, [9])),
  (9, .ireturn, 1, (0, 0, []))], 0, 0)
def zm_X10_count : zM := (yX10_count, cX10_count, 4, (some .int), [], [], [(0, .aload_n 0, 1, (0, 0, [])),
  (1, .iconst 0, 1, (0, 0, [])),
  (2, .putfield 112, 3, (0, 0, [9])),
  (5, .iload_n 1, 1, (0, 0, [])),
  (6, .iconst 0, 1, (0, 0, [])),
  (7, .bipush 7, 2, (0, 0, [])),
  (9, .invokestatic 126, 3, (97, 2, [3])),
  (12, .ifCond .ne 5, 3, (0, 0, [])),
  (15, .iconst (-1), 1, (0, 0, [])),
  (16, .ireturn, 1, (0, 0, [])),
  (17, .iconst 0, 1, (0, 0, [])),
  (18, .istore_n 2, 1, (0, 0, [])),
  (19, .iconst 1, 1, (0, 0, [])),
  (20, .istore_n 3, 1, (0, 0, [])),
  (21, .iload_n 3, 1, (0, 0, [])),
  (22, .aload_n 0, 1, (0, 0, [])),
  (23, .getfield 123, 3, (2, 0, [9])),
  (26, .if_icmp .gt 43, 3, (0, 0, [])),
  (29, .iload_n 2, 1, (0, 0, [])),
  (30, .aload_n 0, 1, (0, 0, [])),
  (31, .getfield 13, 3, (4, 0, [9])),
  (34, .iload_n 3, 1, (0, 0, [])),
  (35, .baload, 1, (0, 0, [])),
  (36, .ifCond .eq 24, 3, (0, 0, [])),
  (39, .iload_n 1, 1, (0, 0, [])),
  (40, .iconst 1, 1, (0, 0, [])),
  (41, .if_icmp .eq 15, 3, (0, 0, [])),
  (44, .aload_n 0, 1, (0, 0, [])),
  (45, .getfield 7, 3, (3, 0, [9])),
  (48, .iload_n 3, 1, (0, 0, [])),
  (49, .iaload, 1, (0, 0, [])),
  (50, .iload_n 1, 1, (0, 0, [])),
  (51, .iconst 1, 1, (0, 0, [])),
  (52, .isub, 1, (0, 0, [])),
  (53, .if_icmp .ne 7, 3, (0, 0, [])),
  (56, .iconst 1, 1, (0, 0, [])),
  (57, .goto 4, 3, (0, 0, [])),
  (60, .iconst 0, 1, (0, 0, [])),
  (61, .iadd, 1, (0, 0, [])),
  (62, .istore_n 2, 1, (0, 0, [])),
  (63, .iinc 3 1, 3, (0, 0, [])),
  (66, .goto (-45), 3, (0, 0, [])),
  (69, .iload_n 1, 1, (0, 0, [])),
  (70, .ifCond .ne 10, 3, (0, 0, [])),
  (73, .aload_n 0, 1, (0, 0, [])),
  (74, .getfield 123, 3, (2, 0, [9])),
  (77, .goto 4, 3, (0, 0, [])),
  (80, .iload_n 2, 1, (0, 0, [])),
  (81, .ireturn, 1, (0, 0, []))], 1, 22)
def zm_J9_floorMod_7cf53 : zM := (yJ9_floorMod_7cf53, cJ9_floorMod_7cf53, 3, (some .int), [], [], [(0, .iload_n 0, 1, (0, 0, [])),
  (1, .iload_n 1, 1, (0, 0, [])),
  (2, .irem, 1, (0, 0, [])),
  (3, .istore_n 2, 1, (0, 0, [])),
  (4, .iload_n 0, 1, (0, 0, [])),
  (5, .iload_n 1, 1, (0, 0, [])),
  (6, .ixor, 1, (0, 0, [])),
  (7, .ifCond .ge 11, 3, (0, 0, [])),
  (10, .iload_n 2, 1, (0, 0, [])),
  (11, .ifCond .eq 7, 3, (0, 0, [])),
  (14, .iload_n 2, 1, (0, 0, [])),
  (15, .iload_n 1, 1, (0, 0, [])),
  (16, .iadd, 1, (0, 0, [])),
  (17, .ireturn, 1, (0, 0, [])),
  (18, .iload_n 2, 1, (0, 0, [])),
  (19, .ireturn, 1, (0, 0, []))], 0, 0)
def zm_J9_max_7cf53 : zM := (yJ9_max_7cf53, cJ9_max_7cf53, 2, (some .int), [], [], [(0, .iload_n 0, 1, (0, 0, [])),
  (1, .iload_n 1, 1, (0, 0, [])),
  (2, .if_icmp .lt 7, 3, (0, 0, [])),
  (5, .iload_n 0, 1, (0, 0, [])),
  (6, .goto 4, 3, (0, 0, [])),
  (9, .iload_n 1, 1, (0, 0, [])),
  (10, .ireturn, 1, (0, 0, []))], 0, 0)
def zm_J7_fill_d0a16 : zM := (yJ7_fill_d0a16, cJ7_fill_d0a16, 5, none, [], [], [(0, .iconst 0, 1, (0, 0, [])),
  (1, .istore_n 3, 1, (0, 0, [])),
  (2, .aload_n 0, 1, (0, 0, [])),
  (3, .arraylength, 1, (0, 0, [])),
  (4, .istore 4, 2, (0, 0, [])),
  (6, .iload_n 3, 1, (0, 0, [])),
  (7, .iload 4, 2, (0, 0, [])),
  (9, .if_icmp .ge 13, 3, (0, 0, [])),
  (12, .aload_n 0, 1, (0, 0, [])),
  (13, .iload_n 3, 1, (0, 0, [])),
  (14, .lload_n 1, 1, (0, 0, [])),
  (15, .lastore, 1, (0, 0, [])),
  (16, .iinc 3 1, 3, (0, 0, [])),
  (19, .goto (-13), 3, (0, 0, [])),
  (22, .return_, 1, (0, 0, []))], 0, 0)
def zm_J7_fill_53178 : zM := (yJ7_fill_53178, cJ7_fill_53178, 4, none, [], [], [(0, .iconst 0, 1, (0, 0, [])),
  (1, .istore_n 2, 1, (0, 0, [])),
  (2, .aload_n 0, 1, (0, 0, [])),
  (3, .arraylength, 1, (0, 0, [])),
  (4, .istore_n 3, 1, (0, 0, [])),
  (5, .iload_n 2, 1, (0, 0, [])),
  (6, .iload_n 3, 1, (0, 0, [])),
  (7, .if_icmp .ge 13, 3, (0, 0, [])),
  (10, .aload_n 0, 1, (0, 0, [])),
  (11, .iload_n 2, 1, (0, 0, [])),
  (12, .iload_n 1, 1, (0, 0, [])),
  (13, .iastore, 1, (0, 0, [])),
  (14, .iinc 2 1, 3, (0, 0, [])),
  (17, .goto (-12), 3, (0, 0, [])),
  (20, .return_, 1, (0, 0, []))], 0, 0)
def zm_L_machine : zM := (yL_machine, cL_machine, 5, (some .int), [(0, 10, 13, 13), (0, 10, 17, 15)], [1, 0], [(0, .aload_n 3, 1, (0, 0, [])),
  (1, .iconst 0, 1, (0, 0, [])),
  (2, .aload_n 0, 1, (0, 0, [])),
  (3, .iload_n 1, 1, (0, 0, [])),
  (4, .iload_n 2, 1, (0, 0, [])),
  (5, .invokevirtual 7, 3, (57, 0, [2, 8])),
  (8, .i2l, 1, (0, 0, [])),
  (9, .lastore, 1, (0, 0, [])),
  (10, .goto 11, 3, (0, 0, [])),
  (13, .astore 4, 2, (0, 0, [])),
  (15, .iconst 1, 1, (0, 0, [])),
  (16, .ireturn, 1, (0, 0, [])),
  (17, .astore 4, 2, (0, 0, [])),
  (19, .iconst 2, 1, (0, 0, [])),
  (20, .ireturn, 1, (0, 0, [])),
  (21, .iconst 0, 1, (0, 0, [])),
  (22, .ireturn, 1, (0, 0, []))], 9, 154)
def zm_L_program : zM := (yL_program, cL_program, 4, (some .int), [(0, 9, 12, 15)], [0], [(0, .aload_n 2, 1, (0, 0, [])),
  (1, .iconst 0, 1, (0, 0, [])),
  (2, .aload_n 0, 1, (0, 0, [])),
  (3, .iload_n 1, 1, (0, 0, [])),
  (4, .invokevirtual 17, 3, (58, 0, [1, 8])),
  (7, .i2l, 1, (0, 0, [])),
  (8, .lastore, 1, (0, 0, [])),
  (9, .goto 6, 3, (0, 0, [])),
  (12, .astore_n 3, 1, (0, 0, [])),
  (13, .iconst 1, 1, (0, 0, [])),
  (14, .ireturn, 1, (0, 0, [])),
  (15, .iconst 0, 1, (0, 0, [])),
  (16, .ireturn, 1, (0, 0, []))], 9, 156)
def zm_L_word : zM := (yL_word, cL_word, 9, (some .int), [(0, 18, 21, 15), (0, 18, 25, 13), (0, 18, 29, 25)], [0, 1, 2], [(0, .aload 7, 2, (0, 0, [])),
  (2, .iconst 0, 1, (0, 0, [])),
  (3, .aload_n 0, 1, (0, 0, [])),
  (4, .iload_n 1, 1, (0, 0, [])),
  (5, .iload_n 2, 1, (0, 0, [])),
  (6, .iload_n 3, 1, (0, 0, [])),
  (7, .iload 4, 2, (0, 0, [])),
  (9, .iload 5, 2, (0, 0, [])),
  (11, .iload 6, 2, (0, 0, [])),
  (13, .invokevirtual 21, 3, (59, 0, [6, 8])),
  (16, .i2l, 1, (0, 0, [])),
  (17, .lastore, 1, (0, 0, [])),
  (18, .goto 15, 3, (0, 0, [])),
  (21, .astore 8, 2, (0, 0, [])),
  (23, .iconst 1, 1, (0, 0, [])),
  (24, .ireturn, 1, (0, 0, [])),
  (25, .astore 8, 2, (0, 0, [])),
  (27, .iconst 2, 1, (0, 0, [])),
  (28, .ireturn, 1, (0, 0, [])),
  (29, .astore 8, 2, (0, 0, [])),
  (31, .iconst 3, 1, (0, 0, [])),
  (32, .ireturn, 1, (0, 0, [])),
  (33, .iconst 0, 1, (0, 0, [])),
  (34, .ireturn, 1, (0, 0, []))], 9, 163)
def zm_L_run : zM := (yL_run, cL_run, 4, (some .int), [(0, 9, 12, 15)], [0], [(0, .aload_n 2, 1, (0, 0, [])),
  (1, .iconst 0, 1, (0, 0, [])),
  (2, .aload_n 0, 1, (0, 0, [])),
  (3, .iload_n 1, 1, (0, 0, [])),
  (4, .invokevirtual 27, 3, (60, 0, [1, 8])),
  (7, .i2l, 1, (0, 0, [])),
  (8, .lastore, 1, (0, 0, [])),
  (9, .goto 6, 3, (0, 0, [])),
  (12, .astore_n 3, 1, (0, 0, [])),
  (13, .iconst 1, 1, (0, 0, [])),
  (14, .ireturn, 1, (0, 0, [])),
  (15, .iconst 0, 1, (0, 0, [])),
  (16, .ireturn, 1, (0, 0, []))], 9, 157)
def zm_L_step : zM := (yL_step, cL_step, 5, (some .int), [(0, 10, 13, 15), (0, 10, 17, 13)], [0, 1], [(0, .aload_n 3, 1, (0, 0, [])),
  (1, .iconst 0, 1, (0, 0, [])),
  (2, .aload_n 0, 1, (0, 0, [])),
  (3, .iload_n 1, 1, (0, 0, [])),
  (4, .iload_n 2, 1, (0, 0, [])),
  (5, .invokevirtual 30, 3, (61, 0, [2, 8])),
  (8, .i2l, 1, (0, 0, [])),
  (9, .lastore, 1, (0, 0, [])),
  (10, .goto 11, 3, (0, 0, [])),
  (13, .astore 4, 2, (0, 0, [])),
  (15, .iconst 1, 1, (0, 0, [])),
  (16, .ireturn, 1, (0, 0, [])),
  (17, .astore 4, 2, (0, 0, [])),
  (19, .iconst 2, 1, (0, 0, [])),
  (20, .ireturn, 1, (0, 0, [])),
  (21, .iconst 0, 1, (0, 0, [])),
  (22, .ireturn, 1, (0, 0, []))], 9, 159)
def zm_L_core : zM := (yL_core, cL_core, 8, (some .int), [(0, 16, 19, 15), (0, 16, 23, 13)], [0, 1], [(0, .aload 6, 2, (0, 0, [])),
  (2, .iconst 0, 1, (0, 0, [])),
  (3, .aload_n 0, 1, (0, 0, [])),
  (4, .iload_n 1, 1, (0, 0, [])),
  (5, .iload_n 2, 1, (0, 0, [])),
  (6, .iload_n 3, 1, (0, 0, [])),
  (7, .iload 4, 2, (0, 0, [])),
  (9, .iload 5, 2, (0, 0, [])),
  (11, .invokevirtual 33, 3, (62, 0, [5, 8])),
  (14, .i2l, 1, (0, 0, [])),
  (15, .lastore, 1, (0, 0, [])),
  (16, .goto 11, 3, (0, 0, [])),
  (19, .astore 7, 2, (0, 0, [])),
  (21, .iconst 1, 1, (0, 0, [])),
  (22, .ireturn, 1, (0, 0, [])),
  (23, .astore 7, 2, (0, 0, [])),
  (25, .iconst 2, 1, (0, 0, [])),
  (26, .ireturn, 1, (0, 0, [])),
  (27, .iconst 0, 1, (0, 0, [])),
  (28, .ireturn, 1, (0, 0, []))], 9, 162)
def zm_L_change : zM := (yL_change, cL_change, 8, (some .int), [(0, 16, 19, 15), (0, 16, 23, 13)], [0, 1], [(0, .aload 6, 2, (0, 0, [])),
  (2, .iconst 0, 1, (0, 0, [])),
  (3, .aload_n 0, 1, (0, 0, [])),
  (4, .iload_n 1, 1, (0, 0, [])),
  (5, .iload_n 2, 1, (0, 0, [])),
  (6, .iload_n 3, 1, (0, 0, [])),
  (7, .iload 4, 2, (0, 0, [])),
  (9, .iload 5, 2, (0, 0, [])),
  (11, .invokevirtual 37, 3, (63, 0, [5, 8])),
  (14, .i2l, 1, (0, 0, [])),
  (15, .lastore, 1, (0, 0, [])),
  (16, .goto 11, 3, (0, 0, [])),
  (19, .astore 7, 2, (0, 0, [])),
  (21, .iconst 1, 1, (0, 0, [])),
  (22, .ireturn, 1, (0, 0, [])),
  (23, .astore 7, 2, (0, 0, [])),
  (25, .iconst 2, 1, (0, 0, [])),
  (26, .ireturn, 1, (0, 0, [])),
  (27, .iconst 0, 1, (0, 0, [])),
  (28, .ireturn, 1, (0, 0, []))], 9, 163)
def zm_L_sim : zM := (yL_sim, cL_sim, 5, (some .int), [(0, 10, 13, 15)], [0], [(0, .aload_n 3, 1, (0, 0, [])),
  (1, .iconst 0, 1, (0, 0, [])),
  (2, .aload_n 0, 1, (0, 0, [])),
  (3, .iload_n 1, 1, (0, 0, [])),
  (4, .iload_n 2, 1, (0, 0, [])),
  (5, .invokevirtual 40, 3, (64, 0, [2, 8])),
  (8, .i2l, 1, (0, 0, [])),
  (9, .lastore, 1, (0, 0, [])),
  (10, .goto 7, 3, (0, 0, [])),
  (13, .astore 4, 2, (0, 0, [])),
  (15, .iconst 1, 1, (0, 0, [])),
  (16, .ireturn, 1, (0, 0, [])),
  (17, .iconst 0, 1, (0, 0, [])),
  (18, .ireturn, 1, (0, 0, []))], 9, 159)
def zm_L_cycles : zM := (yL_cycles, cL_cycles, 5, (some .int), [(0, 10, 13, 15), (0, 10, 17, 13)], [0, 1], [(0, .aload_n 3, 1, (0, 0, [])),
  (1, .iconst 0, 1, (0, 0, [])),
  (2, .aload_n 0, 1, (0, 0, [])),
  (3, .iload_n 1, 1, (0, 0, [])),
  (4, .iload_n 2, 1, (0, 0, [])),
  (5, .invokevirtual 43, 3, (65, 0, [2, 8])),
  (8, .i2l, 1, (0, 0, [])),
  (9, .lastore, 1, (0, 0, [])),
  (10, .goto 11, 3, (0, 0, [])),
  (13, .astore 4, 2, (0, 0, [])),
  (15, .iconst 1, 1, (0, 0, [])),
  (16, .ireturn, 1, (0, 0, [])),
  (17, .astore 4, 2, (0, 0, [])),
  (19, .iconst 2, 1, (0, 0, [])),
  (20, .ireturn, 1, (0, 0, [])),
  (21, .iconst 0, 1, (0, 0, [])),
  (22, .ireturn, 1, (0, 0, []))], 9, 159)
def zm_L_state : zM := (yL_state, cL_state, 5, (some .int), [(0, 10, 13, 15), (0, 10, 17, 13)], [0, 1], [(0, .aload_n 3, 1, (0, 0, [])),
  (1, .iconst 0, 1, (0, 0, [])),
  (2, .aload_n 0, 1, (0, 0, [])),
  (3, .iload_n 1, 1, (0, 0, [])),
  (4, .iload_n 2, 1, (0, 0, [])),
  (5, .invokevirtual 46, 3, (66, 0, [2, 8])),
  (8, .i2l, 1, (0, 0, [])),
  (9, .lastore, 1, (0, 0, [])),
  (10, .goto 11, 3, (0, 0, [])),
  (13, .astore 4, 2, (0, 0, [])),
  (15, .iconst 1, 1, (0, 0, [])),
  (16, .ireturn, 1, (0, 0, [])),
  (17, .astore 4, 2, (0, 0, [])),
  (19, .iconst 2, 1, (0, 0, [])),
  (20, .ireturn, 1, (0, 0, [])),
  (21, .iconst 0, 1, (0, 0, [])),
  (22, .ireturn, 1, (0, 0, []))], 9, 160)
def zm_L_number : zM := (yL_number, cL_number, 5, (some .int), [(0, 9, 12, 15), (0, 9, 16, 13)], [0, 1], [(0, .aload_n 3, 1, (0, 0, [])),
  (1, .iconst 0, 1, (0, 0, [])),
  (2, .aload_n 0, 1, (0, 0, [])),
  (3, .iload_n 1, 1, (0, 0, [])),
  (4, .iload_n 2, 1, (0, 0, [])),
  (5, .invokevirtual 49, 3, (67, 0, [2, 8])),
  (8, .lastore, 1, (0, 0, [])),
  (9, .goto 11, 3, (0, 0, [])),
  (12, .astore 4, 2, (0, 0, [])),
  (14, .iconst 1, 1, (0, 0, [])),
  (15, .ireturn, 1, (0, 0, [])),
  (16, .astore 4, 2, (0, 0, [])),
  (18, .iconst 2, 1, (0, 0, [])),
  (19, .ireturn, 1, (0, 0, [])),
  (20, .iconst 0, 1, (0, 0, [])),
  (21, .ireturn, 1, (0, 0, []))], 9, 158)
def zm_L_agrees : zM := (yL_agrees, cL_agrees, 5, (some .int), [(0, 17, 20, 15)], [0], [(0, .aload_n 3, 1, (0, 0, [])),
  (1, .iconst 0, 1, (0, 0, [])),
  (2, .aload_n 0, 1, (0, 0, [])),
  (3, .iload_n 1, 1, (0, 0, [])),
  (4, .iload_n 2, 1, (0, 0, [])),
  (5, .invokevirtual 53, 3, (68, 0, [2, 8])),
  (8, .ifCond .eq 7, 3, (0, 0, [])),
  (11, .lconst 1, 1, (0, 0, [])),
  (12, .goto 4, 3, (0, 0, [])),
  (15, .lconst 0, 1, (0, 0, [])),
  (16, .lastore, 1, (0, 0, [])),
  (17, .goto 7, 3, (0, 0, [])),
  (20, .astore 4, 2, (0, 0, [])),
  (22, .iconst 1, 1, (0, 0, [])),
  (23, .ireturn, 1, (0, 0, [])),
  (24, .iconst 0, 1, (0, 0, [])),
  (25, .ireturn, 1, (0, 0, []))], 9, 161)
def zm_L_pair : zM := (yL_pair, cL_pair, 6, (some .int), [(0, 12, 15, 15), (0, 12, 19, 13)], [0, 1], [(0, .aload 4, 2, (0, 0, [])),
  (2, .iconst 0, 1, (0, 0, [])),
  (3, .aload_n 0, 1, (0, 0, [])),
  (4, .iload_n 1, 1, (0, 0, [])),
  (5, .iload_n 2, 1, (0, 0, [])),
  (6, .iload_n 3, 1, (0, 0, [])),
  (7, .invokevirtual 57, 3, (69, 0, [3, 8])),
  (10, .i2l, 1, (0, 0, [])),
  (11, .lastore, 1, (0, 0, [])),
  (12, .goto 11, 3, (0, 0, [])),
  (15, .astore 5, 2, (0, 0, [])),
  (17, .iconst 1, 1, (0, 0, [])),
  (18, .ireturn, 1, (0, 0, [])),
  (19, .astore 5, 2, (0, 0, [])),
  (21, .iconst 2, 1, (0, 0, [])),
  (22, .ireturn, 1, (0, 0, [])),
  (23, .iconst 0, 1, (0, 0, [])),
  (24, .ireturn, 1, (0, 0, []))], 9, 160)
def zm_L_explore : zM := (yL_explore, cL_explore, 5, (some .int), [(0, 10, 13, 15), (0, 10, 17, 13)], [0, 1], [(0, .aload_n 3, 1, (0, 0, [])),
  (1, .iconst 0, 1, (0, 0, [])),
  (2, .aload_n 0, 1, (0, 0, [])),
  (3, .iload_n 1, 1, (0, 0, [])),
  (4, .iload_n 2, 1, (0, 0, [])),
  (5, .invokevirtual 61, 3, (70, 0, [2, 8])),
  (8, .i2l, 1, (0, 0, [])),
  (9, .lastore, 1, (0, 0, [])),
  (10, .goto 11, 3, (0, 0, [])),
  (13, .astore 4, 2, (0, 0, [])),
  (15, .iconst 1, 1, (0, 0, [])),
  (16, .ireturn, 1, (0, 0, [])),
  (17, .astore 4, 2, (0, 0, [])),
  (19, .iconst 2, 1, (0, 0, [])),
  (20, .ireturn, 1, (0, 0, [])),
  (21, .iconst 0, 1, (0, 0, [])),
  (22, .ireturn, 1, (0, 0, []))], 9, 188)
def zm_L_end : zM := (yL_end, cL_end, 6, (some .int), [(0, 11, 14, 15), (0, 11, 18, 13), (0, 11, 22, 68)], [0, 1, 3], [(0, .aload 4, 2, (0, 0, [])),
  (2, .iconst 0, 1, (0, 0, [])),
  (3, .aload_n 0, 1, (0, 0, [])),
  (4, .iload_n 1, 1, (0, 0, [])),
  (5, .iload_n 2, 1, (0, 0, [])),
  (6, .iload_n 3, 1, (0, 0, [])),
  (7, .invokevirtual 64, 3, (71, 0, [3, 8])),
  (10, .lastore, 1, (0, 0, [])),
  (11, .goto 15, 3, (0, 0, [])),
  (14, .astore 5, 2, (0, 0, [])),
  (16, .iconst 1, 1, (0, 0, [])),
  (17, .ireturn, 1, (0, 0, [])),
  (18, .astore 5, 2, (0, 0, [])),
  (20, .iconst 2, 1, (0, 0, [])),
  (21, .ireturn, 1, (0, 0, [])),
  (22, .astore 5, 2, (0, 0, [])),
  (24, .iconst 3, 1, (0, 0, [])),
  (25, .ireturn, 1, (0, 0, [])),
  (26, .iconst 0, 1, (0, 0, [])),
  (27, .ireturn, 1, (0, 0, []))], 9, 189)
def zm_L_drop : zM := (yL_drop, cL_drop, 4, (some .int), [(0, 9, 12, 15)], [0], [(0, .aload_n 2, 1, (0, 0, [])),
  (1, .iconst 0, 1, (0, 0, [])),
  (2, .aload_n 0, 1, (0, 0, [])),
  (3, .iload_n 1, 1, (0, 0, [])),
  (4, .invokevirtual 70, 3, (72, 0, [1, 8])),
  (7, .i2l, 1, (0, 0, [])),
  (8, .lastore, 1, (0, 0, [])),
  (9, .goto 6, 3, (0, 0, [])),
  (12, .astore_n 3, 1, (0, 0, [])),
  (13, .iconst 1, 1, (0, 0, [])),
  (14, .ireturn, 1, (0, 0, [])),
  (15, .iconst 0, 1, (0, 0, [])),
  (16, .ireturn, 1, (0, 0, []))], 9, 158)
def zm_L_law : zM := (yL_law, cL_law, 8, (some .boolean), [], [], [(0, .new 8, 3, (8, 0, [])),
  (3, .dup, 1, (0, 0, [])),
  (4, .invokespecial 73, 3, (56, 3, [0])),
  (7, .astore_n 1, 1, (0, 0, [])),
  (8, .new 74, 3, (9, 0, [])),
  (11, .dup, 1, (0, 0, [])),
  (12, .invokespecial 76, 3, (94, 3, [0])),
  (15, .astore_n 2, 1, (0, 0, [])),
  (16, .iconst 1, 1, (0, 0, [])),
  (17, .newarray .long, 2, (0, 0, [])),
  (19, .astore_n 3, 1, (0, 0, [])),
  (20, .iconst 0, 1, (0, 0, [])),
  (21, .istore 4, 2, (0, 0, [])),
  (23, .iload 4, 2, (0, 0, [])),
  (25, .aload_n 0, 1, (0, 0, [])),
  (26, .arraylength, 1, (0, 0, [])),
  (27, .bipush 7, 2, (0, 0, [])),
  (29, .isub, 1, (0, 0, [])),
  (30, .if_icmp .gt 1374, 3, (0, 0, [])),
  (33, .aload_n 0, 1, (0, 0, [])),
  (34, .iload 4, 2, (0, 0, [])),
  (36, .iaload, 1, (0, 0, [])),
  (37, .bipush 31, 2, (0, 0, [])),
  (39, .iand, 1, (0, 0, [])),
  (40, .tableswitch 1358 0 18 #[92, 160, 216, 334, 390, 458, 562, 666, 734, 802, 870, 937, 1012, 1092, 1160, 1239, 1295, 1320, 1333], 92, (0, 0, [])),
  (132, .aload_n 1, 1, (0, 0, [])),
  (133, .aload_n 0, 1, (0, 0, [])),
  (134, .iload 4, 2, (0, 0, [])),
  (136, .iconst 1, 1, (0, 0, [])),
  (137, .iadd, 1, (0, 0, [])),
  (138, .iaload, 1, (0, 0, [])),
  (139, .aload_n 0, 1, (0, 0, [])),
  (140, .iload 4, 2, (0, 0, [])),
  (142, .iconst 2, 1, (0, 0, [])),
  (143, .iadd, 1, (0, 0, [])),
  (144, .iaload, 1, (0, 0, [])),
  (145, .aload_n 3, 1, (0, 0, [])),
  (146, .invokestatic 77, 3, (158, 6, [4])),
  (149, .istore 5, 2, (0, 0, [])),
  (151, .aload_n 2, 1, (0, 0, [])),
  (152, .aload_n 0, 1, (0, 0, [])),
  (153, .iload 4, 2, (0, 0, [])),
  (155, .iconst 1, 1, (0, 0, [])),
  (156, .iadd, 1, (0, 0, [])),
  (157, .iaload, 1, (0, 0, [])),
  (158, .aload_n 0, 1, (0, 0, [])),
  (159, .iload 4, 2, (0, 0, [])),
  (161, .iconst 2, 1, (0, 0, [])),
  (162, .iadd, 1, (0, 0, [])),
  (163, .iaload, 1, (0, 0, [])),
  (164, .invokevirtual 82, 3, (104, 0, [2, 9])),
  (167, .istore 6, 2, (0, 0, [])),
  (169, .aload_n 2, 1, (0, 0, [])),
  (170, .invokevirtual 83, 3, (95, 0, [0, 9])),
  (173, .iload 5, 2, (0, 0, [])),
  (175, .if_icmp .eq 5, 3, (0, 0, [])),
  (178, .iconst 0, 1, (0, 0, [])),
  (179, .ireturn, 1, (0, 0, [])),
  (180, .iload 5, 2, (0, 0, [])),
  (182, .ifCond .ne 15, 3, (0, 0, [])),
  (185, .aload_n 3, 1, (0, 0, [])),
  (186, .iconst 0, 1, (0, 0, [])),
  (187, .laload, 1, (0, 0, [])),
  (188, .iload 6, 2, (0, 0, [])),
  (190, .i2l, 1, (0, 0, [])),
  (191, .lcmp, 1, (0, 0, [])),
  (192, .ifCond .eq 5, 3, (0, 0, [])),
  (195, .iconst 0, 1, (0, 0, [])),
  (196, .ireturn, 1, (0, 0, [])),
  (197, .goto 1201, 3, (0, 0, [])),
  (200, .aload_n 1, 1, (0, 0, [])),
  (201, .aload_n 0, 1, (0, 0, [])),
  (202, .iload 4, 2, (0, 0, [])),
  (204, .iconst 1, 1, (0, 0, [])),
  (205, .iadd, 1, (0, 0, [])),
  (206, .iaload, 1, (0, 0, [])),
  (207, .aload_n 3, 1, (0, 0, [])),
  (208, .invokestatic 87, 3, (159, 6, [3])),
  (211, .istore 5, 2, (0, 0, [])),
  (213, .aload_n 2, 1, (0, 0, [])),
  (214, .aload_n 0, 1, (0, 0, [])),
  (215, .iload 4, 2, (0, 0, [])),
  (217, .iconst 1, 1, (0, 0, [])),
  (218, .iadd, 1, (0, 0, [])),
  (219, .iaload, 1, (0, 0, [])),
  (220, .invokevirtual 90, 3, (105, 0, [1, 9])),
  (223, .istore 6, 2, (0, 0, [])),
  (225, .aload_n 2, 1, (0, 0, [])),
  (226, .invokevirtual 83, 3, (95, 0, [0, 9])),
  (229, .iload 5, 2, (0, 0, [])),
  (231, .if_icmp .eq 5, 3, (0, 0, [])),
  (234, .iconst 0, 1, (0, 0, [])),
  (235, .ireturn, 1, (0, 0, [])),
  (236, .iload 5, 2, (0, 0, [])),
  (238, .ifCond .ne 15, 3, (0, 0, [])),
  (241, .aload_n 3, 1, (0, 0, [])),
  (242, .iconst 0, 1, (0, 0, [])),
  (243, .laload, 1, (0, 0, [])),
  (244, .iload 6, 2, (0, 0, [])),
  (246, .i2l, 1, (0, 0, [])),
  (247, .lcmp, 1, (0, 0, [])),
  (248, .ifCond .eq 5, 3, (0, 0, [])),
  (251, .iconst 0, 1, (0, 0, [])),
  (252, .ireturn, 1, (0, 0, [])),
  (253, .goto 1145, 3, (0, 0, [])),
  (256, .aload_n 1, 1, (0, 0, [])),
  (257, .aload_n 0, 1, (0, 0, [])),
  (258, .iload 4, 2, (0, 0, [])),
  (260, .iconst 1, 1, (0, 0, [])),
  (261, .iadd, 1, (0, 0, [])),
  (262, .iaload, 1, (0, 0, [])),
  (263, .aload_n 0, 1, (0, 0, [])),
  (264, .iload 4, 2, (0, 0, [])),
  (266, .iconst 2, 1, (0, 0, [])),
  (267, .iadd, 1, (0, 0, [])),
  (268, .iaload, 1, (0, 0, [])),
  (269, .aload_n 0, 1, (0, 0, [])),
  (270, .iload 4, 2, (0, 0, [])),
  (272, .iconst 3, 1, (0, 0, [])),
  (273, .iadd, 1, (0, 0, [])),
  (274, .iaload, 1, (0, 0, [])),
  (275, .aload_n 0, 1, (0, 0, [])),
  (276, .iload 4, 2, (0, 0, [])),
  (278, .iconst 4, 1, (0, 0, [])),
  (279, .iadd, 1, (0, 0, [])),
  (280, .iaload, 1, (0, 0, [])),
  (281, .aload_n 0, 1, (0, 0, [])),
  (282, .iload 4, 2, (0, 0, [])),
  (284, .iconst 5, 1, (0, 0, [])),
  (285, .iadd, 1, (0, 0, [])),
  (286, .iaload, 1, (0, 0, [])),
  (287, .aload_n 0, 1, (0, 0, [])),
  (288, .iload 4, 2, (0, 0, [])),
  (290, .bipush 6, 2, (0, 0, [])),
  (292, .iadd, 1, (0, 0, [])),
  (293, .iaload, 1, (0, 0, [])),
  (294, .aload_n 3, 1, (0, 0, [])),
  (295, .invokestatic 91, 3, (160, 6, [8])),
  (298, .istore 5, 2, (0, 0, [])),
  (300, .aload_n 2, 1, (0, 0, [])),
  (301, .aload_n 0, 1, (0, 0, [])),
  (302, .iload 4, 2, (0, 0, [])),
  (304, .iconst 1, 1, (0, 0, [])),
  (305, .iadd, 1, (0, 0, [])),
  (306, .iaload, 1, (0, 0, [])),
  (307, .aload_n 0, 1, (0, 0, [])),
  (308, .iload 4, 2, (0, 0, [])),
  (310, .iconst 2, 1, (0, 0, [])),
  (311, .iadd, 1, (0, 0, [])),
  (312, .iaload, 1, (0, 0, [])),
  (313, .aload_n 0, 1, (0, 0, [])),
  (314, .iload 4, 2, (0, 0, [])),
  (316, .iconst 3, 1, (0, 0, [])),
  (317, .iadd, 1, (0, 0, [])),
  (318, .iaload, 1, (0, 0, [])),
  (319, .aload_n 0, 1, (0, 0, [])),
  (320, .iload 4, 2, (0, 0, [])),
  (322, .iconst 4, 1, (0, 0, [])),
  (323, .iadd, 1, (0, 0, [])),
  (324, .iaload, 1, (0, 0, [])),
  (325, .aload_n 0, 1, (0, 0, [])),
  (326, .iload 4, 2, (0, 0, [])),
  (328, .iconst 5, 1, (0, 0, [])),
  (329, .iadd, 1, (0, 0, [])),
  (330, .iaload, 1, (0, 0, [])),
  (331, .aload_n 0, 1, (0, 0, [])),
  (332, .iload 4, 2, (0, 0, [])),
  (334, .bipush 6, 2, (0, 0, [])),
  (336, .iadd, 1, (0, 0, [])),
  (337, .iaload, 1, (0, 0, [])),
  (338, .invokevirtual 94, 3, (106, 0, [6, 9])),
  (341, .istore 6, 2, (0, 0, [])),
  (343, .aload_n 2, 1, (0, 0, [])),
  (344, .invokevirtual 83, 3, (95, 0, [0, 9])),
  (347, .iload 5, 2, (0, 0, [])),
  (349, .if_icmp .eq 5, 3, (0, 0, [])),
  (352, .iconst 0, 1, (0, 0, [])),
  (353, .ireturn, 1, (0, 0, [])),
  (354, .iload 5, 2, (0, 0, [])),
  (356, .ifCond .ne 15, 3, (0, 0, [])),
  (359, .aload_n 3, 1, (0, 0, [])),
  (360, .iconst 0, 1, (0, 0, [])),
  (361, .laload, 1, (0, 0, [])),
  (362, .iload 6, 2, (0, 0, [])),
  (364, .i2l, 1, (0, 0, [])),
  (365, .lcmp, 1, (0, 0, [])),
  (366, .ifCond .eq 5, 3, (0, 0, [])),
  (369, .iconst 0, 1, (0, 0, [])),
  (370, .ireturn, 1, (0, 0, [])),
  (371, .goto 1027, 3, (0, 0, [])),
  (374, .aload_n 1, 1, (0, 0, [])),
  (375, .aload_n 0, 1, (0, 0, [])),
  (376, .iload 4, 2, (0, 0, [])),
  (378, .iconst 1, 1, (0, 0, [])),
  (379, .iadd, 1, (0, 0, [])),
  (380, .iaload, 1, (0, 0, [])),
  (381, .aload_n 3, 1, (0, 0, [])),
  (382, .invokestatic 95, 3, (161, 6, [3])),
  (385, .istore 5, 2, (0, 0, [])),
  (387, .aload_n 2, 1, (0, 0, [])),
  (388, .aload_n 0, 1, (0, 0, [])),
  (389, .iload 4, 2, (0, 0, [])),
  (391, .iconst 1, 1, (0, 0, [])),
  (392, .iadd, 1, (0, 0, [])),
  (393, .iaload, 1, (0, 0, [])),
  (394, .invokevirtual 97, 3, (117, 0, [1, 9])),
  (397, .istore 6, 2, (0, 0, [])),
  (399, .aload_n 2, 1, (0, 0, [])),
  (400, .invokevirtual 83, 3, (95, 0, [0, 9])),
  (403, .iload 5, 2, (0, 0, [])),
  (405, .if_icmp .eq 5, 3, (0, 0, [])),
  (408, .iconst 0, 1, (0, 0, [])),
  (409, .ireturn, 1, (0, 0, [])),
  (410, .iload 5, 2, (0, 0, [])),
  (412, .ifCond .ne 15, 3, (0, 0, [])),
  (415, .aload_n 3, 1, (0, 0, [])),
  (416, .iconst 0, 1, (0, 0, [])),
  (417, .laload, 1, (0, 0, [])),
  (418, .iload 6, 2, (0, 0, [])),
  (420, .i2l, 1, (0, 0, [])),
  (421, .lcmp, 1, (0, 0, [])),
  (422, .ifCond .eq 5, 3, (0, 0, [])),
  (425, .iconst 0, 1, (0, 0, [])),
  (426, .ireturn, 1, (0, 0, [])),
  (427, .goto 971, 3, (0, 0, [])),
  (430, .aload_n 1, 1, (0, 0, [])),
  (431, .aload_n 0, 1, (0, 0, [])),
  (432, .iload 4, 2, (0, 0, [])),
  (434, .iconst 1, 1, (0, 0, [])),
  (435, .iadd, 1, (0, 0, [])),
  (436, .iaload, 1, (0, 0, [])),
  (437, .aload_n 0, 1, (0, 0, [])),
  (438, .iload 4, 2, (0, 0, [])),
  (440, .iconst 2, 1, (0, 0, [])),
  (441, .iadd, 1, (0, 0, [])),
  (442, .iaload, 1, (0, 0, [])),
  (443, .aload_n 3, 1, (0, 0, [])),
  (444, .invokestatic 98, 3, (162, 6, [4])),
  (447, .istore 5, 2, (0, 0, [])),
  (449, .aload_n 2, 1, (0, 0, [])),
  (450, .aload_n 0, 1, (0, 0, [])),
  (451, .iload 4, 2, (0, 0, [])),
  (453, .iconst 1, 1, (0, 0, [])),
  (454, .iadd, 1, (0, 0, [])),
  (455, .iaload, 1, (0, 0, [])),
  (456, .aload_n 0, 1, (0, 0, [])),
  (457, .iload 4, 2, (0, 0, [])),
  (459, .iconst 2, 1, (0, 0, [])),
  (460, .iadd, 1, (0, 0, [])),
  (461, .iaload, 1, (0, 0, [])),
  (462, .invokevirtual 100, 3, (118, 0, [2, 9])),
  (465, .istore 6, 2, (0, 0, [])),
  (467, .aload_n 2, 1, (0, 0, [])),
  (468, .invokevirtual 83, 3, (95, 0, [0, 9])),
  (471, .iload 5, 2, (0, 0, [])),
  (473, .if_icmp .eq 5, 3, (0, 0, [])),
  (476, .iconst 0, 1, (0, 0, [])),
  (477, .ireturn, 1, (0, 0, [])),
  (478, .iload 5, 2, (0, 0, [])),
  (480, .ifCond .ne 15, 3, (0, 0, [])),
  (483, .aload_n 3, 1, (0, 0, [])),
  (484, .iconst 0, 1, (0, 0, [])),
  (485, .laload, 1, (0, 0, [])),
  (486, .iload 6, 2, (0, 0, [])),
  (488, .i2l, 1, (0, 0, [])),
  (489, .lcmp, 1, (0, 0, [])),
  (490, .ifCond .eq 5, 3, (0, 0, [])),
  (493, .iconst 0, 1, (0, 0, [])),
  (494, .ireturn, 1, (0, 0, [])),
  (495, .goto 903, 3, (0, 0, [])),
  (498, .aload_n 1, 1, (0, 0, [])),
  (499, .aload_n 0, 1, (0, 0, [])),
  (500, .iload 4, 2, (0, 0, [])),
  (502, .iconst 1, 1, (0, 0, [])),
  (503, .iadd, 1, (0, 0, [])),
  (504, .iaload, 1, (0, 0, [])),
  (505, .aload_n 0, 1, (0, 0, [])),
  (506, .iload 4, 2, (0, 0, [])),
  (508, .iconst 2, 1, (0, 0, [])),
  (509, .iadd, 1, (0, 0, [])),
  (510, .iaload, 1, (0, 0, [])),
  (511, .aload_n 0, 1, (0, 0, [])),
  (512, .iload 4, 2, (0, 0, [])),
  (514, .iconst 3, 1, (0, 0, [])),
  (515, .iadd, 1, (0, 0, [])),
  (516, .iaload, 1, (0, 0, [])),
  (517, .aload_n 0, 1, (0, 0, [])),
  (518, .iload 4, 2, (0, 0, [])),
  (520, .iconst 4, 1, (0, 0, [])),
  (521, .iadd, 1, (0, 0, [])),
  (522, .iaload, 1, (0, 0, [])),
  (523, .aload_n 0, 1, (0, 0, [])),
  (524, .iload 4, 2, (0, 0, [])),
  (526, .iconst 5, 1, (0, 0, [])),
  (527, .iadd, 1, (0, 0, [])),
  (528, .iaload, 1, (0, 0, [])),
  (529, .aload_n 3, 1, (0, 0, [])),
  (530, .invokestatic 101, 3, (163, 6, [7])),
  (533, .istore 5, 2, (0, 0, [])),
  (535, .aload_n 2, 1, (0, 0, [])),
  (536, .aload_n 0, 1, (0, 0, [])),
  (537, .iload 4, 2, (0, 0, [])),
  (539, .iconst 1, 1, (0, 0, [])),
  (540, .iadd, 1, (0, 0, [])),
  (541, .iaload, 1, (0, 0, [])),
  (542, .aload_n 0, 1, (0, 0, [])),
  (543, .iload 4, 2, (0, 0, [])),
  (545, .iconst 2, 1, (0, 0, [])),
  (546, .iadd, 1, (0, 0, [])),
  (547, .iaload, 1, (0, 0, [])),
  (548, .aload_n 0, 1, (0, 0, [])),
  (549, .iload 4, 2, (0, 0, [])),
  (551, .iconst 3, 1, (0, 0, [])),
  (552, .iadd, 1, (0, 0, [])),
  (553, .iaload, 1, (0, 0, [])),
  (554, .aload_n 0, 1, (0, 0, [])),
  (555, .iload 4, 2, (0, 0, [])),
  (557, .iconst 4, 1, (0, 0, [])),
  (558, .iadd, 1, (0, 0, [])),
  (559, .iaload, 1, (0, 0, [])),
  (560, .aload_n 0, 1, (0, 0, [])),
  (561, .iload 4, 2, (0, 0, [])),
  (563, .iconst 5, 1, (0, 0, [])),
  (564, .iadd, 1, (0, 0, [])),
  (565, .iaload, 1, (0, 0, [])),
  (566, .invokevirtual 104, 3, (109, 0, [5, 9])),
  (569, .istore 6, 2, (0, 0, [])),
  (571, .aload_n 2, 1, (0, 0, [])),
  (572, .invokevirtual 83, 3, (95, 0, [0, 9])),
  (575, .iload 5, 2, (0, 0, [])),
  (577, .if_icmp .eq 5, 3, (0, 0, [])),
  (580, .iconst 0, 1, (0, 0, [])),
  (581, .ireturn, 1, (0, 0, [])),
  (582, .iload 5, 2, (0, 0, [])),
  (584, .ifCond .ne 15, 3, (0, 0, [])),
  (587, .aload_n 3, 1, (0, 0, [])),
  (588, .iconst 0, 1, (0, 0, [])),
  (589, .laload, 1, (0, 0, [])),
  (590, .iload 6, 2, (0, 0, [])),
  (592, .i2l, 1, (0, 0, [])),
  (593, .lcmp, 1, (0, 0, [])),
  (594, .ifCond .eq 5, 3, (0, 0, [])),
  (597, .iconst 0, 1, (0, 0, [])),
  (598, .ireturn, 1, (0, 0, [])),
  (599, .goto 799, 3, (0, 0, [])),
  (602, .aload_n 1, 1, (0, 0, [])),
  (603, .aload_n 0, 1, (0, 0, [])),
  (604, .iload 4, 2, (0, 0, [])),
  (606, .iconst 1, 1, (0, 0, [])),
  (607, .iadd, 1, (0, 0, [])),
  (608, .iaload, 1, (0, 0, [])),
  (609, .aload_n 0, 1, (0, 0, [])),
  (610, .iload 4, 2, (0, 0, [])),
  (612, .iconst 2, 1, (0, 0, [])),
  (613, .iadd, 1, (0, 0, [])),
  (614, .iaload, 1, (0, 0, [])),
  (615, .aload_n 0, 1, (0, 0, [])),
  (616, .iload 4, 2, (0, 0, [])),
  (618, .iconst 3, 1, (0, 0, [])),
  (619, .iadd, 1, (0, 0, [])),
  (620, .iaload, 1, (0, 0, [])),
  (621, .aload_n 0, 1, (0, 0, [])),
  (622, .iload 4, 2, (0, 0, [])),
  (624, .iconst 4, 1, (0, 0, [])),
  (625, .iadd, 1, (0, 0, [])),
  (626, .iaload, 1, (0, 0, [])),
  (627, .aload_n 0, 1, (0, 0, [])),
  (628, .iload 4, 2, (0, 0, [])),
  (630, .iconst 5, 1, (0, 0, [])),
  (631, .iadd, 1, (0, 0, [])),
  (632, .iaload, 1, (0, 0, [])),
  (633, .aload_n 3, 1, (0, 0, [])),
  (634, .invokestatic 105, 3, (164, 6, [7])),
  (637, .istore 5, 2, (0, 0, [])),
  (639, .aload_n 2, 1, (0, 0, [])),
  (640, .aload_n 0, 1, (0, 0, [])),
  (641, .iload 4, 2, (0, 0, [])),
  (643, .iconst 1, 1, (0, 0, [])),
  (644, .iadd, 1, (0, 0, [])),
  (645, .iaload, 1, (0, 0, [])),
  (646, .aload_n 0, 1, (0, 0, [])),
  (647, .iload 4, 2, (0, 0, [])),
  (649, .iconst 2, 1, (0, 0, [])),
  (650, .iadd, 1, (0, 0, [])),
  (651, .iaload, 1, (0, 0, [])),
  (652, .aload_n 0, 1, (0, 0, [])),
  (653, .iload 4, 2, (0, 0, [])),
  (655, .iconst 3, 1, (0, 0, [])),
  (656, .iadd, 1, (0, 0, [])),
  (657, .iaload, 1, (0, 0, [])),
  (658, .aload_n 0, 1, (0, 0, [])),
  (659, .iload 4, 2, (0, 0, [])),
  (661, .iconst 4, 1, (0, 0, [])),
  (662, .iadd, 1, (0, 0, [])),
  (663, .iaload, 1, (0, 0, [])),
  (664, .aload_n 0, 1, (0, 0, [])),
  (665, .iload 4, 2, (0, 0, [])),
  (667, .iconst 5, 1, (0, 0, [])),
  (668, .iadd, 1, (0, 0, [])),
  (669, .iaload, 1, (0, 0, [])),
  (670, .invokevirtual 107, 3, (110, 0, [5, 9])),
  (673, .istore 6, 2, (0, 0, [])),
  (675, .aload_n 2, 1, (0, 0, [])),
  (676, .invokevirtual 83, 3, (95, 0, [0, 9])),
  (679, .iload 5, 2, (0, 0, [])),
  (681, .if_icmp .eq 5, 3, (0, 0, [])),
  (684, .iconst 0, 1, (0, 0, [])),
  (685, .ireturn, 1, (0, 0, [])),
  (686, .iload 5, 2, (0, 0, [])),
  (688, .ifCond .ne 15, 3, (0, 0, [])),
  (691, .aload_n 3, 1, (0, 0, [])),
  (692, .iconst 0, 1, (0, 0, [])),
  (693, .laload, 1, (0, 0, [])),
  (694, .iload 6, 2, (0, 0, [])),
  (696, .i2l, 1, (0, 0, [])),
  (697, .lcmp, 1, (0, 0, [])),
  (698, .ifCond .eq 5, 3, (0, 0, [])),
  (701, .iconst 0, 1, (0, 0, [])),
  (702, .ireturn, 1, (0, 0, [])),
  (703, .goto 695, 3, (0, 0, [])),
  (706, .aload_n 1, 1, (0, 0, [])),
  (707, .aload_n 0, 1, (0, 0, [])),
  (708, .iload 4, 2, (0, 0, [])),
  (710, .iconst 1, 1, (0, 0, [])),
  (711, .iadd, 1, (0, 0, [])),
  (712, .iaload, 1, (0, 0, [])),
  (713, .aload_n 0, 1, (0, 0, [])),
  (714, .iload 4, 2, (0, 0, [])),
  (716, .iconst 2, 1, (0, 0, [])),
  (717, .iadd, 1, (0, 0, [])),
  (718, .iaload, 1, (0, 0, [])),
  (719, .aload_n 3, 1, (0, 0, [])),
  (720, .invokestatic 108, 3, (165, 6, [4])),
  (723, .istore 5, 2, (0, 0, [])),
  (725, .aload_n 2, 1, (0, 0, [])),
  (726, .aload_n 0, 1, (0, 0, [])),
  (727, .iload 4, 2, (0, 0, [])),
  (729, .iconst 1, 1, (0, 0, [])),
  (730, .iadd, 1, (0, 0, [])),
  (731, .iaload, 1, (0, 0, [])),
  (732, .aload_n 0, 1, (0, 0, [])),
  (733, .iload 4, 2, (0, 0, [])),
  (735, .iconst 2, 1, (0, 0, [])),
  (736, .iadd, 1, (0, 0, [])),
  (737, .iaload, 1, (0, 0, [])),
  (738, .invokevirtual 110, 3, (119, 0, [2, 9])),
  (741, .istore 6, 2, (0, 0, [])),
  (743, .aload_n 2, 1, (0, 0, [])),
  (744, .invokevirtual 83, 3, (95, 0, [0, 9])),
  (747, .iload 5, 2, (0, 0, [])),
  (749, .if_icmp .eq 5, 3, (0, 0, [])),
  (752, .iconst 0, 1, (0, 0, [])),
  (753, .ireturn, 1, (0, 0, [])),
  (754, .iload 5, 2, (0, 0, [])),
  (756, .ifCond .ne 15, 3, (0, 0, [])),
  (759, .aload_n 3, 1, (0, 0, [])),
  (760, .iconst 0, 1, (0, 0, [])),
  (761, .laload, 1, (0, 0, [])),
  (762, .iload 6, 2, (0, 0, [])),
  (764, .i2l, 1, (0, 0, [])),
  (765, .lcmp, 1, (0, 0, [])),
  (766, .ifCond .eq 5, 3, (0, 0, [])),
  (769, .iconst 0, 1, (0, 0, [])),
  (770, .ireturn, 1, (0, 0, [])),
  (771, .goto 627, 3, (0, 0, [])),
  (774, .aload_n 1, 1, (0, 0, [])),
  (775, .aload_n 0, 1, (0, 0, [])),
  (776, .iload 4, 2, (0, 0, [])),
  (778, .iconst 1, 1, (0, 0, [])),
  (779, .iadd, 1, (0, 0, [])),
  (780, .iaload, 1, (0, 0, [])),
  (781, .aload_n 0, 1, (0, 0, [])),
  (782, .iload 4, 2, (0, 0, [])),
  (784, .iconst 2, 1, (0, 0, [])),
  (785, .iadd, 1, (0, 0, [])),
  (786, .iaload, 1, (0, 0, [])),
  (787, .aload_n 3, 1, (0, 0, [])),
  (788, .invokestatic 111, 3, (166, 6, [4])),
  (791, .istore 5, 2, (0, 0, [])),
  (793, .aload_n 2, 1, (0, 0, [])),
  (794, .aload_n 0, 1, (0, 0, [])),
  (795, .iload 4, 2, (0, 0, [])),
  (797, .iconst 1, 1, (0, 0, [])),
  (798, .iadd, 1, (0, 0, [])),
  (799, .iaload, 1, (0, 0, [])),
  (800, .aload_n 0, 1, (0, 0, [])),
  (801, .iload 4, 2, (0, 0, [])),
  (803, .iconst 2, 1, (0, 0, [])),
  (804, .iadd, 1, (0, 0, [])),
  (805, .iaload, 1, (0, 0, [])),
  (806, .invokevirtual 113, 3, (127, 0, [2, 9])),
  (809, .istore 6, 2, (0, 0, [])),
  (811, .aload_n 2, 1, (0, 0, [])),
  (812, .invokevirtual 83, 3, (95, 0, [0, 9])),
  (815, .iload 5, 2, (0, 0, [])),
  (817, .if_icmp .eq 5, 3, (0, 0, [])),
  (820, .iconst 0, 1, (0, 0, [])),
  (821, .ireturn, 1, (0, 0, [])),
  (822, .iload 5, 2, (0, 0, [])),
  (824, .ifCond .ne 15, 3, (0, 0, [])),
  (827, .aload_n 3, 1, (0, 0, [])),
  (828, .iconst 0, 1, (0, 0, [])),
  (829, .laload, 1, (0, 0, [])),
  (830, .iload 6, 2, (0, 0, [])),
  (832, .i2l, 1, (0, 0, [])),
  (833, .lcmp, 1, (0, 0, [])),
  (834, .ifCond .eq 5, 3, (0, 0, [])),
  (837, .iconst 0, 1, (0, 0, [])),
  (838, .ireturn, 1, (0, 0, [])),
  (839, .goto 559, 3, (0, 0, [])),
  (842, .aload_n 1, 1, (0, 0, [])),
  (843, .aload_n 0, 1, (0, 0, [])),
  (844, .iload 4, 2, (0, 0, [])),
  (846, .iconst 1, 1, (0, 0, [])),
  (847, .iadd, 1, (0, 0, [])),
  (848, .iaload, 1, (0, 0, [])),
  (849, .aload_n 0, 1, (0, 0, [])),
  (850, .iload 4, 2, (0, 0, [])),
  (852, .iconst 2, 1, (0, 0, [])),
  (853, .iadd, 1, (0, 0, [])),
  (854, .iaload, 1, (0, 0, [])),
  (855, .aload_n 3, 1, (0, 0, [])),
  (856, .invokestatic 114, 3, (167, 6, [4])),
  (859, .istore 5, 2, (0, 0, [])),
  (861, .aload_n 2, 1, (0, 0, [])),
  (862, .aload_n 0, 1, (0, 0, [])),
  (863, .iload 4, 2, (0, 0, [])),
  (865, .iconst 1, 1, (0, 0, [])),
  (866, .iadd, 1, (0, 0, [])),
  (867, .iaload, 1, (0, 0, [])),
  (868, .aload_n 0, 1, (0, 0, [])),
  (869, .iload 4, 2, (0, 0, [])),
  (871, .iconst 2, 1, (0, 0, [])),
  (872, .iadd, 1, (0, 0, [])),
  (873, .iaload, 1, (0, 0, [])),
  (874, .invokevirtual 116, 3, (129, 0, [2, 9])),
  (877, .istore 6, 2, (0, 0, [])),
  (879, .aload_n 2, 1, (0, 0, [])),
  (880, .invokevirtual 83, 3, (95, 0, [0, 9])),
  (883, .iload 5, 2, (0, 0, [])),
  (885, .if_icmp .eq 5, 3, (0, 0, [])),
  (888, .iconst 0, 1, (0, 0, [])),
  (889, .ireturn, 1, (0, 0, [])),
  (890, .iload 5, 2, (0, 0, [])),
  (892, .ifCond .ne 15, 3, (0, 0, [])),
  (895, .aload_n 3, 1, (0, 0, [])),
  (896, .iconst 0, 1, (0, 0, [])),
  (897, .laload, 1, (0, 0, [])),
  (898, .iload 6, 2, (0, 0, [])),
  (900, .i2l, 1, (0, 0, [])),
  (901, .lcmp, 1, (0, 0, [])),
  (902, .ifCond .eq 5, 3, (0, 0, [])),
  (905, .iconst 0, 1, (0, 0, [])),
  (906, .ireturn, 1, (0, 0, [])),
  (907, .goto 491, 3, (0, 0, [])),
  (910, .aload_n 1, 1, (0, 0, [])),
  (911, .aload_n 0, 1, (0, 0, [])),
  (912, .iload 4, 2, (0, 0, [])),
  (914, .iconst 1, 1, (0, 0, [])),
  (915, .iadd, 1, (0, 0, [])),
  (916, .iaload, 1, (0, 0, [])),
  (917, .aload_n 0, 1, (0, 0, [])),
  (918, .iload 4, 2, (0, 0, [])),
  (920, .iconst 2, 1, (0, 0, [])),
  (921, .iadd, 1, (0, 0, [])),
  (922, .iaload, 1, (0, 0, [])),
  (923, .aload_n 3, 1, (0, 0, [])),
  (924, .invokestatic 117, 3, (168, 6, [4])),
  (927, .istore 5, 2, (0, 0, [])),
  (929, .aload_n 2, 1, (0, 0, [])),
  (930, .aload_n 0, 1, (0, 0, [])),
  (931, .iload 4, 2, (0, 0, [])),
  (933, .iconst 1, 1, (0, 0, [])),
  (934, .iadd, 1, (0, 0, [])),
  (935, .iaload, 1, (0, 0, [])),
  (936, .aload_n 0, 1, (0, 0, [])),
  (937, .iload 4, 2, (0, 0, [])),
  (939, .iconst 2, 1, (0, 0, [])),
  (940, .iadd, 1, (0, 0, [])),
  (941, .iaload, 1, (0, 0, [])),
  (942, .invokevirtual 119, 3, (131, 0, [2, 9])),
  (945, .lstore 6, 2, (0, 0, [])),
  (947, .aload_n 2, 1, (0, 0, [])),
  (948, .invokevirtual 83, 3, (95, 0, [0, 9])),
  (951, .iload 5, 2, (0, 0, [])),
  (953, .if_icmp .eq 5, 3, (0, 0, [])),
  (956, .iconst 0, 1, (0, 0, [])),
  (957, .ireturn, 1, (0, 0, [])),
  (958, .iload 5, 2, (0, 0, [])),
  (960, .ifCond .ne 14, 3, (0, 0, [])),
  (963, .aload_n 3, 1, (0, 0, [])),
  (964, .iconst 0, 1, (0, 0, [])),
  (965, .laload, 1, (0, 0, [])),
  (966, .lload 6, 2, (0, 0, [])),
  (968, .lcmp, 1, (0, 0, [])),
  (969, .ifCond .eq 5, 3, (0, 0, [])),
  (972, .iconst 0, 1, (0, 0, [])),
  (973, .ireturn, 1, (0, 0, [])),
  (974, .goto 424, 3, (0, 0, [])),
  (977, .aload_n 1, 1, (0, 0, [])),
  (978, .aload_n 0, 1, (0, 0, [])),
  (979, .iload 4, 2, (0, 0, [])),
  (981, .iconst 1, 1, (0, 0, [])),
  (982, .iadd, 1, (0, 0, [])),
  (983, .iaload, 1, (0, 0, [])),
  (984, .aload_n 0, 1, (0, 0, [])),
  (985, .iload 4, 2, (0, 0, [])),
  (987, .iconst 2, 1, (0, 0, [])),
  (988, .iadd, 1, (0, 0, [])),
  (989, .iaload, 1, (0, 0, [])),
  (990, .aload_n 3, 1, (0, 0, [])),
  (991, .invokestatic 120, 3, (169, 6, [4])),
  (994, .istore 5, 2, (0, 0, [])),
  (996, .aload_n 2, 1, (0, 0, [])),
  (997, .aload_n 0, 1, (0, 0, [])),
  (998, .iload 4, 2, (0, 0, [])),
  (1000, .iconst 1, 1, (0, 0, [])),
  (1001, .iadd, 1, (0, 0, [])),
  (1002, .iaload, 1, (0, 0, [])),
  (1003, .aload_n 0, 1, (0, 0, [])),
  (1004, .iload 4, 2, (0, 0, [])),
  (1006, .iconst 2, 1, (0, 0, [])),
  (1007, .iadd, 1, (0, 0, [])),
  (1008, .iaload, 1, (0, 0, [])),
  (1009, .invokevirtual 122, 3, (132, 0, [2, 9])),
  (1012, .istore 6, 2, (0, 0, [])),
  (1014, .aload_n 2, 1, (0, 0, [])),
  (1015, .invokevirtual 83, 3, (95, 0, [0, 9])),
  (1018, .iload 5, 2, (0, 0, [])),
  (1020, .if_icmp .eq 5, 3, (0, 0, [])),
  (1023, .iconst 0, 1, (0, 0, [])),
  (1024, .ireturn, 1, (0, 0, [])),
  (1025, .iload 5, 2, (0, 0, [])),
  (1027, .ifCond .ne 22, 3, (0, 0, [])),
  (1030, .aload_n 3, 1, (0, 0, [])),
  (1031, .iconst 0, 1, (0, 0, [])),
  (1032, .laload, 1, (0, 0, [])),
  (1033, .iload 6, 2, (0, 0, [])),
  (1035, .ifCond .eq 7, 3, (0, 0, [])),
  (1038, .lconst 1, 1, (0, 0, [])),
  (1039, .goto 4, 3, (0, 0, [])),
  (1042, .lconst 0, 1, (0, 0, [])),
  (1043, .lcmp, 1, (0, 0, [])),
  (1044, .ifCond .eq 5, 3, (0, 0, [])),
  (1047, .iconst 0, 1, (0, 0, [])),
  (1048, .ireturn, 1, (0, 0, [])),
  (1049, .goto 349, 3, (0, 0, [])),
  (1052, .aload_n 1, 1, (0, 0, [])),
  (1053, .aload_n 0, 1, (0, 0, [])),
  (1054, .iload 4, 2, (0, 0, [])),
  (1056, .iconst 1, 1, (0, 0, [])),
  (1057, .iadd, 1, (0, 0, [])),
  (1058, .iaload, 1, (0, 0, [])),
  (1059, .aload_n 0, 1, (0, 0, [])),
  (1060, .iload 4, 2, (0, 0, [])),
  (1062, .iconst 2, 1, (0, 0, [])),
  (1063, .iadd, 1, (0, 0, [])),
  (1064, .iaload, 1, (0, 0, [])),
  (1065, .aload_n 0, 1, (0, 0, [])),
  (1066, .iload 4, 2, (0, 0, [])),
  (1068, .iconst 3, 1, (0, 0, [])),
  (1069, .iadd, 1, (0, 0, [])),
  (1070, .iaload, 1, (0, 0, [])),
  (1071, .aload_n 3, 1, (0, 0, [])),
  (1072, .invokestatic 123, 3, (170, 6, [5])),
  (1075, .istore 5, 2, (0, 0, [])),
  (1077, .aload_n 2, 1, (0, 0, [])),
  (1078, .aload_n 0, 1, (0, 0, [])),
  (1079, .iload 4, 2, (0, 0, [])),
  (1081, .iconst 1, 1, (0, 0, [])),
  (1082, .iadd, 1, (0, 0, [])),
  (1083, .iaload, 1, (0, 0, [])),
  (1084, .aload_n 0, 1, (0, 0, [])),
  (1085, .iload 4, 2, (0, 0, [])),
  (1087, .iconst 2, 1, (0, 0, [])),
  (1088, .iadd, 1, (0, 0, [])),
  (1089, .iaload, 1, (0, 0, [])),
  (1090, .aload_n 0, 1, (0, 0, [])),
  (1091, .iload 4, 2, (0, 0, [])),
  (1093, .iconst 3, 1, (0, 0, [])),
  (1094, .iadd, 1, (0, 0, [])),
  (1095, .iaload, 1, (0, 0, [])),
  (1096, .invokevirtual 126, 3, (146, 0, [3, 9])),
  (1099, .istore 6, 2, (0, 0, [])),
  (1101, .aload_n 2, 1, (0, 0, [])),
  (1102, .invokevirtual 83, 3, (95, 0, [0, 9])),
  (1105, .iload 5, 2, (0, 0, [])),
  (1107, .if_icmp .eq 5, 3, (0, 0, [])),
  (1110, .iconst 0, 1, (0, 0, [])),
  (1111, .ireturn, 1, (0, 0, [])),
  (1112, .iload 5, 2, (0, 0, [])),
  (1114, .ifCond .ne 15, 3, (0, 0, [])),
  (1117, .aload_n 3, 1, (0, 0, [])),
  (1118, .iconst 0, 1, (0, 0, [])),
  (1119, .laload, 1, (0, 0, [])),
  (1120, .iload 6, 2, (0, 0, [])),
  (1122, .i2l, 1, (0, 0, [])),
  (1123, .lcmp, 1, (0, 0, [])),
  (1124, .ifCond .eq 5, 3, (0, 0, [])),
  (1127, .iconst 0, 1, (0, 0, [])),
  (1128, .ireturn, 1, (0, 0, [])),
  (1129, .goto 269, 3, (0, 0, [])),
  (1132, .aload_n 1, 1, (0, 0, [])),
  (1133, .aload_n 0, 1, (0, 0, [])),
  (1134, .iload 4, 2, (0, 0, [])),
  (1136, .iconst 1, 1, (0, 0, [])),
  (1137, .iadd, 1, (0, 0, [])),
  (1138, .iaload, 1, (0, 0, [])),
  (1139, .aload_n 0, 1, (0, 0, [])),
  (1140, .iload 4, 2, (0, 0, [])),
  (1142, .iconst 2, 1, (0, 0, [])),
  (1143, .iadd, 1, (0, 0, [])),
  (1144, .iaload, 1, (0, 0, [])),
  (1145, .aload_n 3, 1, (0, 0, [])),
  (1146, .invokestatic 127, 3, (171, 6, [4])),
  (1149, .istore 5, 2, (0, 0, [])),
  (1151, .aload_n 2, 1, (0, 0, [])),
  (1152, .aload_n 0, 1, (0, 0, [])),
  (1153, .iload 4, 2, (0, 0, [])),
  (1155, .iconst 1, 1, (0, 0, [])),
  (1156, .iadd, 1, (0, 0, [])),
  (1157, .iaload, 1, (0, 0, [])),
  (1158, .aload_n 0, 1, (0, 0, [])),
  (1159, .iload 4, 2, (0, 0, [])),
  (1161, .iconst 2, 1, (0, 0, [])),
  (1162, .iadd, 1, (0, 0, [])),
  (1163, .iaload, 1, (0, 0, [])),
  (1164, .invokevirtual 129, 3, (148, 0, [2, 9])),
  (1167, .istore 6, 2, (0, 0, [])),
  (1169, .aload_n 2, 1, (0, 0, [])),
  (1170, .invokevirtual 83, 3, (95, 0, [0, 9])),
  (1173, .iload 5, 2, (0, 0, [])),
  (1175, .if_icmp .eq 5, 3, (0, 0, [])),
  (1178, .iconst 0, 1, (0, 0, [])),
  (1179, .ireturn, 1, (0, 0, [])),
  (1180, .iload 5, 2, (0, 0, [])),
  (1182, .ifCond .ne 15, 3, (0, 0, [])),
  (1185, .aload_n 3, 1, (0, 0, [])),
  (1186, .iconst 0, 1, (0, 0, [])),
  (1187, .laload, 1, (0, 0, [])),
  (1188, .iload 6, 2, (0, 0, [])),
  (1190, .i2l, 1, (0, 0, [])),
  (1191, .lcmp, 1, (0, 0, [])),
  (1192, .ifCond .eq 5, 3, (0, 0, [])),
  (1195, .iconst 0, 1, (0, 0, [])),
  (1196, .ireturn, 1, (0, 0, [])),
  (1197, .goto 201, 3, (0, 0, [])),
  (1200, .aload_n 1, 1, (0, 0, [])),
  (1201, .aload_n 0, 1, (0, 0, [])),
  (1202, .iload 4, 2, (0, 0, [])),
  (1204, .iconst 1, 1, (0, 0, [])),
  (1205, .iadd, 1, (0, 0, [])),
  (1206, .iaload, 1, (0, 0, [])),
  (1207, .aload_n 0, 1, (0, 0, [])),
  (1208, .iload 4, 2, (0, 0, [])),
  (1210, .iconst 2, 1, (0, 0, [])),
  (1211, .iadd, 1, (0, 0, [])),
  (1212, .iaload, 1, (0, 0, [])),
  (1213, .aload_n 0, 1, (0, 0, [])),
  (1214, .iload 4, 2, (0, 0, [])),
  (1216, .iconst 3, 1, (0, 0, [])),
  (1217, .iadd, 1, (0, 0, [])),
  (1218, .iaload, 1, (0, 0, [])),
  (1219, .aload_n 3, 1, (0, 0, [])),
  (1220, .invokestatic 130, 3, (172, 6, [5])),
  (1223, .istore 5, 2, (0, 0, [])),
  (1225, .aload_n 2, 1, (0, 0, [])),
  (1226, .aload_n 0, 1, (0, 0, [])),
  (1227, .iload 4, 2, (0, 0, [])),
  (1229, .iconst 1, 1, (0, 0, [])),
  (1230, .iadd, 1, (0, 0, [])),
  (1231, .iaload, 1, (0, 0, [])),
  (1232, .aload_n 0, 1, (0, 0, [])),
  (1233, .iload 4, 2, (0, 0, [])),
  (1235, .iconst 2, 1, (0, 0, [])),
  (1236, .iadd, 1, (0, 0, [])),
  (1237, .iaload, 1, (0, 0, [])),
  (1238, .aload_n 0, 1, (0, 0, [])),
  (1239, .iload 4, 2, (0, 0, [])),
  (1241, .iconst 3, 1, (0, 0, [])),
  (1242, .iadd, 1, (0, 0, [])),
  (1243, .iaload, 1, (0, 0, [])),
  (1244, .invokevirtual 132, 3, (149, 0, [3, 9])),
  (1247, .lstore 6, 2, (0, 0, [])),
  (1249, .aload_n 2, 1, (0, 0, [])),
  (1250, .invokevirtual 83, 3, (95, 0, [0, 9])),
  (1253, .iload 5, 2, (0, 0, [])),
  (1255, .if_icmp .eq 5, 3, (0, 0, [])),
  (1258, .iconst 0, 1, (0, 0, [])),
  (1259, .ireturn, 1, (0, 0, [])),
  (1260, .iload 5, 2, (0, 0, [])),
  (1262, .ifCond .ne 14, 3, (0, 0, [])),
  (1265, .aload_n 3, 1, (0, 0, [])),
  (1266, .iconst 0, 1, (0, 0, [])),
  (1267, .laload, 1, (0, 0, [])),
  (1268, .lload 6, 2, (0, 0, [])),
  (1270, .lcmp, 1, (0, 0, [])),
  (1271, .ifCond .eq 5, 3, (0, 0, [])),
  (1274, .iconst 0, 1, (0, 0, [])),
  (1275, .ireturn, 1, (0, 0, [])),
  (1276, .goto 122, 3, (0, 0, [])),
  (1279, .aload_n 1, 1, (0, 0, [])),
  (1280, .aload_n 0, 1, (0, 0, [])),
  (1281, .iload 4, 2, (0, 0, [])),
  (1283, .iconst 1, 1, (0, 0, [])),
  (1284, .iadd, 1, (0, 0, [])),
  (1285, .iaload, 1, (0, 0, [])),
  (1286, .aload_n 3, 1, (0, 0, [])),
  (1287, .invokestatic 133, 3, (173, 6, [3])),
  (1290, .istore 5, 2, (0, 0, [])),
  (1292, .aload_n 2, 1, (0, 0, [])),
  (1293, .aload_n 0, 1, (0, 0, [])),
  (1294, .iload 4, 2, (0, 0, [])),
  (1296, .iconst 1, 1, (0, 0, [])),
  (1297, .iadd, 1, (0, 0, [])),
  (1298, .iaload, 1, (0, 0, [])),
  (1299, .invokevirtual 135, 3, (150, 0, [1, 9])),
  (1302, .istore 6, 2, (0, 0, [])),
  (1304, .aload_n 2, 1, (0, 0, [])),
  (1305, .invokevirtual 83, 3, (95, 0, [0, 9])),
  (1308, .iload 5, 2, (0, 0, [])),
  (1310, .if_icmp .eq 5, 3, (0, 0, [])),
  (1313, .iconst 0, 1, (0, 0, [])),
  (1314, .ireturn, 1, (0, 0, [])),
  (1315, .iload 5, 2, (0, 0, [])),
  (1317, .ifCond .ne 15, 3, (0, 0, [])),
  (1320, .aload_n 3, 1, (0, 0, [])),
  (1321, .iconst 0, 1, (0, 0, [])),
  (1322, .laload, 1, (0, 0, [])),
  (1323, .iload 6, 2, (0, 0, [])),
  (1325, .i2l, 1, (0, 0, [])),
  (1326, .lcmp, 1, (0, 0, [])),
  (1327, .ifCond .eq 5, 3, (0, 0, [])),
  (1330, .iconst 0, 1, (0, 0, [])),
  (1331, .ireturn, 1, (0, 0, [])),
  (1332, .goto 66, 3, (0, 0, [])),
  (1335, .aload_n 1, 1, (0, 0, [])),
  (1336, .aload_n 0, 1, (0, 0, [])),
  (1337, .iload 4, 2, (0, 0, [])),
  (1339, .iconst 1, 1, (0, 0, [])),
  (1340, .iadd, 1, (0, 0, [])),
  (1341, .iaload, 1, (0, 0, [])),
  (1342, .invokevirtual 136, 3, (73, 0, [1, 8])),
  (1345, .aload_n 2, 1, (0, 0, [])),
  (1346, .aload_n 0, 1, (0, 0, [])),
  (1347, .iload 4, 2, (0, 0, [])),
  (1349, .iconst 1, 1, (0, 0, [])),
  (1350, .iadd, 1, (0, 0, [])),
  (1351, .iaload, 1, (0, 0, [])),
  (1352, .invokevirtual 139, 3, (151, 0, [1, 9])),
  (1355, .if_icmp .eq 43, 3, (0, 0, [])),
  (1358, .iconst 0, 1, (0, 0, [])),
  (1359, .ireturn, 1, (0, 0, [])),
  (1360, .aload_n 1, 1, (0, 0, [])),
  (1361, .invokevirtual 140, 3, (74, 0, [0, 8])),
  (1364, .aload_n 2, 1, (0, 0, [])),
  (1365, .invokevirtual 143, 3, (152, 0, [0, 9])),
  (1368, .if_icmp .eq 30, 3, (0, 0, [])),
  (1371, .iconst 0, 1, (0, 0, [])),
  (1372, .ireturn, 1, (0, 0, [])),
  (1373, .aload_n 1, 1, (0, 0, [])),
  (1374, .aload_n 0, 1, (0, 0, [])),
  (1375, .iload 4, 2, (0, 0, [])),
  (1377, .iconst 1, 1, (0, 0, [])),
  (1378, .iadd, 1, (0, 0, [])),
  (1379, .iaload, 1, (0, 0, [])),
  (1380, .invokevirtual 144, 3, (75, 0, [1, 8])),
  (1383, .aload_n 2, 1, (0, 0, [])),
  (1384, .aload_n 0, 1, (0, 0, [])),
  (1385, .iload 4, 2, (0, 0, [])),
  (1387, .iconst 1, 1, (0, 0, [])),
  (1388, .iadd, 1, (0, 0, [])),
  (1389, .iaload, 1, (0, 0, [])),
  (1390, .invokevirtual 147, 3, (153, 0, [1, 9])),
  (1393, .if_icmp .eq 5, 3, (0, 0, [])),
  (1396, .iconst 0, 1, (0, 0, [])),
  (1397, .ireturn, 1, (0, 0, [])),
  (1398, .iinc 4 7, 3, (0, 0, [])),
  (1401, .goto (-1378), 3, (0, 0, [])),
  (1404, .iconst 1, 1, (0, 0, [])),
  (1405, .ireturn, 1, (0, 0, []))], 12, 456)
def zP0 : List zM := [zm_X0_init, zm_X0_uses, zm_X0_settle, zm_X1_init, zm_X1_goThrough, zm_X1_goOnFrom, zm_X1_tryWord, zm_X1_rowIsFull, zm_X1_perform, zm_X1_following, zm_X1_loaded, zm_X1_putInRow, zm_X1_tryStore, zm_X1_takeTrial, zm_X1_keepTrial, zm_X1_putTrial, zm_X1_mixed, zm_X1_isTrial, zm_X1_isEnd, zm_X1_insertEnd, zm_X1_endIsBefore, zm_X1_tell, zm_X2_init, zm_X2_uses, zm_X2_cut]
def zP1 : List zM := [zm_X2_placeOf, zm_X3_init, zm_X3_uses, zm_X3_programOf, zm_X3_endWidth, zm_X4_init, zm_X4_uses, zm_X4_append, zm_X4_wordAt, zm_X4_targetOf, zm_X5_init, zm_X5_uses, zm_X5_nextWord, zm_X5_advance, zm_X5_perform, zm_X5_sameAs, zm_X5_sameNumbers, zm_X6_init, zm_X6_uses, zm_X6_tick, zm_X6_entryOf, zm_X6_enter, zm_X6_tally, zm_X7_init, zm_X8_init]
def zP2 : List zM := [zm_X8_computes, zm_X8_writes, zm_X8_readsA, zm_X8_readsB, zm_X8_goes, zm_X8_result, zm_X9_init, zm_X9_machine, zm_X9_program, zm_X9_word, zm_X9_run, zm_X9_step, zm_X9_core, zm_X9_change, zm_X9_sim, zm_X9_cycles, zm_X9_state, zm_X9_number, zm_X9_agrees, zm_X9_pair, zm_X9_explore, zm_X9_end, zm_X9_drop, zm_X9_kind, zm_X9_rule]
def zP3 : List zM := [zm_X9_count, zm_X9_outside, zm_X9_noRegister, zm_X9_noCore, zm_X9_admit, zm_X9_refuse, zm_X9_refuseIfUsed, zm_X9_refuseIfApart, zm_X9_refuseIfEmpty, zm_X9_refuseIfTooLarge, zm_X9_thingAt, zm_X9_livingAt, zm_X9_machineAt, zm_X9_programAt, zm_X9_runAt, zm_X9_coreAt, zm_X9_simAt, zm_X9_pairAt, zm_X9_shownAt, zm_X10_init, zm_X10_thrown, zm_X10_fail, zm_X10_within, zm_X10_refuse, zm_X10_isThere]
def zP4 : List zM := [zm_X10_isOf, zm_X10_isUsed, zm_X10_add, zm_X10_isFull, zm_X10_machine, zm_X10_program, zm_X10_word, zm_X10_isCore, zm_X10_setCore, zm_X10_core, zm_X10_change, zm_X10_begin, zm_X10_cut, zm_X10_modulo, zm_X10_wordOf, zm_X10_goes, zm_X10_doWord, zm_X10_run, zm_X10_step, zm_X10_sim, zm_X10_reads, zm_X10_writes, zm_X10_readyAt, zm_X10_enter, zm_X10_lose]
def zP5 : List zM := [zm_X10_enterAll, zm_X10_leaveAll, zm_X10_cycles, zm_X10_isRunning, zm_X10_state, zm_X10_programOf, zm_X10_number, zm_X10_agrees, zm_X10_open, zm_X10_chainOf, zm_X10_isKept, zm_X10_keep, zm_X10_programAt, zm_X10_seen, zm_X10_doOf, zm_X10_letGo, zm_X10_isEnd, zm_X10_isBefore, zm_X10_addEnd, zm_X10_goFrom, zm_X10_lookThrough, zm_X10_pair, zm_X10_isSmall, zm_X10_explore, zm_X10_end]
def zP6 : List zM := [zm_X10_drop, zm_X10_kind, zm_X10_rule, zm_X10_count, zm_J9_floorMod_7cf53, zm_J9_max_7cf53, zm_J7_fill_d0a16, zm_J7_fill_53178, zm_L_machine, zm_L_program, zm_L_word, zm_L_run, zm_L_step, zm_L_core, zm_L_change, zm_L_sim, zm_L_cycles, zm_L_state, zm_L_number, zm_L_agrees, zm_L_pair, zm_L_explore, zm_L_end, zm_L_drop, zm_L_law]
def zP : List zM := zP0 ++ (zP1 ++ (zP2 ++ (zP3 ++ (zP4 ++ (zP5 ++ (zP6))))))
abbrev zTH : List (String × Nat × Nat × Nat) := [("ProcessorHouse", 19, 23, 1), ("ProcessorHouse", 62, 66, 2), ("ProcessorHouse", 201, 205, 3), ("ProcessorHouse", 225, 229, 0)]
end
section
/-! what is checked of the methods, by the kernel -/
set_option maxRecDepth 100000 in
theorem zk_X0_init : z_okm zP zTH zm_X0_init [] [[], [], [221, 79, 220, 519], [], [], [520], []] = true := by decide +kernel
set_option maxRecDepth 100000 in
theorem zk_X0_uses : z_okm zP zTH zm_X0_uses [] [[], [], [520], [], [], [], [], []] = true := by decide +kernel
set_option maxRecDepth 100000 in
theorem zk_X0_settle : z_okm zP zTH zm_X0_settle [] [[], [], [522], [], [], [525], [], [], [527], [], [], [529], []] = true := by decide +kernel
set_option maxRecDepth 100000 in
theorem zk_X1_init : z_okm zP zTH zm_X1_init [] [[], [768, 100, 101], [], [769], [444], [770], [], [], [611], [771], [], [], [611], [772], [], [], [444], [773], []] = true := by decide +kernel
set_option maxRecDepth 100000 in
theorem zk_X1_goThrough : z_okm zP zTH zm_X1_goThrough [] [[], [], [774], [], [], [710], [287], [775], [], [], [776], [], [], [777], [], [], [778], [], [], [779], [], [771], [], [807, 91, 806, 805], [], [773], [], [810, 91, 809, 808], [], [814, 90, 811, 813, 19], [], [], [], [], [776], [], [], [], [], [], [779], [], [], [], [834, 90, 831, 833, 23], [], [], [], [899, 90, 896, 898, 34], []] = true := by decide +kernel
set_option maxRecDepth 100000 in
theorem zk_X1_goOnFrom : z_okm zP zTH zm_X1_goOnFrom [] [[], [], [], [], [], [], [], [], [], [], [838, 90, 835, 837, 24], [], [], [], [], [], [877, 90, 874, 876, 30], [], [], [], [], [], [], [], [], [882, 90, 879, 881, 31], [], [], [], [887, 90, 884, 886, 32], [], [], [], [778], [], [], [778], []] = true := by decide +kernel
set_option maxRecDepth 100000 in
theorem zk_X1_tryWord : z_okm zP zTH zm_X1_tryWord [] [[], [], [842, 90, 839, 841, 25], [], [774], [], [846, 89, 843, 844, 845], [], [], [773], [], [], [], [], [], [], [], [], [469, 82, 847, 467, 468], [], [], [], [], [368], [], [], [], [], [851, 90, 848, 850, 26], [], [], [], [], [], [], [], [], [], [], [773], [], [], [378], [], [], [], [], [], [], [], [], [773], [], [], [382], [], [], [856, 90, 853, 855, 27], [], [773], [], [], [], [], [], [], [], [871, 90, 870, 869], [], [], [], [814, 90, 811, 813, 19], [], []] = true := by decide +kernel
set_option maxRecDepth 100000 in
theorem zk_X1_rowIsFull : z_okm zP zTH zm_X1_rowIsFull [] [[], [774], [713], [], [], [773], [], [], [], [], [852], [], [], [], [], [], []] = true := by decide +kernel
set_option maxRecDepth 100000 in
theorem zk_X1_perform : z_okm zP zTH zm_X1_perform [] [[], [], [], [], [], [], [374], [], [], [], [478, 84, 857, 476, 477], [], [], [773], [], [], [775], [], [], [], [482, 84, 858, 480, 481], [486, 80, 859, 484, 485], [], [], [], [368], [], [], [], [773], [], [], [], [], [775], [], [490, 80, 860, 488, 489], [864, 90, 861, 863, 28], [], [], [], [368], [], [], [], [774], [713], [], [], [], [], [775], [], [490, 80, 860, 488, 489], [], [868, 90, 865, 867, 29], [], [], [368], [], [], [], [773], [], [], [775], [], [490, 80, 860, 488, 489], [], [], [], []] = true := by decide +kernel
set_option maxRecDepth 100000 in
theorem zk_X1_following : z_okm zP zTH zm_X1_following [] [[], [], [495, 84, 872, 493, 494], [], [], [], [499, 82, 873, 497, 498], [], [], [368], [], [], [], [], [], [], [294], [], [], [], [], [], [], []] = true := by decide +kernel
set_option maxRecDepth 100000 in
theorem zk_X1_loaded : z_okm zP zTH zm_X1_loaded [] [[], [], [], [], [], [], [], [773], [], [], [], [], [], [], [], [], [], [], [], [], [], [773], [], [], [], [], [], [], [], [773], [], [], [], [], [], [], [], [], [], [], [], [773], [], [], [], [], [], [], [], [], [], [], [], [], []] = true := by decide +kernel
set_option maxRecDepth 100000 in
theorem zk_X1_putInRow : z_okm zP zTH zm_X1_putInRow [] [[], [773], [], [], [], [], [], [], [], [], [], [], [], [], [], [], [], [], [], [], [], [], [], [], [], [773], [], [], [], [], [], [773], [], [], [], [], [], [], [773], [], [], [], [], [], [], [], [], []] = true := by decide +kernel
set_option maxRecDepth 100000 in
theorem zk_X1_tryStore : z_okm zP zTH zm_X1_tryStore [] [[], [], [842, 90, 839, 841, 25], [], [], [], [], [], [], [], [773], [], [], [], [], [], [773], [], [], [], [], [], [], [], [], [], [], [127, 73, 126, 878], [], [], [], [], [773], [], [], [], [], [773], [], [], [], [], [], [], [773], [], [], [], [], [773], [], [], [824, 826, 825, 92], [], [773], [], [], [], [], [], [], [], [], [773], [], [], [], [], [], [], [], [], [773], [], [], [], [], [], [], [], [], [], [814, 90, 811, 813, 19], [], []] = true := by decide +kernel
set_option maxRecDepth 100000 in
theorem zk_X1_takeTrial : z_okm zP zTH zm_X1_takeTrial [] [[], [770], [], [], [], [], [773], [], [], [824, 826, 825, 92], []] = true := by decide +kernel
set_option maxRecDepth 100000 in
theorem zk_X1_keepTrial : z_okm zP zTH zm_X1_keepTrial [] [[], [818, 90, 815, 817, 20], [], [], [], [], [], [], [], [], [], [], [], [], [], [771], [], [], [], [], [], [823, 90, 820, 822, 21], [], [], [], [771], [], [], [], [], [830, 90, 827, 829, 22], [], [], [], [], []] = true := by decide +kernel
set_option maxRecDepth 100000 in
theorem zk_X1_putTrial : z_okm zP zTH zm_X1_putTrial [] [[], [776], [], [], [], [], [779], [], [], [773], [], [], [770], [], [776], [], [], [], [824, 826, 825, 92], [], [], [776], [], [], [776], [], [771], [], [], [776], [], []] = true := by decide +kernel
set_option maxRecDepth 100000 in
theorem zk_X1_mixed : z_okm zP zTH zm_X1_mixed [] [[], [], [], [], [], [], [], [], [], [773], [], [], [], [819], [], [], [], [], [], [], [], [], [], [], [], [], [], [], []] = true := by decide +kernel
set_option maxRecDepth 100000 in
theorem zk_X1_isTrial : z_okm zP zTH zm_X1_isTrial [] [[], [], [], [], [], [], [], [], [], [], [770], [], [], [], [], [], [773], [], [], [], [], [], [], [], [], [], []] = true := by decide +kernel
set_option maxRecDepth 100000 in
theorem zk_X1_isEnd : z_okm zP zTH zm_X1_isEnd [] [[], [], [], [], [], [770], [], [], [], [], [883], [], [], [], [770], [], [], [], [], [], [], [883], [], [], [], [770], [], [], [], [], [], [], [], [], [770], [], [], [], [], [], [], [], [], [], [], [], [], []] = true := by decide +kernel
set_option maxRecDepth 100000 in
theorem zk_X1_insertEnd : z_okm zP zTH zm_X1_insertEnd [] [[], [777], [], [], [], [], [777], [], [], [], [], [], [], [772], [], [], [], [], [891, 90, 888, 890, 33], [], [], [772], [], [], [772], [], [], [], [], [], [], [], [], [772], [], [], [], [], [], [777], [], [], [777], []] = true := by decide +kernel
set_option maxRecDepth 100000 in
theorem zk_X1_endIsBefore : z_okm zP zTH zm_X1_endIsBefore [] [[], [774], [895, 89, 892, 893, 894], [], [], [], [], [], [], [], [], [], [770], [], [], [], [], [], [], [], [], [770], [], [], [], [], [], [], [], [], [], [], [], [], [], [], [], [], [], [], [], [], [], [], []] = true := by decide +kernel
set_option maxRecDepth 100000 in
theorem zk_X1_tell : z_okm zP zTH zm_X1_tell [] [[], [774], [], [714], [], [774], [], [779], [716], [], [779], [], [], [], [774], [895, 89, 892, 893, 894], [], [], [774], [], [776], [719], [], [774], [], [778], [723], [], [774], [], [777], [721], [], [774], [], [777], [], [], [444], [726], [], [], [], [], [777], [], [], [770], [], [772], [], [], [], [], [], [], [], [774], [726], [], [], [], [], [824, 826, 825, 92], [], [], []] = true := by decide +kernel
set_option maxRecDepth 100000 in
theorem zk_X2_init : z_okm zP zTH zm_X2_init [] [[], [], [221, 79, 220, 219], [], [], [223], [], [], [], [], [], [], [226], []] = true := by decide +kernel
set_option maxRecDepth 100000 in
theorem zk_X2_uses : z_okm zP zTH zm_X2_uses [] [[], []] = true := by decide +kernel
set_option maxRecDepth 100000 in
theorem zk_X2_cut : z_okm zP zTH zm_X2_cut [] [[], [], [226], [], []] = true := by decide +kernel
set_option maxRecDepth 100000 in
theorem zk_X2_placeOf : z_okm zP zTH zm_X2_placeOf [] [[], [223], [], [], [], [], [], [], [486, 80, 491, 484, 485], [], [223], [], [], [], []] = true := by decide +kernel
set_option maxRecDepth 100000 in
theorem zk_X3_init : z_okm zP zTH zm_X3_init [] [[], [], [221, 79, 220, 708], [], [], [444], [724], [], [], [709], [], [], [711], [], [], [712], []] = true := by decide +kernel
set_option maxRecDepth 100000 in
theorem zk_X3_uses : z_okm zP zTH zm_X3_uses [] [[], [], [709], [], [], [], [711], [], [], [], [], []] = true := by decide +kernel
set_option maxRecDepth 100000 in
theorem zk_X3_programOf : z_okm zP zTH zm_X3_programOf [] [[], [], [], [709], [], [], [711], []] = true := by decide +kernel
set_option maxRecDepth 100000 in
theorem zk_X3_endWidth : z_okm zP zTH zm_X3_endWidth [] [[], [], [709], [288], [225], [], []] = true := by decide +kernel
set_option maxRecDepth 100000 in
theorem zk_X4_init : z_okm zP zTH zm_X4_init [] [[], [], [221, 79, 220, 282], [], [], [283, 284], [290], [], [], [285], []] = true := by decide +kernel
set_option maxRecDepth 100000 in
theorem zk_X4_uses : z_okm zP zTH zm_X4_uses [] [[], [], [285], [], [], [], [], []] = true := by decide +kernel
set_option maxRecDepth 100000 in
theorem zk_X4_append : z_okm zP zTH zm_X4_append [] [[], [291], [], [], [], [290], [], [291], [], [], [], [], [291], [], [], [291], []] = true := by decide +kernel
set_option maxRecDepth 100000 in
theorem zk_X4_wordAt : z_okm zP zTH zm_X4_wordAt [] [[], [], [], [291], [], [], [127, 73, 126, 470], [], [], [], [], [290], [], [], []] = true := by decide +kernel
set_option maxRecDepth 100000 in
theorem zk_X4_targetOf : z_okm zP zTH zm_X4_targetOf [] [[], [291], [], [], [], [], [], [384], [], [291], [502, 86, 501, 500], []] = true := by decide +kernel
set_option maxRecDepth 100000 in
theorem zk_X5_init : z_okm zP zTH zm_X5_init [] [[], [], [221, 79, 220, 416], [], [], [444], [419], [], [], [417], [], [], [286], [224], [444], [422], []] = true := by decide +kernel
set_option maxRecDepth 100000 in
theorem zk_X5_uses : z_okm zP zTH zm_X5_uses [] [[], [], [417], [], [], [], [], []] = true := by decide +kernel
set_option maxRecDepth 100000 in
theorem zk_X5_nextWord : z_okm zP zTH zm_X5_nextWord [] [[], [428], [], [], [], [], [417], [], [424], [469, 82, 466, 467, 468], []] = true := by decide +kernel
set_option maxRecDepth 100000 in
theorem zk_X5_advance : z_okm zP zTH zm_X5_advance [] [[], [465, 85, 462, 463, 464], [], [], [], [], [], [419], [], [376], [], [], [], [], [], [], [419], [], [380], [], [474, 85, 471, 473, 10], [], [], [426], [], [], [426], [], [], [495, 84, 492, 493, 494], [], [], [], [417], [], [499, 82, 496, 497, 498], [424], [], [], [], [424], [], [], [], [417], [293], [], [], [424], [], [], [], [], [424], []] = true := by decide +kernel
end
section
/-! what is checked of the methods, by the kernel -/
set_option maxRecDepth 100000 in
theorem zk_X5_perform : z_okm zP zTH zm_X5_perform [] [[], [417], [286], [], [], [478, 84, 475, 476, 477], [], [], [419], [], [372], [], [], [], [], [482, 84, 479, 480, 481], [486, 80, 483, 484, 485], [], [], [], [369], [], [], [], [419], [], [372], [], [422], [], [], [490, 80, 487, 488, 489], [], [], [], [], [369], [], [], [], [422], [], [], [490, 80, 487, 488, 489], [], [], [], [], [369], [], [], [], [], [428], []] = true := by decide +kernel
set_option maxRecDepth 100000 in
theorem zk_X5_sameAs : z_okm zP zTH zm_X5_sameAs [] [[], [417], [], [417], [], [], [426], [], [426], [], [], [419], [], [419], [694, 85, 693, 692], [], [], [422], [], [422], [694, 85, 693, 692], [], [], [], [], []] = true := by decide +kernel
set_option maxRecDepth 100000 in
theorem zk_X5_sameNumbers : z_okm zP zTH zm_X5_sameNumbers [] [[], [], [], [], [], [], [], [], [], [], [], [], [], [], [], [], [], [], [], [], [], [], [], [], [], [], []] = true := by decide +kernel
set_option maxRecDepth 100000 in
theorem zk_X6_init : z_okm zP zTH zm_X6_init [] [[], [], [221, 79, 220, 575], [], [], [611], [587], [], [], [611], [588], [], [], [578], [], [576, 412, 85], [], [], [415, 85, 414, 577], [579], [], [576, 412, 85], [], [], [415, 85, 414, 577], [580], []] = true := by decide +kernel
set_option maxRecDepth 100000 in
theorem zk_X6_uses : z_okm zP zTH zm_X6_uses [] [[], [], [578], [], [], [], [580], [418], [], [], [], [], []] = true := by decide +kernel
set_option maxRecDepth 100000 in
theorem zk_X6_tick : z_okm zP zTH zm_X6_tick [] [[], [], [582], [], [], [582], [], [579], [465, 85, 629, 463, 464], [], [], [], [], [582], [], [], [633, 88, 630, 632, 14], [], [], [], [649, 88, 646, 648, 15], [], [580], [425], [], [579], [425], [], [], [588], [], [580], [425], [], [], [], [], [582], [], [], [580], [461, 85, 655, 459, 460], []] = true := by decide +kernel
set_option maxRecDepth 100000 in
theorem zk_X6_entryOf : z_okm zP zTH zm_X6_entryOf [] [[], [583], [], [], [], [584], [], [], [], [637, 84, 634, 635, 636], [], [], [], [587], [], [377], [], [640, 86, 639, 638], [], [], [644, 84, 641, 642, 643], [], [], [], [587], [], [381], [], [640, 86, 639, 638], [], [], []] = true := by decide +kernel
set_option maxRecDepth 100000 in
theorem zk_X6_enter : z_okm zP zTH zm_X6_enter [] [[], [], [585], [], [584], [], [585], [], [], [586], [], [582], [], [583], [], [], [], [], [584], [], [], [586], [], [], [582], [583], [], [], [], [579], [420], [], [377], [], [495, 84, 650, 493, 494], [], [], [578], [530], [], [], [584], [], [654, 84, 651, 652, 653], [], [], [587], [], [373], [], [582], [], [], [], [370], [], [], [], [578], [528], [], [], [578], [526], [], [], [], [588], [], [579], [425], [], [], [], [582], [], [578], [523], [], [], [], [579], [461, 85, 655, 459, 460], []] = true := by decide +kernel
set_option maxRecDepth 100000 in
theorem zk_X6_tally : z_okm zP zTH zm_X6_tally [] [[], [], [], [582], [], [], [579], [425], [], [], [585], [], [], [586], []] = true := by decide +kernel
set_option maxRecDepth 100000 in
theorem zk_X7_init : z_okm zP zTH zm_X7_init [] [[], [222, 100, 101], [], [], [227], []] = true := by decide +kernel
set_option maxRecDepth 100000 in
theorem zk_X8_init : z_okm zP zTH zm_X8_init [] [[], [366, 100, 101], [], [], [367], [], [], [371], [], [], [375], [], [], [379], [], [], [383], []] = true := by decide +kernel
set_option maxRecDepth 100000 in
theorem zk_X8_computes : z_okm zP zTH zm_X8_computes [] [[], [367], [], [], [], [], [], []] = true := by decide +kernel
set_option maxRecDepth 100000 in
theorem zk_X8_writes : z_okm zP zTH zm_X8_writes [] [[], [367], [], [], [], [], [], []] = true := by decide +kernel
set_option maxRecDepth 100000 in
theorem zk_X8_readsA : z_okm zP zTH zm_X8_readsA [] [[], [367], [], [], [367], [], [], [], [], [], []] = true := by decide +kernel
set_option maxRecDepth 100000 in
theorem zk_X8_readsB : z_okm zP zTH zm_X8_readsB [] [[], [367], [], [], [], [367], [], [], [478, 84, 645, 476, 477], [], [], [], [], []] = true := by decide +kernel
set_option maxRecDepth 100000 in
theorem zk_X8_goes : z_okm zP zTH zm_X8_goes [] [[], [367], [], [], [], [], [], [], [], [], [], []] = true := by decide +kernel
set_option maxRecDepth 100000 in
theorem zk_X8_result : z_okm zP zTH zm_X8_result [] [[], [367], [], [], [], [], [], [], [], [], [], [], [], [], [], [], [383], [], []] = true := by decide +kernel
set_option maxRecDepth 100000 in
theorem zk_X9_init : z_okm zP zTH zm_X9_init [] [[], [99, 100, 101], [], [], [102, 103], [104], []] = true := by decide +kernel
set_option maxRecDepth 100000 in
theorem zk_X9_machine : z_okm zP zTH zm_X9_machine [] [[], [], [], [127, 73, 126, 125], [], [], [], [], [127, 73, 126, 125], [], [187], [], [214, 215, 80], [], [], [], [218, 80, 217, 216], [239, 73, 236, 238, 2], []] = true := by decide +kernel
set_option maxRecDepth 100000 in
theorem zk_X9_program : z_okm zP zTH zm_X9_program [] [[], [267, 268, 82], [], [], [], [272, 73, 269, 271, 4], [281, 82, 280, 279], [239, 73, 236, 238, 2], []] = true := by decide +kernel
set_option maxRecDepth 100000 in
theorem zk_X9_word : z_okm zP zTH zm_X9_word [] [[], [], [314, 73, 311, 313, 6], [], [], [], [319, 73, 316, 318, 7], [], [], [], [127, 73, 126, 125], [], [], [343, 73, 342, 341], [], [], [343, 73, 342, 341], [], [], [343, 73, 342, 341], [], [344], [], [292], [], [], [354], [], [361, 362, 84], [], [], [], [], [], [], [365, 84, 364, 363], [399, 82, 396, 397, 398], [], [292], []] = true := by decide +kernel
set_option maxRecDepth 100000 in
theorem zk_X9_run : z_okm zP zTH zm_X9_run [] [[], [], [314, 73, 311, 313, 6], [], [], [], [410, 73, 407, 409, 8], [], [411, 412, 85], [], [], [415, 85, 414, 413], [239, 73, 236, 238, 2], []] = true := by decide +kernel
set_option maxRecDepth 100000 in
theorem zk_X9_step : z_okm zP zTH zm_X9_step [] [[], [], [455, 73, 452, 454, 9], [], [], [], [], [127, 73, 126, 125], [], [457], [], [], [], [], [], [], [429], [], [], [461, 85, 458, 459, 460], [], [], [], []] = true := by decide +kernel
set_option maxRecDepth 100000 in
theorem zk_X9_core : z_okm zP zTH zm_X9_core [] [[], [], [272, 73, 269, 271, 4], [], [], [], [], [], [512, 73, 511, 510], [], [513], [514, 515, 87], [], [], [518, 87, 517, 516], [], [], [], [], [], [], [546, 87, 543, 544, 545], [], [], [239, 73, 236, 238, 2], []] = true := by decide +kernel
set_option maxRecDepth 100000 in
theorem zk_X9_change : z_okm zP zTH zm_X9_change [] [[], [], [557, 73, 554, 556, 11], [], [], [], [319, 73, 316, 318, 7], [], [], [], [], [512, 73, 511, 510], [], [513], [], [524], [], [], [], [], [], [], [546, 87, 543, 544, 545], [], []] = true := by decide +kernel
set_option maxRecDepth 100000 in
theorem zk_X9_sim : z_okm zP zTH zm_X9_sim [] [[], [], [557, 73, 554, 556, 11], [], [], [], [314, 73, 311, 313, 6], [], [], [], [521], [], [289], [569, 73, 566, 568, 12], [], [], [410, 73, 407, 409, 8], [], [570, 571, 88], [], [], [], [574, 88, 573, 572], [239, 73, 236, 238, 2], []] = true := by decide +kernel
set_option maxRecDepth 100000 in
theorem zk_X9_cycles : z_okm zP zTH zm_X9_cycles [] [[], [], [622, 73, 619, 621, 13], [], [], [], [], [127, 73, 126, 125], [], [624], [], [], [], [], [], [], [581], [429], [], [], [628, 88, 625, 626, 627], [], [], [], []] = true := by decide +kernel
set_option maxRecDepth 100000 in
theorem zk_X9_state : z_okm zP zTH zm_X9_state [] [[], [], [666, 73, 663, 665, 16], [], [], [], [], [427], [], [], [], [], [], [429], [], [], [], [], [], [], [], [124, 73, 121, 123, 0], [], [], [570], [], [], [570], [], [], [], [], [127, 73, 126, 125], [], [], [], [671, 88, 668, 669, 670], [], [672]] = true := by decide +kernel
set_option maxRecDepth 100000 in
theorem zk_X9_number : z_okm zP zTH zm_X9_number [] [[], [], [666, 73, 663, 665, 16], [], [], [], [], [], [423], [], [], [], [], [127, 73, 126, 125], [], [680], [], [], [], [], [421], [], [], [], [], [423], [], [], [], [], []] = true := by decide +kernel
set_option maxRecDepth 100000 in
theorem zk_X9_agrees : z_okm zP zTH zm_X9_agrees [] [[], [], [622, 73, 619, 621, 13], [581], [], [], [], [455, 73, 452, 454, 9], [], [], [427], [], [427], [], [], [], [], [], [], [], [], [429], [], [], [461, 85, 458, 459, 460], [], [], [], [], [691, 85, 688, 689, 690], []] = true := by decide +kernel
set_option maxRecDepth 100000 in
theorem zk_X9_pair : z_okm zP zTH zm_X9_pair [] [[], [], [314, 73, 311, 313, 6], [], [], [], [314, 73, 311, 313, 6], [], [], [], [289], [], [289], [569, 73, 566, 568, 12], [], [], [410, 73, 407, 409, 8], [], [], [410, 73, 407, 409, 8], [], [], [], [127, 73, 126, 125], [], [702], [], [703, 704, 89], [], [], [], [], [], [], [], [], [], [707, 89, 706, 705], [239, 73, 236, 238, 2], []] = true := by decide +kernel
set_option maxRecDepth 100000 in
theorem zk_X9_explore : z_okm zP zTH zm_X9_explore [] [[], [], [757, 73, 754, 756, 17], [], [], [], [], [127, 73, 126, 125], [], [672], [], [], [762, 73, 759, 761, 18], [], [], [], [718], [], [], [], [], [], [720], [], [], [722], []] = true := by decide +kernel
set_option maxRecDepth 100000 in
theorem zk_X9_end : z_okm zP zTH zm_X9_end [] [[], [], [757, 73, 754, 756, 17], [], [], [], [], [895, 89, 908, 893, 894], [], [], [127, 73, 126, 125], [], [680], [], [], [762, 73, 759, 761, 18], [], [], [], [720], [], [], [127, 73, 126, 125], [], [918], [], [725], [], [], [895, 89, 908, 893, 894], [], [], [], [], []] = true := by decide +kernel
set_option maxRecDepth 100000 in
theorem zk_X9_drop : z_okm zP zTH zm_X9_drop [] [[], [], [276, 73, 273, 275, 5], [], [], [], [319, 73, 316, 318, 7], [], [104], [], [], [], [], [228], []] = true := by decide +kernel
set_option maxRecDepth 100000 in
theorem zk_X9_kind : z_okm zP zTH zm_X9_kind [] [[], [], [124, 73, 121, 123, 0], [], [], [], [], [], [], [228], []] = true := by decide +kernel
set_option maxRecDepth 100000 in
theorem zk_X9_rule : z_okm zP zTH zm_X9_rule [] [[], [106], []] = true := by decide +kernel
set_option maxRecDepth 100000 in
theorem zk_X9_count : z_okm zP zTH zm_X9_count [] [[], [], [], [127, 73, 126, 125], [], [], [], [], [], [], [105], [], [], [], [], [104], [], [], [], [], [], [], [], [], [], [], [], [], [], [], [], [], [], [], [], [228], [], [], [], [], [], [], [], [], []] = true := by decide +kernel
set_option maxRecDepth 100000 in
theorem zk_X9_outside : z_okm zP zTH zm_X9_outside [] [[], [], [], [], [], [], [], [], [], []] = true := by decide +kernel
set_option maxRecDepth 100000 in
theorem zk_X9_noRegister : z_okm zP zTH zm_X9_noRegister [] [[], [], [], [127, 73, 126, 125], []] = true := by decide +kernel
set_option maxRecDepth 100000 in
theorem zk_X9_noCore : z_okm zP zTH zm_X9_noCore [] [[], [], [], [127, 73, 126, 125], [], [], [], [], [127, 73, 126, 125], [], [], [], [], [127, 73, 126, 125], [], [], [], [], [127, 73, 126, 125], [], [], [], [], []] = true := by decide +kernel
set_option maxRecDepth 100000 in
theorem zk_X9_admit : z_okm zP zTH zm_X9_admit [] [[], [105], [], [], [], [], [243, 73, 240, 242, 3], [], [], [105], [], [], [105], [], [104], [], [105], [], [], [], [105], []] = true := by decide +kernel
set_option maxRecDepth 100000 in
theorem zk_X9_refuse : z_okm zP zTH zm_X9_refuse [] [[], [], [106], [253]] = true := by decide +kernel
set_option maxRecDepth 100000 in
theorem zk_X9_refuseIfUsed : z_okm zP zTH zm_X9_refuseIfUsed [] [[], [104], [], [], [], [], [], [], [], [], [], [], [], [], [], [], [], [], [], [320, 322, 321, 325, 87, 323, 324, 0, 0, 0, 0, 328, 80, 326, 327, 331, 89, 329, 330, 334, 82, 332, 333, 337, 85, 335, 336, 340, 88, 338, 339], [], [], [], [243, 73, 240, 242, 3], [], [], []] = true := by decide +kernel
set_option maxRecDepth 100000 in
theorem zk_X9_refuseIfApart : z_okm zP zTH zm_X9_refuseIfApart [] [[], [], [], [], [], [243, 73, 240, 242, 3], []] = true := by decide +kernel
set_option maxRecDepth 100000 in
theorem zk_X9_refuseIfEmpty : z_okm zP zTH zm_X9_refuseIfEmpty [] [[], [292], [], [], [], [243, 73, 240, 242, 3], []] = true := by decide +kernel
set_option maxRecDepth 100000 in
theorem zk_X9_refuseIfTooLarge : z_okm zP zTH zm_X9_refuseIfTooLarge [] [[], [715], [], [], [107], [], [], [763, 764, 90], [], [767, 90, 766, 765], [107], [], [107], [], [804, 90, 801, 802, 803], [], [717], [], [], [], [243, 73, 240, 242, 3], []] = true := by decide +kernel
set_option maxRecDepth 100000 in
theorem zk_X9_thingAt : z_okm zP zTH zm_X9_thingAt [] [[], [], [], [127, 73, 126, 125], [], [], [], [], [104], [], [], []] = true := by decide +kernel
set_option maxRecDepth 100000 in
theorem zk_X9_livingAt : z_okm zP zTH zm_X9_livingAt [] [[], [], [124, 73, 121, 123, 0], [], [], [], [], [], [106], [277], [], []] = true := by decide +kernel
set_option maxRecDepth 100000 in
theorem zk_X9_machineAt : z_okm zP zTH zm_X9_machineAt [] [[], [], [276, 73, 273, 275, 5], [], [], [214], [], [], [214], [], [], [], [], [], [106], [278]] = true := by decide +kernel
set_option maxRecDepth 100000 in
theorem zk_X9_programAt : z_okm zP zTH zm_X9_programAt [] [[], [], [276, 73, 273, 275, 5], [], [], [267], [], [], [267], [], [], [], [], [], [106], [315]] = true := by decide +kernel
end
section
/-! what is checked of the methods, by the kernel -/
set_option maxRecDepth 100000 in
theorem zk_X9_runAt : z_okm zP zTH zm_X9_runAt [] [[], [], [276, 73, 273, 275, 5], [], [], [411], [], [], [411], [], [], [], [], [], [106], [456]] = true := by decide +kernel
set_option maxRecDepth 100000 in
theorem zk_X9_coreAt : z_okm zP zTH zm_X9_coreAt [] [[], [], [276, 73, 273, 275, 5], [], [], [514], [], [], [514], [], [], [], [], [], [106], [558]] = true := by decide +kernel
set_option maxRecDepth 100000 in
theorem zk_X9_simAt : z_okm zP zTH zm_X9_simAt [] [[], [], [276, 73, 273, 275, 5], [], [], [570], [], [], [570], [], [], [], [], [], [106], [623]] = true := by decide +kernel
set_option maxRecDepth 100000 in
theorem zk_X9_pairAt : z_okm zP zTH zm_X9_pairAt [] [[], [], [276, 73, 273, 275, 5], [], [], [703], [], [], [703], [], [], [], [], [], [106], [758]] = true := by decide +kernel
set_option maxRecDepth 100000 in
theorem zk_X9_shownAt : z_okm zP zTH zm_X9_shownAt [] [[], [], [276, 73, 273, 275, 5], [], [], [411], [], [], [411], [], [], [], [], [570], [], [], [570], [], [], [581], [], [], [], [106], [667]] = true := by decide +kernel
set_option maxRecDepth 100000 in
theorem zk_X10_init : z_okm zP zTH zm_X10_init [] [[], [937, 100, 101], [], [], [611], [942], [], [], [1064], [943], [], [], [611], [944], [], [], [611], [945], [], [], [611], [946], [], [], [611], [947], [], [], [611], [948], [], [], [611], [949], [], [], [611], [950], [], [], [611], [951], [], [], [611], [952], [], [], [611], [953], [], [], [611], [954], [], [], [611], [955], [], [], [611], [956], [], [], [611], [957], [], [], [444], [958], [], [], [611], [959], [], [], [611], [960], [], [], [1064], [961], [], [], [611], [962], [], [], [611], [963], [], [], [611], [964], [], [], [611], [965], [], [], [611], [966], [], [], [611], [967], [], [], [611], [968], [], [938], [444], [973], [], [], [611], [974], [], [], [444], [975], [], [], [611], [976], [], [], [611], [977], [], [], [1064], [978], []] = true := by decide +kernel
set_option maxRecDepth 100000 in
theorem zk_X10_thrown : z_okm zP zTH zm_X10_thrown [] [[], [939], []] = true := by decide +kernel
set_option maxRecDepth 100000 in
theorem zk_X10_fail : z_okm zP zTH zm_X10_fail [] [[], [], [939], [], []] = true := by decide +kernel
set_option maxRecDepth 100000 in
theorem zk_X10_within : z_okm zP zTH zm_X10_within [] [[], [], [], [], [], [], [], [], [], []] = true := by decide +kernel
set_option maxRecDepth 100000 in
theorem zk_X10_refuse : z_okm zP zTH zm_X10_refuse [] [[], [], [940], [], [], [1079, 74, 1076, 1078, 35], []] = true := by decide +kernel
set_option maxRecDepth 100000 in
theorem zk_X10_isThere : z_okm zP zTH zm_X10_isThere [] [[], [], [], [941], [1075, 74, 1074, 1073], [], [], [943], [], [], [], [], [], [], []] = true := by decide +kernel
set_option maxRecDepth 100000 in
theorem zk_X10_isOf : z_okm zP zTH zm_X10_isOf [] [[], [], [939], [], [], [1103, 74, 1100, 1102, 40], [], [], [], [], [942], [], [], [], [], [], [], [], [], [], [], [], [], [], [1087, 74, 1084, 1086, 37], [], [], [], [], [], [], []] = true := by decide +kernel
set_option maxRecDepth 100000 in
theorem zk_X10_isUsed : z_okm zP zTH zm_X10_isUsed [] [[], [], [], [], [], [], [941], [], [], [942], [], [], [], [], [], [944], [], [], [], [], [], [942], [], [], [], [], [], [942], [], [], [], [], [], [945], [], [], [], [], [], [], [], [], [], [], [], [943], [], [], [], [], [], [], [], [], [], [], [], [], []] = true := by decide +kernel
set_option maxRecDepth 100000 in
theorem zk_X10_add : z_okm zP zTH zm_X10_add [] [[], [], [941], [], [], [941], [], [942], [], [941], [], [], [], [943], [], [941], [], [], [], [944], [], [941], [], [], [], [945], [], [941], [], [], [], [941], []] = true := by decide +kernel
set_option maxRecDepth 100000 in
theorem zk_X10_isFull : z_okm zP zTH zm_X10_isFull [] [[], [941], [], [], [], [], [], [1087, 74, 1084, 1086, 37], [], [], [941], [], [], [], [], [], []] = true := by decide +kernel
set_option maxRecDepth 100000 in
theorem zk_X10_machine : z_okm zP zTH zm_X10_machine [] [[], [], [939], [], [], [], [1075, 74, 1074, 1073], [], [], [], [], [1075, 74, 1074, 1073], [], [], [], [1079, 74, 1076, 1078, 35], [], [], [], [1083, 74, 1080, 1082, 36], [], [], [], [], [], [], [], [1091, 74, 1088, 1090, 38], [], [], [946], [], [], [], [], [947], [], [], [], [], []] = true := by decide +kernel
set_option maxRecDepth 100000 in
theorem zk_X10_program : z_okm zP zTH zm_X10_program [] [[], [], [], [], [1099, 74, 1096, 1098, 39], [], [], [], [1083, 74, 1080, 1082, 36], [], [], [], [], [], [], [], [1091, 74, 1088, 1090, 38], [], [], [952], [], [], [], [], []] = true := by decide +kernel
set_option maxRecDepth 100000 in
theorem zk_X10_word : z_okm zP zTH zm_X10_word [] [[], [], [], [], [1099, 74, 1096, 1098, 39], [], [], [], [], [], [1111, 74, 1108, 1110, 41], [], [], [], [], [1087, 74, 1084, 1086, 37], [], [], [], [], [1075, 74, 1074, 1073], [], [], [], [], [1075, 74, 1074, 1073], [], [], [], [], [1075, 74, 1074, 1073], [], [], [], [], [1075, 74, 1074, 1073], [], [], [], [1079, 74, 1076, 1078, 35], [], [], [952], [], [], [], [], [], [], [1079, 74, 1076, 1078, 35], [], [], [], [], [], [952], [], [], [], [], [], [953], [], [], [], [], [954], [], [], [], [], [955], [], [], [], [], [956], [], [], [], [], [957], [], [], [], [], [952], [], [], [], [], [], [], [], [952], [], [], []] = true := by decide +kernel
set_option maxRecDepth 100000 in
theorem zk_X10_isCore : z_okm zP zTH zm_X10_isCore [] [[], [], [], [1075, 74, 1074, 1073], [], [], [], [], [1075, 74, 1074, 1073], [], [], [], [], [1075, 74, 1074, 1073], [], [], [], [], [1075, 74, 1074, 1073], [], [], [], [], []] = true := by decide +kernel
set_option maxRecDepth 100000 in
theorem zk_X10_setCore : z_okm zP zTH zm_X10_setCore [] [[], [948], [], [], [], [], [949], [], [], [], [], [950], [], [], [], [], [951], [], [], [], []] = true := by decide +kernel
set_option maxRecDepth 100000 in
theorem zk_X10_core : z_okm zP zTH zm_X10_core [] [[], [], [], [], [1099, 74, 1096, 1098, 39], [], [], [], [], [], [], [], [1118, 74, 1117, 1116], [], [], [], [1079, 74, 1076, 1078, 35], [], [], [], [1083, 74, 1080, 1082, 36], [], [], [], [], [], [], [], [], [1091, 74, 1088, 1090, 38], [], [], [], [], [1122, 74, 1119, 1121, 42], [], [941], []] = true := by decide +kernel
set_option maxRecDepth 100000 in
theorem zk_X10_change : z_okm zP zTH zm_X10_change [] [[], [], [], [], [1099, 74, 1096, 1098, 39], [], [], [], [], [], [1111, 74, 1108, 1110, 41], [], [], [], [], [1087, 74, 1084, 1086, 37], [], [], [], [], [], [1118, 74, 1117, 1116], [], [], [], [1079, 74, 1076, 1078, 35], [], [], [948], [], [], [], [], [], [], [], [], [], [1122, 74, 1119, 1121, 42], [], []] = true := by decide +kernel
set_option maxRecDepth 100000 in
theorem zk_X10_begin : z_okm zP zTH zm_X10_begin [] [[], [], [], [], [], [], [], [], [], [], [], [], [958], [], [], [], [], [], [], [959], [], [], [], [], [960], [], [], [], [], [961], [], [], [], []] = true := by decide +kernel
set_option maxRecDepth 100000 in
theorem zk_X10_cut : z_okm zP zTH zm_X10_cut [] [[], [], [], [946], [], [], [], [], [], [], []] = true := by decide +kernel
set_option maxRecDepth 100000 in
theorem zk_X10_modulo : z_okm zP zTH zm_X10_modulo [] [[], [], [], [], [], [], [], []] = true := by decide +kernel
set_option maxRecDepth 100000 in
theorem zk_X10_wordOf : z_okm zP zTH zm_X10_wordOf [] [[], [], [], [], [959], [], [], [], []] = true := by decide +kernel
set_option maxRecDepth 100000 in
theorem zk_X10_goes : z_okm zP zTH zm_X10_goes [] [[], [953], [], [], [], [], [], [958], [], [], [], [], [955], [], [], [], [], [], [], [], [], [], [], []] = true := by decide +kernel
set_option maxRecDepth 100000 in
theorem zk_X10_doWord : z_okm zP zTH zm_X10_doWord [] [[], [944], [], [], [], [], [], [], [1146, 74, 1143, 1145, 45], [], [], [958], [], [], [], [], [955], [], [], [], [], [], [], [958], [], [], [], [], [956], [], [], [], [], [], [], [959], [], [], [], [], [], [952], [], [], [], [], [], [], [], [1150, 74, 1147, 1149, 46], [], [], [], [957], [], [], [], [952], [], [], [1154, 74, 1151, 1153, 47], [], [], [], [], [], [], [], [], [947], [], [], [], [], [], [], [], [], [953], [], [], [], [], [958], [], [], [], [], [954], [], [], [], [], [], [], [957], [], [], [], [1158, 74, 1155, 1157, 48], [], [], [953], [], [], [], [], [], [958], [], [], [], [], [954], [], [], [], [], [], [], [], [], [1158, 74, 1155, 1157, 48], [], [], [953], [], [], [], [], [], [958], [], [], [], [], [954], [], [], [], [], [], [], [], [], [1158, 74, 1155, 1157, 48], [], [], [953], [], [], [], [], [], [958], [], [], [], [], [954], [], [], [], [], [], [], [], [], [953], [], [], [], [], [], [958], [], [], [], [], [954], [], [], [], [], [958], [], [], [], [], [953], [], [], [], [], [], [958], [], [], [], [], [961], [], [], [953], [], [], [], [], [], [], [], [], [], [959], [], [], [], [], [960], [], [], [], [], [], [], []] = true := by decide +kernel
set_option maxRecDepth 100000 in
theorem zk_X10_run : z_okm zP zTH zm_X10_run [] [[], [], [], [], [1099, 74, 1096, 1098, 39], [], [], [], [], [952], [], [], [], [], [], [], [1087, 74, 1084, 1086, 37], [], [], [], [1083, 74, 1080, 1082, 36], [], [], [], [], [], [], [], [], [1091, 74, 1088, 1090, 38], [1134, 74, 1131, 1133, 43], [], [941], []] = true := by decide +kernel
set_option maxRecDepth 100000 in
theorem zk_X10_step : z_okm zP zTH zm_X10_step [] [[], [], [], [], [1099, 74, 1096, 1098, 39], [], [], [], [], [], [], [1075, 74, 1074, 1073], [], [], [], [1079, 74, 1076, 1078, 35], [], [], [960], [], [], [], [], [961], [], [], [], [], [960], [], [], [], [], [], [], [], [], [], [944], [], [], [1142, 74, 1139, 1141, 44], [], [], [960], [], [], [], [], []] = true := by decide +kernel
end
section
/-! what is checked of the methods, by the kernel -/
set_option maxRecDepth 100000 in
theorem zk_X10_sim : z_okm zP zTH zm_X10_sim [] [[], [], [], [], [1099, 74, 1096, 1098, 39], [], [], [], [], [], [1099, 74, 1096, 1098, 39], [], [], [], [], [944], [], [], [], [944], [], [], [], [], [], [], [1087, 74, 1084, 1086, 37], [], [], [952], [], [], [], [], [], [], [1087, 74, 1084, 1086, 37], [], [], [], [1083, 74, 1080, 1082, 36], [], [], [], [], [], [], [], [1091, 74, 1088, 1090, 38], [], [], [], [1134, 74, 1131, 1133, 43], [], [], [], [], [1134, 74, 1131, 1133, 43], [], [962], [], [], [], [], [963], [], [], [], [], [967], [], [], [], [], [968], [], [], [], [], [], [], [], [], [], [965], [], [], [], [], [], [], [], [], [966], [], [], [], [], [], [], [], [], [], [], []] = true := by decide +kernel
set_option maxRecDepth 100000 in
theorem zk_X10_reads : z_okm zP zTH zm_X10_reads [] [[], [953], [], [], [], [], [], [953], [], [], [], [], [], [953], [], [], [], [], [], [953], [], [], [], [], [], [], [], [953], [], [], [], [], [], [953], [], [], [], [], [], [], [], []] = true := by decide +kernel
set_option maxRecDepth 100000 in
theorem zk_X10_writes : z_okm zP zTH zm_X10_writes [] [[], [953], [], [], [], [], [], [], [], []] = true := by decide +kernel
set_option maxRecDepth 100000 in
theorem zk_X10_readyAt : z_okm zP zTH zm_X10_readyAt [] [[], [], [], [], [], [], [], [965], [], [], [], [], [], [], [965], [], [], [], [966], [], [], [], [], [], []] = true := by decide +kernel
set_option maxRecDepth 100000 in
theorem zk_X10_enter : z_okm zP zTH zm_X10_enter [] [[], [], [], [], [], [945], [], [], [], [], [944], [], [], [], [], [], [], [1146, 74, 1143, 1145, 45], [], [], [], [], [1150, 74, 1147, 1149, 46], [], [], [963], [], [], [], [], [964], [], [], [], [], [960], [], [], [], [], [], [], [], [], [], [1182, 74, 1179, 1181, 52], [], [], [965], [], [], [], [], [954], [], [], [], [], [], [], [966], [], [], [], [], [954], [], [], [], [], [953], [], [], [], [], [], [950], [], [], [], [], [949], [], [], [], [], [], [], [1142, 74, 1139, 1141, 44], [], [961], [], [], [], [], [], [], [], [], [], [], [951], [], [], [], [], [], [], [], [], [], [], [], [1146, 74, 1143, 1145, 45], [], [], [], [1186, 74, 1183, 1185, 53], [], [], [], [], [955], [], [], [1190, 74, 1187, 1189, 54], [], [], [], [], [], [955], [], [], [1190, 74, 1187, 1189, 54], [], [], [], [1186, 74, 1183, 1185, 53], [], [], [], [], [], [956], [], [], [1190, 74, 1187, 1189, 54], [], [], [], [], [], [956], [], [], [1190, 74, 1187, 1189, 54], [], [], [963], [], [], [], []] = true := by decide +kernel
set_option maxRecDepth 100000 in
theorem zk_X10_lose : z_okm zP zTH zm_X10_lose [] [[], [963], [], [], [], [], [], [], [], [], [], [], [951], [], [944], [], [], [], [], [], [], [], [], [], [], [], [], [], [], [967], [], [], [], [], [], [], [], [968], [], [], [], [], [], [], [], [], []] = true := by decide +kernel
set_option maxRecDepth 100000 in
theorem zk_X10_enterAll : z_okm zP zTH zm_X10_enterAll [] [[], [], [], [], [], [961], [], [], [], [], [963], [], [], [], [], [], [960], [], [], [], [], [], [], [964], [], [], [], [], [960], [], [], [], [], [], [], [], [], [], [978], [], [], [1174, 74, 1171, 1173, 50], [], [], [], [], [], [945], [], [], [1146, 74, 1143, 1145, 45], [1150, 74, 1147, 1149, 46], [], [], [], [1178, 74, 1175, 1177, 51], [], [978], [], [], [], [], [], [], [963], [], [], [], [], [], [963], [], [], [], [], [1194, 74, 1191, 1193, 55], [], [], [], [], [1194, 74, 1191, 1193, 55], []] = true := by decide +kernel
set_option maxRecDepth 100000 in
theorem zk_X10_leaveAll : z_okm zP zTH zm_X10_leaveAll [] [[], [], [], [], [], [960], [], [], [], [960], [], [], [], [], [964], [], [], [], [], [960], [], [], [], [], [], [], [], [948], [], [944], [], [], [], [], [], [], [], [], [], [945], [], [], [1142, 74, 1139, 1141, 44], [], []] = true := by decide +kernel
set_option maxRecDepth 100000 in
theorem zk_X10_cycles : z_okm zP zTH zm_X10_cycles [] [[], [], [], [], [1099, 74, 1096, 1098, 39], [], [], [], [], [], [], [1075, 74, 1074, 1073], [], [], [], [1079, 74, 1076, 1078, 35], [], [], [962], [], [], [], [], [961], [], [], [], [], [], [], [], [], [], [], [1170, 74, 1167, 1169, 49], [], [961], [], [], [], [], [964], [], [], [], [], [960], [], [], [], [], [], [], [], [], [], [948], [], [944], [], [], [], [], [], [], [], [], [], [], [962], [], [], [], [], [], [], []] = true := by decide +kernel
set_option maxRecDepth 100000 in
theorem zk_X10_isRunning : z_okm zP zTH zm_X10_isRunning [] [[], [], [939], [], [], [1103, 74, 1100, 1102, 40], [], [], [], [], [942], [], [], [], [], [], [942], [], [], [], [], [], [], [], [], [], [], [], [], [], [1087, 74, 1084, 1086, 37], [], [], [], [], [], [], []] = true := by decide +kernel
set_option maxRecDepth 100000 in
theorem zk_X10_state : z_okm zP zTH zm_X10_state [] [[], [], [1202, 74, 1199, 1201, 56], [], [], [], [], [], [], [942], [], [], [], [], [], [], [], [1075, 74, 1074, 1073], [], [], [], [1079, 74, 1076, 1078, 35], [], [], [], [], [960], [], [], [], [], [961], [], [], [], [], [], [], [], [], [962], [], [], [], [], [960], [], [], [], [], [], [], [967], [], [], [], [], [968], [], [], []] = true := by decide +kernel
set_option maxRecDepth 100000 in
theorem zk_X10_programOf : z_okm zP zTH zm_X10_programOf [] [[], [942], [], [], [], [], [], [944], [], [], [], [], [945], [], [], []] = true := by decide +kernel
set_option maxRecDepth 100000 in
theorem zk_X10_number : z_okm zP zTH zm_X10_number [] [[], [], [1202, 74, 1199, 1201, 56], [], [], [], [], [], [], [], [947], [], [944], [], [], [1210, 74, 1207, 1209, 57], [], [], [], [1075, 74, 1074, 1073], [], [], [], [939], [], [], [], [958], [], [], [], [], [], [], []] = true := by decide +kernel
set_option maxRecDepth 100000 in
theorem zk_X10_agrees : z_okm zP zTH zm_X10_agrees [] [[], [], [], [], [1099, 74, 1096, 1098, 39], [], [], [], [], [], [1099, 74, 1096, 1098, 39], [], [], [], [], [961], [], [], [], [], [960], [], [], [], [960], [], [], [], [], [], [], [944], [], [], [1142, 74, 1139, 1141, 44], [], [], [944], [], [], [], [945], [], [], [], [], [960], [], [], [], [960], [], [], [], [], [], [], [], [], [], [], [], [], [], [], [], [958], [], [], [], [], [], [], [], [958], [], [], [], [], [], [], [], [], [], [], [], [], [], [], [], []] = true := by decide +kernel
set_option maxRecDepth 100000 in
theorem zk_X10_open : z_okm zP zTH zm_X10_open [] [[], [], [], [], [], [], [975], [], [], [973], [], [], [], [], [], [], [], [], [], []] = true := by decide +kernel
set_option maxRecDepth 100000 in
theorem zk_X10_chainOf : z_okm zP zTH zm_X10_chainOf [] [[1239], [], [], [], [], [], [], [], [1240], [], [], [975], [], [], [], [1241], [], [], [], [], [], [], []] = true := by decide +kernel
set_option maxRecDepth 100000 in
theorem zk_X10_isKept : z_okm zP zTH zm_X10_isKept [] [[], [976], [], [], [], [], [], [], [], [], [], [], [], [], [], [], [], [973], [], [], [], [], [], [], [], [975], [], [], [], [], [], [], [], [], [], [], [], [], [], [], [], [977], [], [], [], [], [], []] = true := by decide +kernel
set_option maxRecDepth 100000 in
theorem zk_X10_keep : z_okm zP zTH zm_X10_keep [] [[], [1238, 74, 1235, 1237, 61], [], [], [], [1245, 74, 1242, 1244, 62], [], [], [], [970], [], [], [], [], [], [], [], [], [973], [], [], [970], [], [], [], [], [975], [], [], [], [], [], [], [977], [], [970], [], [976], [], [], [], [], [976], [], [], [970], [], [], [], [970], [], [], [970], []] = true := by decide +kernel
set_option maxRecDepth 100000 in
theorem zk_X10_programAt : z_okm zP zTH zm_X10_programAt [] [[], [], [], [944], [], [], [], [], [945], [], [], []] = true := by decide +kernel
set_option maxRecDepth 100000 in
theorem zk_X10_seen : z_okm zP zTH zm_X10_seen [] [[], [], [], [], [], [], [], [975], [], [], [], [], [], [], [], [], [], [975], [], [], [], [], [], [975], [], [], [], [], [], [], [], [], [], [], [], [], [], [975], [], [], [], [], [], [], [], [], [], [], [], [], [], [], []] = true := by decide +kernel
end
section
/-! what is checked of the methods, by the kernel -/
set_option maxRecDepth 100000 in
theorem zk_X10_doOf : z_okm zP zTH zm_X10_doOf [] [[], [], [], [1261, 74, 1258, 1260, 66], [], [], [975], [], [], [], [952], [], [], [], [], [], [], [], [], [], [], [], [975], [], [], [], [], [], [], [944], [], [], [], [], [], [], [], [], [], [], [], [], [], [], [], [], [975], [], [], [955], [], [], [], [], [], [], [975], [], [], [956], [], [], [], [], [], [], [], [947], [], [], [], [], [], [], [], [953], [], [], [], [], [], [951], [], [], [], [], [], [975], [], [], [], [], [], [], [], [], [], [], [975], [], [], [], [], [], [], [], [], [], [], [], [975], [], [], [], [], [], [], [], [], [], [], [975], [], [], [], [], [], [], [], [], [953], [], [], [], [], [], [975], [], [], [], [], [], [], [953], [], [], [], [], [975], [], [], [954], [], [], [], [], [], [], [957], [], [], [], [1158, 74, 1155, 1157, 48], [], [], [953], [], [], [], [], [], [975], [], [], [954], [], [], [], [], [], [], [], [], [1158, 74, 1155, 1157, 48], [], [], [953], [], [], [], [], [], [975], [], [], [954], [], [], [], [], [], [], [], [], [1158, 74, 1155, 1157, 48], [], [], [953], [], [], [], [], [], [975], [], [], [954], [], [], [], [], [], [], [], [], [953], [], [], [], [], [], [975], [], [], [954], [], [], [], [], [], [], [1265, 74, 1262, 1264, 67], [], [], [975], [], [], [953], [], [], [], [], [], [952], [], [], [], [], [], [953], [], [], [], [], [], [], [], [], [], [], [957], [], [], [], [952], [], [], [1154, 74, 1151, 1153, 47], [], [], [], [975], [], [], [], [], [], [], []] = true := by decide +kernel
set_option maxRecDepth 100000 in
theorem zk_X10_letGo : z_okm zP zTH zm_X10_letGo [] [[], [], [], [], [], [], [], [975], [], [], [], [], [], [], [], [], [975], [], [], [975], [], [], [], [], [], [], [], [975], [], [], [], [], [], [], [975], [], [], [], [], [975], [], [], [], [], [], [], [975], [], [], [], [], [975], [], [], [], [], [], [], [975], [], [], [], [], [], [], [975], [], [], [], [], [], [], [975], [], [], [], [], [], [], [], [975], [], [], [], [], [], [], [975], [], [], [], [], [], [], [975], [], [], [], [], [], [], []] = true := by decide +kernel
set_option maxRecDepth 100000 in
theorem zk_X10_isEnd : z_okm zP zTH zm_X10_isEnd [] [[], [975], [], [], [], [952], [], [944], [], [], [], [], [], [], [], [975], [], [], [], [952], [], [945], [], [], [], [], [], [], [], [975], [], [], [], [], [], [], [975], [], [], [], [], [], [], [], [], []] = true := by decide +kernel
set_option maxRecDepth 100000 in
theorem zk_X10_isBefore : z_okm zP zTH zm_X10_isBefore [] [[], [], [], [], [], [], [973], [], [], [], [], [], [], [], [973], [], [], [], [], [], [], [], [], [], [973], [], [], [], [], [], [], [], [973], [], [], [], [], [], [], [], [], [], [], [], [], [], [], [], []] = true := by decide +kernel
set_option maxRecDepth 100000 in
theorem zk_X10_addEnd : z_okm zP zTH zm_X10_addEnd [] [[], [971], [], [], [], [], [], [], [974], [], [], [], [], [1281, 74, 1278, 1280, 71], [], [], [974], [], [], [974], [], [], [], [], [], [], [], [], [974], [], [], [], [], [], [971], [], [], [971], []] = true := by decide +kernel
set_option maxRecDepth 100000 in
theorem zk_X10_goFrom : z_okm zP zTH zm_X10_goFrom [] [[], [], [], [], [], [], [], [], [], [1253, 74, 1250, 1252, 64], [], [], [], [], [], [], [1257, 74, 1254, 1256, 65], [], [], [], [], [], [1269, 74, 1266, 1268, 68], [], [], [], [], [], [1234, 74, 1231, 1233, 60], [], [], [], [], [1253, 74, 1250, 1252, 64], [], [], [1273, 74, 1270, 1272, 69], [], [], [], [1277, 74, 1274, 1276, 70], [], [], [], [], [], [972], [], [], [972], []] = true := by decide +kernel
set_option maxRecDepth 100000 in
theorem zk_X10_lookThrough : z_okm zP zTH zm_X10_lookThrough [] [[], [969], [], [], [], [], [], [969], [], [], [970], [], [], [971], [], [], [972], [], [], [], [], [], [], [976], [], [], [], [], [], [], [], [], [], [], [], [975], [], [], [], [], [], [], [1234, 74, 1231, 1233, 60], [], [], [], [], [970], [], [], [970], [], [], [], [], [], [1249, 74, 1246, 1248, 63], [], [], []] = true := by decide +kernel
set_option maxRecDepth 100000 in
theorem zk_X10_pair : z_okm zP zTH zm_X10_pair [] [[], [], [], [], [1099, 74, 1096, 1098, 39], [], [], [], [], [], [1099, 74, 1096, 1098, 39], [], [], [], [], [944], [], [], [], [944], [], [], [], [], [], [], [1087, 74, 1084, 1086, 37], [], [], [952], [], [], [], [], [952], [], [], [], [], [], [], [1087, 74, 1084, 1086, 37], [], [], [], [], [1075, 74, 1074, 1073], [], [], [], [1079, 74, 1076, 1078, 35], [], [], [], [1083, 74, 1080, 1082, 36], [], [], [], [], [951], [], [], [], [], [1091, 74, 1088, 1090, 38], [], [], [], [941], []] = true := by decide +kernel
set_option maxRecDepth 100000 in
theorem zk_X10_isSmall : z_okm zP zTH zm_X10_isSmall [] [[], [], [1230, 74, 1227, 1229, 59], [], [970], [], [], [], [], [], [1087, 74, 1084, 1086, 37], [], [], [970], [], [], [], [], [], []] = true := by decide +kernel
set_option maxRecDepth 100000 in
theorem zk_X10_explore : z_okm zP zTH zm_X10_explore [] [[], [], [], [], [1099, 74, 1096, 1098, 39], [], [], [], [], [], [], [1075, 74, 1074, 1073], [], [], [], [1079, 74, 1076, 1078, 35], [], [], [], [1226, 74, 1223, 1225, 58], [], [], [], [], [], [], [970], [], [], [], [], [], [971], [], [], [972], []] = true := by decide +kernel
set_option maxRecDepth 100000 in
theorem zk_X10_end : z_okm zP zTH zm_X10_end [] [[], [], [], [], [1099, 74, 1096, 1098, 39], [], [], [], [], [], [], [], [], [947], [], [944], [], [944], [], [], [], [], [], [1075, 74, 1074, 1073], [], [], [], [], [939], [], [939], [], [], [], [1226, 74, 1223, 1225, 58], [], [], [], [], [], [], [], [971], [], [], [1075, 74, 1074, 1073], [], [], [], [], [939], [], [939], [], [], [973], [], [], [974], [], [], [], [], [], [], [], [], [], [], []] = true := by decide +kernel
set_option maxRecDepth 100000 in
theorem zk_X10_drop : z_okm zP zTH zm_X10_drop [] [[], [], [939], [], [], [1103, 74, 1100, 1102, 40], [], [], [], [], [1087, 74, 1084, 1086, 37], [], [], [], [1111, 74, 1108, 1110, 41], [], [], [], [], [1087, 74, 1084, 1086, 37], [], [], [943], [], [], [], [], [942], [], [], []] = true := by decide +kernel
set_option maxRecDepth 100000 in
theorem zk_X10_kind : z_okm zP zTH zm_X10_kind [] [[], [], [939], [], [], [1103, 74, 1100, 1102, 40], [], [], [942], [], [], [], [], []] = true := by decide +kernel
set_option maxRecDepth 100000 in
theorem zk_X10_rule : z_okm zP zTH zm_X10_rule [] [[], [], [939], [], [940], []] = true := by decide +kernel
set_option maxRecDepth 100000 in
theorem zk_X10_count : z_okm zP zTH zm_X10_count [] [[], [], [939], [], [], [], [1075, 74, 1074, 1073], [], [], [], [], [], [], [], [], [], [941], [], [], [], [943], [], [], [], [], [], [], [], [942], [], [], [], [], [], [], [], [], [], [], [], [], [], [], [], [], [941], [], [], []] = true := by decide +kernel
set_option maxRecDepth 100000 in
theorem zk_J9_floorMod_7cf53 : z_okm zP zTH zm_J9_floorMod_7cf53 [] [[], [], [], [], [], [], [], [], [], [], [], [], [], [], [], []] = true := by decide +kernel
set_option maxRecDepth 100000 in
theorem zk_J9_max_7cf53 : z_okm zP zTH zm_J9_max_7cf53 [] [[], [], [], [], [], [], []] = true := by decide +kernel
set_option maxRecDepth 100000 in
theorem zk_J7_fill_d0a16 : z_okm zP zTH zm_J7_fill_d0a16 [] [[], [], [], [], [], [], [], [], [], [], [], [], [], [], []] = true := by decide +kernel
set_option maxRecDepth 100000 in
theorem zk_J7_fill_53178 : z_okm zP zTH zm_J7_fill_53178 [] [[], [], [], [], [], [], [], [], [], [], [], [], [], [], []] = true := by decide +kernel
set_option maxRecDepth 100000 in
theorem zk_L_machine : z_okm zP zTH zm_L_machine [139, 140] [[], [], [], [], [], [144, 73, 141, 142, 143], [], [], [], [], [], [], [], [], [], [], []] = true := by decide +kernel
set_option maxRecDepth 100000 in
theorem zk_L_program : z_okm zP zTH zm_L_program [140] [[], [], [], [], [266, 73, 263, 264, 265], [], [], [], [], [], [], [], []] = true := by decide +kernel
set_option maxRecDepth 100000 in
theorem zk_L_word : z_okm zP zTH zm_L_word [140, 139, 306] [[], [], [], [], [], [], [], [], [], [310, 73, 307, 308, 309], [], [], [], [], [], [], [], [], [], [], [], [], [], []] = true := by decide +kernel
set_option maxRecDepth 100000 in
theorem zk_L_run : z_okm zP zTH zm_L_run [140] [[], [], [], [], [406, 73, 403, 404, 405], [], [], [], [], [], [], [], []] = true := by decide +kernel
set_option maxRecDepth 100000 in
theorem zk_L_step : z_okm zP zTH zm_L_step [140, 139] [[], [], [], [], [], [451, 73, 448, 449, 450], [], [], [], [], [], [], [], [], [], [], []] = true := by decide +kernel
set_option maxRecDepth 100000 in
theorem zk_L_core : z_okm zP zTH zm_L_core [140, 139] [[], [], [], [], [], [], [], [], [509, 73, 506, 507, 508], [], [], [], [], [], [], [], [], [], [], []] = true := by decide +kernel
end
section
/-! what is checked of the methods, by the kernel -/
set_option maxRecDepth 100000 in
theorem zk_L_change : z_okm zP zTH zm_L_change [140, 139] [[], [], [], [], [], [], [], [], [553, 73, 550, 551, 552], [], [], [], [], [], [], [], [], [], [], []] = true := by decide +kernel
set_option maxRecDepth 100000 in
theorem zk_L_sim : z_okm zP zTH zm_L_sim [140] [[], [], [], [], [], [565, 73, 562, 563, 564], [], [], [], [], [], [], [], []] = true := by decide +kernel
set_option maxRecDepth 100000 in
theorem zk_L_cycles : z_okm zP zTH zm_L_cycles [140, 139] [[], [], [], [], [], [618, 73, 615, 616, 617], [], [], [], [], [], [], [], [], [], [], []] = true := by decide +kernel
set_option maxRecDepth 100000 in
theorem zk_L_state : z_okm zP zTH zm_L_state [140, 139] [[], [], [], [], [], [662, 73, 659, 660, 661], [], [], [], [], [], [], [], [], [], [], []] = true := by decide +kernel
set_option maxRecDepth 100000 in
theorem zk_L_number : z_okm zP zTH zm_L_number [140, 139] [[], [], [], [], [], [679, 73, 676, 677, 678], [], [], [], [], [], [], [], [], [], []] = true := by decide +kernel
set_option maxRecDepth 100000 in
theorem zk_L_agrees : z_okm zP zTH zm_L_agrees [140] [[], [], [], [], [], [687, 73, 684, 685, 686], [], [], [], [], [], [], [], [], [], [], []] = true := by decide +kernel
set_option maxRecDepth 100000 in
theorem zk_L_pair : z_okm zP zTH zm_L_pair [140, 139] [[], [], [], [], [], [], [701, 73, 698, 699, 700], [], [], [], [], [], [], [], [], [], [], []] = true := by decide +kernel
set_option maxRecDepth 100000 in
theorem zk_L_explore : z_okm zP zTH zm_L_explore [140, 139] [[], [], [], [], [], [753, 73, 750, 751, 752], [], [], [], [], [], [], [], [], [], [], []] = true := by decide +kernel
set_option maxRecDepth 100000 in
theorem zk_L_end : z_okm zP zTH zm_L_end [140, 139, 903] [[], [], [], [], [], [], [907, 73, 904, 905, 906], [], [], [], [], [], [], [], [], [], [], [], [], []] = true := by decide +kernel
set_option maxRecDepth 100000 in
theorem zk_L_drop : z_okm zP zTH zm_L_drop [140] [[], [], [], [], [931, 73, 928, 929, 930], [], [], [], [], [], [], [], []] = true := by decide +kernel
set_option maxRecDepth 100000 in
theorem zk_L_law : z_okm zP zTH zm_L_law [] [[94, 95, 73], [], [98, 73, 97, 96], [], [932, 933, 74], [], [936, 74, 935, 934], [], [], [444], [], [], [], [], [], [], [], [], [], [], [], [], [], [], [], [], [], [], [], [], [], [], [], [], [], [], [], [138, 72, 137, 136], [], [], [], [], [], [], [], [], [], [], [], [], [1072, 74, 1069, 1070, 1071], [], [], [1068, 74, 1065, 1066, 1067], [], [], [], [], [], [], [], [], [], [], [], [], [], [], [], [], [], [], [], [], [], [], [], [262, 72, 261, 260], [], [], [], [], [], [], [], [1095, 74, 1092, 1093, 1094], [], [], [1068, 74, 1065, 1066, 1067], [], [], [], [], [], [], [], [], [], [], [], [], [], [], [], [], [], [], [], [], [], [], [], [], [], [], [], [], [], [], [], [], [], [], [], [], [], [], [], [], [], [], [], [], [], [], [], [], [305, 72, 304, 303], [], [], [], [], [], [], [], [], [], [], [], [], [], [], [], [], [], [], [], [], [], [], [], [], [], [], [], [], [], [], [], [], [1107, 74, 1104, 1105, 1106], [], [], [1068, 74, 1065, 1066, 1067], [], [], [], [], [], [], [], [], [], [], [], [], [], [], [], [], [], [], [], [], [], [], [], [402, 72, 401, 400], [], [], [], [], [], [], [], [1130, 74, 1127, 1128, 1129], [], [], [1068, 74, 1065, 1066, 1067], [], [], [], [], [], [], [], [], [], [], [], [], [], [], [], [], [], [], [], [], [], [], [], [], [], [], [], [], [447, 72, 446, 445], [], [], [], [], [], [], [], [], [], [], [], [], [1138, 74, 1135, 1136, 1137], [], [], [1068, 74, 1065, 1066, 1067], [], [], [], [], [], [], [], [], [], [], [], [], [], [], [], [], [], [], [], [], [], [], [], [], [], [], [], [], [], [], [], [], [], [], [], [], [], [], [], [], [], [], [], [505, 72, 504, 503], [], [], [], [], [], [], [], [], [], [], [], [], [], [], [], [], [], [], [], [], [], [], [], [], [], [], [], [1115, 74, 1112, 1113, 1114], [], [], [1068, 74, 1065, 1066, 1067], [], [], [], [], [], [], [], [], [], [], [], [], [], [], [], [], [], [], [], [], [], [], [], [], [], [], [], [], [], [], [], [], [], [], [], [], [], [], [], [], [], [], [], [549, 72, 548, 547], [], [], [], [], [], [], [], [], [], [], [], [], [], [], [], [], [], [], [], [], [], [], [], [], [], [], [], [1126, 74, 1123, 1124, 1125], [], [], [1068, 74, 1065, 1066, 1067], [], [], [], [], [], [], [], [], [], [], [], [], [], [], [], [], [], [], [], [], [], [], [], [], [], [], [], [], [561, 72, 560, 559], [], [], [], [], [], [], [], [], [], [], [], [], [1162, 74, 1159, 1160, 1161], [], [], [1068, 74, 1065, 1066, 1067], [], [], [], [], [], [], [], [], [], [], [], [], [], [], [], [], [], [], [], [], [], [], [], [], [], [], [], [], [614, 72, 613, 612], [], [], [], [], [], [], [], [], [], [], [], [], [1166, 74, 1163, 1164, 1165], [], [], [1068, 74, 1065, 1066, 1067], [], [], [], [], [], [], [], [], [], [], [], [], [], [], [], [], [], [], [], [], [], [], [], [], [], [], [], [], [658, 72, 657, 656], [], [], [], [], [], [], [], [], [], [], [], [], [1198, 74, 1195, 1196, 1197], [], [], [1068, 74, 1065, 1066, 1067], [], [], [], [], [], [], [], [], [], [], [], [], [], [], [], [], [], [], [], [], [], [], [], [], [], [], [], [], [675, 72, 674, 673], [], [], [], [], [], [], [], [], [], [], [], [], [1206, 74, 1203, 1204, 1205], [], [], [1068, 74, 1065, 1066, 1067], [], [], [], [], [], [], [], [], [], [], [], [], [], [], [], [], [], [], [], [], [], [], [], [], [], [], [], [683, 72, 682, 681], [], [], [], [], [], [], [], [], [], [], [], [], [1214, 74, 1211, 1212, 1213], [], [], [1068, 74, 1065, 1066, 1067], [], [], [], [], [], [], [], [], [], [], [], [], [], [], [], [], [], [], [], [], [], [], [], [], [], [], [], [], [], [], [], [], [], [], [], [], [697, 72, 696, 695], [], [], [], [], [], [], [], [], [], [], [], [], [], [], [], [], [], [1218, 74, 1215, 1216, 1217], [], [], [1068, 74, 1065, 1066, 1067], [], [], [], [], [], [], [], [], [], [], [], [], [], [], [], [], [], [], [], [], [], [], [], [], [], [], [], [], [749, 72, 748, 747], [], [], [], [], [], [], [], [], [], [], [], [], [1222, 74, 1219, 1220, 1221], [], [], [1068, 74, 1065, 1066, 1067], [], [], [], [], [], [], [], [], [], [], [], [], [], [], [], [], [], [], [], [], [], [], [], [], [], [], [], [], [], [], [], [], [], [902, 72, 901, 900], [], [], [], [], [], [], [], [], [], [], [], [], [], [], [], [], [], [1285, 74, 1282, 1283, 1284], [], [], [1068, 74, 1065, 1066, 1067], [], [], [], [], [], [], [], [], [], [], [], [], [], [], [], [], [], [], [], [], [], [], [927, 72, 926, 925], [], [], [], [], [], [], [], [1289, 74, 1286, 1287, 1288], [], [], [1068, 74, 1065, 1066, 1067], [], [], [], [], [], [], [], [], [], [], [], [], [], [], [], [], [], [], [], [], [], [], [120, 73, 117, 118, 119], [], [], [], [], [], [], [1293, 74, 1290, 1291, 1292], [], [], [], [], [131, 73, 128, 129, 130], [], [1297, 74, 1294, 1295, 1296], [], [], [], [], [], [], [], [], [], [135, 73, 132, 133, 134], [], [], [], [], [], [], [1301, 74, 1298, 1299, 1300], [], [], [], [], [], [], []] = true := by decide +kernel
end
section
/-! the whole program is checked -/
theorem zg_0 : ∀ M ∈ zP0, ∃ (ph : List Nat) (pe : List (List Nat)), z_okm zP zTH M ph pe = true := List.forall_mem_cons.mpr ⟨⟨_, _, zk_X0_init⟩, List.forall_mem_cons.mpr ⟨⟨_, _, zk_X0_uses⟩, List.forall_mem_cons.mpr ⟨⟨_, _, zk_X0_settle⟩, List.forall_mem_cons.mpr ⟨⟨_, _, zk_X1_init⟩, List.forall_mem_cons.mpr ⟨⟨_, _, zk_X1_goThrough⟩, List.forall_mem_cons.mpr ⟨⟨_, _, zk_X1_goOnFrom⟩, List.forall_mem_cons.mpr ⟨⟨_, _, zk_X1_tryWord⟩, List.forall_mem_cons.mpr ⟨⟨_, _, zk_X1_rowIsFull⟩, List.forall_mem_cons.mpr ⟨⟨_, _, zk_X1_perform⟩, List.forall_mem_cons.mpr ⟨⟨_, _, zk_X1_following⟩, List.forall_mem_cons.mpr ⟨⟨_, _, zk_X1_loaded⟩, List.forall_mem_cons.mpr ⟨⟨_, _, zk_X1_putInRow⟩, List.forall_mem_cons.mpr ⟨⟨_, _, zk_X1_tryStore⟩, List.forall_mem_cons.mpr ⟨⟨_, _, zk_X1_takeTrial⟩, List.forall_mem_cons.mpr ⟨⟨_, _, zk_X1_keepTrial⟩, List.forall_mem_cons.mpr ⟨⟨_, _, zk_X1_putTrial⟩, List.forall_mem_cons.mpr ⟨⟨_, _, zk_X1_mixed⟩, List.forall_mem_cons.mpr ⟨⟨_, _, zk_X1_isTrial⟩, List.forall_mem_cons.mpr ⟨⟨_, _, zk_X1_isEnd⟩, List.forall_mem_cons.mpr ⟨⟨_, _, zk_X1_insertEnd⟩, List.forall_mem_cons.mpr ⟨⟨_, _, zk_X1_endIsBefore⟩, List.forall_mem_cons.mpr ⟨⟨_, _, zk_X1_tell⟩, List.forall_mem_cons.mpr ⟨⟨_, _, zk_X2_init⟩, List.forall_mem_cons.mpr ⟨⟨_, _, zk_X2_uses⟩, List.forall_mem_cons.mpr ⟨⟨_, _, zk_X2_cut⟩, fun _ h => absurd h List.not_mem_nil⟩⟩⟩⟩⟩⟩⟩⟩⟩⟩⟩⟩⟩⟩⟩⟩⟩⟩⟩⟩⟩⟩⟩⟩⟩
theorem zg_1 : ∀ M ∈ zP1, ∃ (ph : List Nat) (pe : List (List Nat)), z_okm zP zTH M ph pe = true := List.forall_mem_cons.mpr ⟨⟨_, _, zk_X2_placeOf⟩, List.forall_mem_cons.mpr ⟨⟨_, _, zk_X3_init⟩, List.forall_mem_cons.mpr ⟨⟨_, _, zk_X3_uses⟩, List.forall_mem_cons.mpr ⟨⟨_, _, zk_X3_programOf⟩, List.forall_mem_cons.mpr ⟨⟨_, _, zk_X3_endWidth⟩, List.forall_mem_cons.mpr ⟨⟨_, _, zk_X4_init⟩, List.forall_mem_cons.mpr ⟨⟨_, _, zk_X4_uses⟩, List.forall_mem_cons.mpr ⟨⟨_, _, zk_X4_append⟩, List.forall_mem_cons.mpr ⟨⟨_, _, zk_X4_wordAt⟩, List.forall_mem_cons.mpr ⟨⟨_, _, zk_X4_targetOf⟩, List.forall_mem_cons.mpr ⟨⟨_, _, zk_X5_init⟩, List.forall_mem_cons.mpr ⟨⟨_, _, zk_X5_uses⟩, List.forall_mem_cons.mpr ⟨⟨_, _, zk_X5_nextWord⟩, List.forall_mem_cons.mpr ⟨⟨_, _, zk_X5_advance⟩, List.forall_mem_cons.mpr ⟨⟨_, _, zk_X5_perform⟩, List.forall_mem_cons.mpr ⟨⟨_, _, zk_X5_sameAs⟩, List.forall_mem_cons.mpr ⟨⟨_, _, zk_X5_sameNumbers⟩, List.forall_mem_cons.mpr ⟨⟨_, _, zk_X6_init⟩, List.forall_mem_cons.mpr ⟨⟨_, _, zk_X6_uses⟩, List.forall_mem_cons.mpr ⟨⟨_, _, zk_X6_tick⟩, List.forall_mem_cons.mpr ⟨⟨_, _, zk_X6_entryOf⟩, List.forall_mem_cons.mpr ⟨⟨_, _, zk_X6_enter⟩, List.forall_mem_cons.mpr ⟨⟨_, _, zk_X6_tally⟩, List.forall_mem_cons.mpr ⟨⟨_, _, zk_X7_init⟩, List.forall_mem_cons.mpr ⟨⟨_, _, zk_X8_init⟩, fun _ h => absurd h List.not_mem_nil⟩⟩⟩⟩⟩⟩⟩⟩⟩⟩⟩⟩⟩⟩⟩⟩⟩⟩⟩⟩⟩⟩⟩⟩⟩
theorem zg_2 : ∀ M ∈ zP2, ∃ (ph : List Nat) (pe : List (List Nat)), z_okm zP zTH M ph pe = true := List.forall_mem_cons.mpr ⟨⟨_, _, zk_X8_computes⟩, List.forall_mem_cons.mpr ⟨⟨_, _, zk_X8_writes⟩, List.forall_mem_cons.mpr ⟨⟨_, _, zk_X8_readsA⟩, List.forall_mem_cons.mpr ⟨⟨_, _, zk_X8_readsB⟩, List.forall_mem_cons.mpr ⟨⟨_, _, zk_X8_goes⟩, List.forall_mem_cons.mpr ⟨⟨_, _, zk_X8_result⟩, List.forall_mem_cons.mpr ⟨⟨_, _, zk_X9_init⟩, List.forall_mem_cons.mpr ⟨⟨_, _, zk_X9_machine⟩, List.forall_mem_cons.mpr ⟨⟨_, _, zk_X9_program⟩, List.forall_mem_cons.mpr ⟨⟨_, _, zk_X9_word⟩, List.forall_mem_cons.mpr ⟨⟨_, _, zk_X9_run⟩, List.forall_mem_cons.mpr ⟨⟨_, _, zk_X9_step⟩, List.forall_mem_cons.mpr ⟨⟨_, _, zk_X9_core⟩, List.forall_mem_cons.mpr ⟨⟨_, _, zk_X9_change⟩, List.forall_mem_cons.mpr ⟨⟨_, _, zk_X9_sim⟩, List.forall_mem_cons.mpr ⟨⟨_, _, zk_X9_cycles⟩, List.forall_mem_cons.mpr ⟨⟨_, _, zk_X9_state⟩, List.forall_mem_cons.mpr ⟨⟨_, _, zk_X9_number⟩, List.forall_mem_cons.mpr ⟨⟨_, _, zk_X9_agrees⟩, List.forall_mem_cons.mpr ⟨⟨_, _, zk_X9_pair⟩, List.forall_mem_cons.mpr ⟨⟨_, _, zk_X9_explore⟩, List.forall_mem_cons.mpr ⟨⟨_, _, zk_X9_end⟩, List.forall_mem_cons.mpr ⟨⟨_, _, zk_X9_drop⟩, List.forall_mem_cons.mpr ⟨⟨_, _, zk_X9_kind⟩, List.forall_mem_cons.mpr ⟨⟨_, _, zk_X9_rule⟩, fun _ h => absurd h List.not_mem_nil⟩⟩⟩⟩⟩⟩⟩⟩⟩⟩⟩⟩⟩⟩⟩⟩⟩⟩⟩⟩⟩⟩⟩⟩⟩
theorem zg_3 : ∀ M ∈ zP3, ∃ (ph : List Nat) (pe : List (List Nat)), z_okm zP zTH M ph pe = true := List.forall_mem_cons.mpr ⟨⟨_, _, zk_X9_count⟩, List.forall_mem_cons.mpr ⟨⟨_, _, zk_X9_outside⟩, List.forall_mem_cons.mpr ⟨⟨_, _, zk_X9_noRegister⟩, List.forall_mem_cons.mpr ⟨⟨_, _, zk_X9_noCore⟩, List.forall_mem_cons.mpr ⟨⟨_, _, zk_X9_admit⟩, List.forall_mem_cons.mpr ⟨⟨_, _, zk_X9_refuse⟩, List.forall_mem_cons.mpr ⟨⟨_, _, zk_X9_refuseIfUsed⟩, List.forall_mem_cons.mpr ⟨⟨_, _, zk_X9_refuseIfApart⟩, List.forall_mem_cons.mpr ⟨⟨_, _, zk_X9_refuseIfEmpty⟩, List.forall_mem_cons.mpr ⟨⟨_, _, zk_X9_refuseIfTooLarge⟩, List.forall_mem_cons.mpr ⟨⟨_, _, zk_X9_thingAt⟩, List.forall_mem_cons.mpr ⟨⟨_, _, zk_X9_livingAt⟩, List.forall_mem_cons.mpr ⟨⟨_, _, zk_X9_machineAt⟩, List.forall_mem_cons.mpr ⟨⟨_, _, zk_X9_programAt⟩, List.forall_mem_cons.mpr ⟨⟨_, _, zk_X9_runAt⟩, List.forall_mem_cons.mpr ⟨⟨_, _, zk_X9_coreAt⟩, List.forall_mem_cons.mpr ⟨⟨_, _, zk_X9_simAt⟩, List.forall_mem_cons.mpr ⟨⟨_, _, zk_X9_pairAt⟩, List.forall_mem_cons.mpr ⟨⟨_, _, zk_X9_shownAt⟩, List.forall_mem_cons.mpr ⟨⟨_, _, zk_X10_init⟩, List.forall_mem_cons.mpr ⟨⟨_, _, zk_X10_thrown⟩, List.forall_mem_cons.mpr ⟨⟨_, _, zk_X10_fail⟩, List.forall_mem_cons.mpr ⟨⟨_, _, zk_X10_within⟩, List.forall_mem_cons.mpr ⟨⟨_, _, zk_X10_refuse⟩, List.forall_mem_cons.mpr ⟨⟨_, _, zk_X10_isThere⟩, fun _ h => absurd h List.not_mem_nil⟩⟩⟩⟩⟩⟩⟩⟩⟩⟩⟩⟩⟩⟩⟩⟩⟩⟩⟩⟩⟩⟩⟩⟩⟩
theorem zg_4 : ∀ M ∈ zP4, ∃ (ph : List Nat) (pe : List (List Nat)), z_okm zP zTH M ph pe = true := List.forall_mem_cons.mpr ⟨⟨_, _, zk_X10_isOf⟩, List.forall_mem_cons.mpr ⟨⟨_, _, zk_X10_isUsed⟩, List.forall_mem_cons.mpr ⟨⟨_, _, zk_X10_add⟩, List.forall_mem_cons.mpr ⟨⟨_, _, zk_X10_isFull⟩, List.forall_mem_cons.mpr ⟨⟨_, _, zk_X10_machine⟩, List.forall_mem_cons.mpr ⟨⟨_, _, zk_X10_program⟩, List.forall_mem_cons.mpr ⟨⟨_, _, zk_X10_word⟩, List.forall_mem_cons.mpr ⟨⟨_, _, zk_X10_isCore⟩, List.forall_mem_cons.mpr ⟨⟨_, _, zk_X10_setCore⟩, List.forall_mem_cons.mpr ⟨⟨_, _, zk_X10_core⟩, List.forall_mem_cons.mpr ⟨⟨_, _, zk_X10_change⟩, List.forall_mem_cons.mpr ⟨⟨_, _, zk_X10_begin⟩, List.forall_mem_cons.mpr ⟨⟨_, _, zk_X10_cut⟩, List.forall_mem_cons.mpr ⟨⟨_, _, zk_X10_modulo⟩, List.forall_mem_cons.mpr ⟨⟨_, _, zk_X10_wordOf⟩, List.forall_mem_cons.mpr ⟨⟨_, _, zk_X10_goes⟩, List.forall_mem_cons.mpr ⟨⟨_, _, zk_X10_doWord⟩, List.forall_mem_cons.mpr ⟨⟨_, _, zk_X10_run⟩, List.forall_mem_cons.mpr ⟨⟨_, _, zk_X10_step⟩, List.forall_mem_cons.mpr ⟨⟨_, _, zk_X10_sim⟩, List.forall_mem_cons.mpr ⟨⟨_, _, zk_X10_reads⟩, List.forall_mem_cons.mpr ⟨⟨_, _, zk_X10_writes⟩, List.forall_mem_cons.mpr ⟨⟨_, _, zk_X10_readyAt⟩, List.forall_mem_cons.mpr ⟨⟨_, _, zk_X10_enter⟩, List.forall_mem_cons.mpr ⟨⟨_, _, zk_X10_lose⟩, fun _ h => absurd h List.not_mem_nil⟩⟩⟩⟩⟩⟩⟩⟩⟩⟩⟩⟩⟩⟩⟩⟩⟩⟩⟩⟩⟩⟩⟩⟩⟩
theorem zg_5 : ∀ M ∈ zP5, ∃ (ph : List Nat) (pe : List (List Nat)), z_okm zP zTH M ph pe = true := List.forall_mem_cons.mpr ⟨⟨_, _, zk_X10_enterAll⟩, List.forall_mem_cons.mpr ⟨⟨_, _, zk_X10_leaveAll⟩, List.forall_mem_cons.mpr ⟨⟨_, _, zk_X10_cycles⟩, List.forall_mem_cons.mpr ⟨⟨_, _, zk_X10_isRunning⟩, List.forall_mem_cons.mpr ⟨⟨_, _, zk_X10_state⟩, List.forall_mem_cons.mpr ⟨⟨_, _, zk_X10_programOf⟩, List.forall_mem_cons.mpr ⟨⟨_, _, zk_X10_number⟩, List.forall_mem_cons.mpr ⟨⟨_, _, zk_X10_agrees⟩, List.forall_mem_cons.mpr ⟨⟨_, _, zk_X10_open⟩, List.forall_mem_cons.mpr ⟨⟨_, _, zk_X10_chainOf⟩, List.forall_mem_cons.mpr ⟨⟨_, _, zk_X10_isKept⟩, List.forall_mem_cons.mpr ⟨⟨_, _, zk_X10_keep⟩, List.forall_mem_cons.mpr ⟨⟨_, _, zk_X10_programAt⟩, List.forall_mem_cons.mpr ⟨⟨_, _, zk_X10_seen⟩, List.forall_mem_cons.mpr ⟨⟨_, _, zk_X10_doOf⟩, List.forall_mem_cons.mpr ⟨⟨_, _, zk_X10_letGo⟩, List.forall_mem_cons.mpr ⟨⟨_, _, zk_X10_isEnd⟩, List.forall_mem_cons.mpr ⟨⟨_, _, zk_X10_isBefore⟩, List.forall_mem_cons.mpr ⟨⟨_, _, zk_X10_addEnd⟩, List.forall_mem_cons.mpr ⟨⟨_, _, zk_X10_goFrom⟩, List.forall_mem_cons.mpr ⟨⟨_, _, zk_X10_lookThrough⟩, List.forall_mem_cons.mpr ⟨⟨_, _, zk_X10_pair⟩, List.forall_mem_cons.mpr ⟨⟨_, _, zk_X10_isSmall⟩, List.forall_mem_cons.mpr ⟨⟨_, _, zk_X10_explore⟩, List.forall_mem_cons.mpr ⟨⟨_, _, zk_X10_end⟩, fun _ h => absurd h List.not_mem_nil⟩⟩⟩⟩⟩⟩⟩⟩⟩⟩⟩⟩⟩⟩⟩⟩⟩⟩⟩⟩⟩⟩⟩⟩⟩
theorem zg_6 : ∀ M ∈ zP6, ∃ (ph : List Nat) (pe : List (List Nat)), z_okm zP zTH M ph pe = true := List.forall_mem_cons.mpr ⟨⟨_, _, zk_X10_drop⟩, List.forall_mem_cons.mpr ⟨⟨_, _, zk_X10_kind⟩, List.forall_mem_cons.mpr ⟨⟨_, _, zk_X10_rule⟩, List.forall_mem_cons.mpr ⟨⟨_, _, zk_X10_count⟩, List.forall_mem_cons.mpr ⟨⟨_, _, zk_J9_floorMod_7cf53⟩, List.forall_mem_cons.mpr ⟨⟨_, _, zk_J9_max_7cf53⟩, List.forall_mem_cons.mpr ⟨⟨_, _, zk_J7_fill_d0a16⟩, List.forall_mem_cons.mpr ⟨⟨_, _, zk_J7_fill_53178⟩, List.forall_mem_cons.mpr ⟨⟨_, _, zk_L_machine⟩, List.forall_mem_cons.mpr ⟨⟨_, _, zk_L_program⟩, List.forall_mem_cons.mpr ⟨⟨_, _, zk_L_word⟩, List.forall_mem_cons.mpr ⟨⟨_, _, zk_L_run⟩, List.forall_mem_cons.mpr ⟨⟨_, _, zk_L_step⟩, List.forall_mem_cons.mpr ⟨⟨_, _, zk_L_core⟩, List.forall_mem_cons.mpr ⟨⟨_, _, zk_L_change⟩, List.forall_mem_cons.mpr ⟨⟨_, _, zk_L_sim⟩, List.forall_mem_cons.mpr ⟨⟨_, _, zk_L_cycles⟩, List.forall_mem_cons.mpr ⟨⟨_, _, zk_L_state⟩, List.forall_mem_cons.mpr ⟨⟨_, _, zk_L_number⟩, List.forall_mem_cons.mpr ⟨⟨_, _, zk_L_agrees⟩, List.forall_mem_cons.mpr ⟨⟨_, _, zk_L_pair⟩, List.forall_mem_cons.mpr ⟨⟨_, _, zk_L_explore⟩, List.forall_mem_cons.mpr ⟨⟨_, _, zk_L_end⟩, List.forall_mem_cons.mpr ⟨⟨_, _, zk_L_drop⟩, List.forall_mem_cons.mpr ⟨⟨_, _, zk_L_law⟩, fun _ h => absurd h List.not_mem_nil⟩⟩⟩⟩⟩⟩⟩⟩⟩⟩⟩⟩⟩⟩⟩⟩⟩⟩⟩⟩⟩⟩⟩⟩⟩
theorem zg_all : ∀ M ∈ zP, ∃ (ph : List Nat) (pe : List (List Nat)), z_okm zP zTH M ph pe = true := List.forall_mem_append.mpr ⟨zg_0, List.forall_mem_append.mpr ⟨zg_1, List.forall_mem_append.mpr ⟨zg_2, List.forall_mem_append.mpr ⟨zg_3, List.forall_mem_append.mpr ⟨zg_4, List.forall_mem_append.mpr ⟨zg_5, zg_6⟩⟩⟩⟩⟩⟩
theorem z_ok : z_OK zP zTH := fun _ M h => zg_all M (List.mem_of_getElem? h)
end
