section
-- ===== PART A: goes FIRST, ahead of the names: the tables' words, and 'selects' of the private methods out of them =====
/-- a private method of a class that the tables say can be made, by its rows of tables_1 -/
def lw_okq (q : MethodName × Nat) : Prop := (q.1.cls ≠ "java/lang/invoke/MethodHandle" ∧ q.1.cls ≠ "java/lang/invoke/VarHandle") ∧ Cond.instantiable q.1.cls q.2 ∈ tables_1 ∧ Cond.privateMethod q.1 ∈ tables_1 ∧ Cond.instanceMethod q.1 ∈ tables_1
theorem lw_p0 : lw_okq (⟨"ProcessorHouse", "thingAt", "(I)LProcessorHouse$Thing;"⟩, 4) := ⟨⟨by decide +kernel, by decide +kernel⟩, List.mem_of_getElem? (i := 23) (by decide +kernel), List.mem_of_getElem? (i := 50) (by decide +kernel), List.mem_of_getElem? (i := 51) (by decide +kernel)⟩
theorem lw_p1 : lw_okq (⟨"java/lang/Throwable", "fillInStackTrace", "(I)Ljava/lang/Throwable;"⟩, 6) := ⟨⟨by decide +kernel, by decide +kernel⟩, List.mem_of_getElem? (i := 113) (by decide +kernel), List.mem_of_getElem? (i := 111) (by decide +kernel), List.mem_of_getElem? (i := 112) (by decide +kernel)⟩
theorem lw_p2 : lw_okq (⟨"ProcessorHouse", "admit", "(LProcessorHouse$Thing;)I"⟩, 4) := ⟨⟨by decide +kernel, by decide +kernel⟩, List.mem_of_getElem? (i := 23) (by decide +kernel), List.mem_of_getElem? (i := 165) (by decide +kernel), List.mem_of_getElem? (i := 166) (by decide +kernel)⟩
theorem lw_p3 : lw_okq (⟨"ProcessorHouse", "refuse", "(I)V"⟩, 4) := ⟨⟨by decide +kernel, by decide +kernel⟩, List.mem_of_getElem? (i := 23) (by decide +kernel), List.mem_of_getElem? (i := 169) (by decide +kernel), List.mem_of_getElem? (i := 170) (by decide +kernel)⟩
theorem lw_p4 : lw_okq (⟨"ProcessorHouse", "machineAt", "(I)LProcessorHouse$Machine;"⟩, 4) := ⟨⟨by decide +kernel, by decide +kernel⟩, List.mem_of_getElem? (i := 23) (by decide +kernel), List.mem_of_getElem? (i := 198) (by decide +kernel), List.mem_of_getElem? (i := 199) (by decide +kernel)⟩
theorem lw_p5 : lw_okq (⟨"ProcessorHouse", "livingAt", "(I)LProcessorHouse$Thing;"⟩, 4) := ⟨⟨by decide +kernel, by decide +kernel⟩, List.mem_of_getElem? (i := 23) (by decide +kernel), List.mem_of_getElem? (i := 202) (by decide +kernel), List.mem_of_getElem? (i := 203) (by decide +kernel)⟩
theorem lw_p6 : lw_okq (⟨"ProcessorHouse", "programAt", "(I)LProcessorHouse$Program;"⟩, 4) := ⟨⟨by decide +kernel, by decide +kernel⟩, List.mem_of_getElem? (i := 23) (by decide +kernel), List.mem_of_getElem? (i := 240) (by decide +kernel), List.mem_of_getElem? (i := 241) (by decide +kernel)⟩
theorem lw_p7 : lw_okq (⟨"ProcessorHouse", "refuseIfUsed", "(LProcessorHouse$Thing;)V"⟩, 4) := ⟨⟨by decide +kernel, by decide +kernel⟩, List.mem_of_getElem? (i := 23) (by decide +kernel), List.mem_of_getElem? (i := 245) (by decide +kernel), List.mem_of_getElem? (i := 246) (by decide +kernel)⟩
theorem lw_p8 : lw_okq (⟨"ProcessorHouse", "refuseIfEmpty", "(LProcessorHouse$Program;)V"⟩, 4) := ⟨⟨by decide +kernel, by decide +kernel⟩, List.mem_of_getElem? (i := 23) (by decide +kernel), List.mem_of_getElem? (i := 336) (by decide +kernel), List.mem_of_getElem? (i := 337) (by decide +kernel)⟩
theorem lw_p9 : lw_okq (⟨"ProcessorHouse", "runAt", "(I)LProcessorHouse$Run;"⟩, 4) := ⟨⟨by decide +kernel, by decide +kernel⟩, List.mem_of_getElem? (i := 23) (by decide +kernel), List.mem_of_getElem? (i := 381) (by decide +kernel), List.mem_of_getElem? (i := 382) (by decide +kernel)⟩
theorem lw_p10 : lw_okq (⟨"ProcessorHouse$Run", "perform", "(LProcessorHouse$Word;JJ)V"⟩, 7) := ⟨⟨by decide +kernel, by decide +kernel⟩, List.mem_of_getElem? (i := 340) (by decide +kernel), List.mem_of_getElem? (i := 400) (by decide +kernel), List.mem_of_getElem? (i := 401) (by decide +kernel)⟩
theorem lw_p11 : lw_okq (⟨"ProcessorHouse", "coreAt", "(I)LProcessorHouse$Core;"⟩, 4) := ⟨⟨by decide +kernel, by decide +kernel⟩, List.mem_of_getElem? (i := 23) (by decide +kernel), List.mem_of_getElem? (i := 483) (by decide +kernel), List.mem_of_getElem? (i := 484) (by decide +kernel)⟩
theorem lw_p12 : lw_okq (⟨"ProcessorHouse", "refuseIfApart", "(LProcessorHouse$Machine;LProcessorHouse$Machine;)V"⟩, 4) := ⟨⟨by decide +kernel, by decide +kernel⟩, List.mem_of_getElem? (i := 23) (by decide +kernel), List.mem_of_getElem? (i := 495) (by decide +kernel), List.mem_of_getElem? (i := 496) (by decide +kernel)⟩
theorem lw_p13 : lw_okq (⟨"ProcessorHouse", "simAt", "(I)LProcessorHouse$Sim;"⟩, 4) := ⟨⟨by decide +kernel, by decide +kernel⟩, List.mem_of_getElem? (i := 23) (by decide +kernel), List.mem_of_getElem? (i := 548) (by decide +kernel), List.mem_of_getElem? (i := 549) (by decide +kernel)⟩
theorem lw_p14 : lw_okq (⟨"ProcessorHouse$Sim", "entryOf", "(LProcessorHouse$Word;)I"⟩, 11) := ⟨⟨by decide +kernel, by decide +kernel⟩, List.mem_of_getElem? (i := 499) (by decide +kernel), List.mem_of_getElem? (i := 559) (by decide +kernel), List.mem_of_getElem? (i := 560) (by decide +kernel)⟩
theorem lw_p15 : lw_okq (⟨"ProcessorHouse$Sim", "enter", "(LProcessorHouse$Word;)V"⟩, 11) := ⟨⟨by decide +kernel, by decide +kernel⟩, List.mem_of_getElem? (i := 499) (by decide +kernel), List.mem_of_getElem? (i := 575) (by decide +kernel), List.mem_of_getElem? (i := 576) (by decide +kernel)⟩
def lw_privs_1 : List (MethodName × Nat) := [(⟨"ProcessorHouse", "thingAt", "(I)LProcessorHouse$Thing;"⟩, 4), (⟨"java/lang/Throwable", "fillInStackTrace", "(I)Ljava/lang/Throwable;"⟩, 6), (⟨"ProcessorHouse", "admit", "(LProcessorHouse$Thing;)I"⟩, 4), (⟨"ProcessorHouse", "refuse", "(I)V"⟩, 4), (⟨"ProcessorHouse", "machineAt", "(I)LProcessorHouse$Machine;"⟩, 4), (⟨"ProcessorHouse", "livingAt", "(I)LProcessorHouse$Thing;"⟩, 4), (⟨"ProcessorHouse", "programAt", "(I)LProcessorHouse$Program;"⟩, 4), (⟨"ProcessorHouse", "refuseIfUsed", "(LProcessorHouse$Thing;)V"⟩, 4), (⟨"ProcessorHouse", "refuseIfEmpty", "(LProcessorHouse$Program;)V"⟩, 4), (⟨"ProcessorHouse", "runAt", "(I)LProcessorHouse$Run;"⟩, 4), (⟨"ProcessorHouse$Run", "perform", "(LProcessorHouse$Word;JJ)V"⟩, 7), (⟨"ProcessorHouse", "coreAt", "(I)LProcessorHouse$Core;"⟩, 4), (⟨"ProcessorHouse", "refuseIfApart", "(LProcessorHouse$Machine;LProcessorHouse$Machine;)V"⟩, 4), (⟨"ProcessorHouse", "simAt", "(I)LProcessorHouse$Sim;"⟩, 4), (⟨"ProcessorHouse$Sim", "entryOf", "(LProcessorHouse$Word;)I"⟩, 11), (⟨"ProcessorHouse$Sim", "enter", "(LProcessorHouse$Word;)V"⟩, 11)]
theorem lw_r1 : ∀ q ∈ lw_privs_1, lw_okq q := List.forall_mem_cons.mpr ⟨lw_p0, List.forall_mem_cons.mpr ⟨lw_p1, List.forall_mem_cons.mpr ⟨lw_p2, List.forall_mem_cons.mpr ⟨lw_p3, List.forall_mem_cons.mpr ⟨lw_p4, List.forall_mem_cons.mpr ⟨lw_p5, List.forall_mem_cons.mpr ⟨lw_p6, List.forall_mem_cons.mpr ⟨lw_p7, List.forall_mem_cons.mpr ⟨lw_p8, List.forall_mem_cons.mpr ⟨lw_p9, List.forall_mem_cons.mpr ⟨lw_p10, List.forall_mem_cons.mpr ⟨lw_p11, List.forall_mem_cons.mpr ⟨lw_p12, List.forall_mem_cons.mpr ⟨lw_p13, List.forall_mem_cons.mpr ⟨lw_p14, List.forall_mem_cons.mpr ⟨lw_p15, fun _ h => absurd h List.not_mem_nil⟩⟩⟩⟩⟩⟩⟩⟩⟩⟩⟩⟩⟩⟩⟩⟩
theorem lw_p16 : lw_okq (⟨"ProcessorHouse", "shownAt", "(I)LProcessorHouse$Run;"⟩, 4) := ⟨⟨by decide +kernel, by decide +kernel⟩, List.mem_of_getElem? (i := 23) (by decide +kernel), List.mem_of_getElem? (i := 592) (by decide +kernel), List.mem_of_getElem? (i := 593) (by decide +kernel)⟩
theorem lw_p17 : lw_okq (⟨"ProcessorHouse", "pairAt", "(I)LProcessorHouse$Pair;"⟩, 4) := ⟨⟨by decide +kernel, by decide +kernel⟩, List.mem_of_getElem? (i := 23) (by decide +kernel), List.mem_of_getElem? (i := 683) (by decide +kernel), List.mem_of_getElem? (i := 684) (by decide +kernel)⟩
theorem lw_p18 : lw_okq (⟨"ProcessorHouse", "refuseIfTooLarge", "(LProcessorHouse$Pair;)V"⟩, 4) := ⟨⟨by decide +kernel, by decide +kernel⟩, List.mem_of_getElem? (i := 23) (by decide +kernel), List.mem_of_getElem? (i := 688) (by decide +kernel), List.mem_of_getElem? (i := 689) (by decide +kernel)⟩
theorem lw_p19 : lw_okq (⟨"ProcessorHouse$Explorer", "keepTrial", "()V"⟩, 10) := ⟨⟨by decide +kernel, by decide +kernel⟩, List.mem_of_getElem? (i := 692) (by decide +kernel), List.mem_of_getElem? (i := 740) (by decide +kernel), List.mem_of_getElem? (i := 741) (by decide +kernel)⟩
theorem lw_p20 : lw_okq (⟨"ProcessorHouse$Explorer", "mixed", "()I"⟩, 10) := ⟨⟨by decide +kernel, by decide +kernel⟩, List.mem_of_getElem? (i := 692) (by decide +kernel), List.mem_of_getElem? (i := 744) (by decide +kernel), List.mem_of_getElem? (i := 745) (by decide +kernel)⟩
theorem lw_p21 : lw_okq (⟨"ProcessorHouse$Explorer", "putTrial", "(I)V"⟩, 10) := ⟨⟨by decide +kernel, by decide +kernel⟩, List.mem_of_getElem? (i := 692) (by decide +kernel), List.mem_of_getElem? (i := 749) (by decide +kernel), List.mem_of_getElem? (i := 750) (by decide +kernel)⟩
theorem lw_p22 : lw_okq (⟨"ProcessorHouse$Explorer", "isTrial", "(I)Z"⟩, 10) := ⟨⟨by decide +kernel, by decide +kernel⟩, List.mem_of_getElem? (i := 692) (by decide +kernel), List.mem_of_getElem? (i := 756) (by decide +kernel), List.mem_of_getElem? (i := 757) (by decide +kernel)⟩
theorem lw_p23 : lw_okq (⟨"ProcessorHouse$Explorer", "goOnFrom", "(I)V"⟩, 10) := ⟨⟨by decide +kernel, by decide +kernel⟩, List.mem_of_getElem? (i := 692) (by decide +kernel), List.mem_of_getElem? (i := 760) (by decide +kernel), List.mem_of_getElem? (i := 761) (by decide +kernel)⟩
theorem lw_p24 : lw_okq (⟨"ProcessorHouse$Explorer", "tryWord", "(II)Z"⟩, 10) := ⟨⟨by decide +kernel, by decide +kernel⟩, List.mem_of_getElem? (i := 692) (by decide +kernel), List.mem_of_getElem? (i := 764) (by decide +kernel), List.mem_of_getElem? (i := 765) (by decide +kernel)⟩
theorem lw_p25 : lw_okq (⟨"ProcessorHouse$Explorer", "takeTrial", "(I)V"⟩, 10) := ⟨⟨by decide +kernel, by decide +kernel⟩, List.mem_of_getElem? (i := 692) (by decide +kernel), List.mem_of_getElem? (i := 768) (by decide +kernel), List.mem_of_getElem? (i := 769) (by decide +kernel)⟩
theorem lw_p26 : lw_okq (⟨"ProcessorHouse$Explorer", "rowIsFull", "(I)Z"⟩, 10) := ⟨⟨by decide +kernel, by decide +kernel⟩, List.mem_of_getElem? (i := 692) (by decide +kernel), List.mem_of_getElem? (i := 777) (by decide +kernel), List.mem_of_getElem? (i := 778) (by decide +kernel)⟩
theorem lw_p27 : lw_okq (⟨"ProcessorHouse$Explorer", "perform", "(LProcessorHouse$Word;IJJ)V"⟩, 10) := ⟨⟨by decide +kernel, by decide +kernel⟩, List.mem_of_getElem? (i := 692) (by decide +kernel), List.mem_of_getElem? (i := 782) (by decide +kernel), List.mem_of_getElem? (i := 783) (by decide +kernel)⟩
theorem lw_p28 : lw_okq (⟨"ProcessorHouse$Explorer", "loaded", "(II)J"⟩, 10) := ⟨⟨by decide +kernel, by decide +kernel⟩, List.mem_of_getElem? (i := 692) (by decide +kernel), List.mem_of_getElem? (i := 790) (by decide +kernel), List.mem_of_getElem? (i := 791) (by decide +kernel)⟩
theorem lw_p29 : lw_okq (⟨"ProcessorHouse$Explorer", "putInRow", "(IIJ)V"⟩, 10) := ⟨⟨by decide +kernel, by decide +kernel⟩, List.mem_of_getElem? (i := 692) (by decide +kernel), List.mem_of_getElem? (i := 794) (by decide +kernel), List.mem_of_getElem? (i := 795) (by decide +kernel)⟩
theorem lw_p30 : lw_okq (⟨"ProcessorHouse$Explorer", "tryStore", "(II)Z"⟩, 10) := ⟨⟨by decide +kernel, by decide +kernel⟩, List.mem_of_getElem? (i := 692) (by decide +kernel), List.mem_of_getElem? (i := 803) (by decide +kernel), List.mem_of_getElem? (i := 804) (by decide +kernel)⟩
theorem lw_p31 : lw_okq (⟨"ProcessorHouse$Explorer", "isEnd", "(I)Z"⟩, 10) := ⟨⟨by decide +kernel, by decide +kernel⟩, List.mem_of_getElem? (i := 692) (by decide +kernel), List.mem_of_getElem? (i := 808) (by decide +kernel), List.mem_of_getElem? (i := 809) (by decide +kernel)⟩
def lw_privs_2 : List (MethodName × Nat) := [(⟨"ProcessorHouse", "shownAt", "(I)LProcessorHouse$Run;"⟩, 4), (⟨"ProcessorHouse", "pairAt", "(I)LProcessorHouse$Pair;"⟩, 4), (⟨"ProcessorHouse", "refuseIfTooLarge", "(LProcessorHouse$Pair;)V"⟩, 4), (⟨"ProcessorHouse$Explorer", "keepTrial", "()V"⟩, 10), (⟨"ProcessorHouse$Explorer", "mixed", "()I"⟩, 10), (⟨"ProcessorHouse$Explorer", "putTrial", "(I)V"⟩, 10), (⟨"ProcessorHouse$Explorer", "isTrial", "(I)Z"⟩, 10), (⟨"ProcessorHouse$Explorer", "goOnFrom", "(I)V"⟩, 10), (⟨"ProcessorHouse$Explorer", "tryWord", "(II)Z"⟩, 10), (⟨"ProcessorHouse$Explorer", "takeTrial", "(I)V"⟩, 10), (⟨"ProcessorHouse$Explorer", "rowIsFull", "(I)Z"⟩, 10), (⟨"ProcessorHouse$Explorer", "perform", "(LProcessorHouse$Word;IJJ)V"⟩, 10), (⟨"ProcessorHouse$Explorer", "loaded", "(II)J"⟩, 10), (⟨"ProcessorHouse$Explorer", "putInRow", "(IIJ)V"⟩, 10), (⟨"ProcessorHouse$Explorer", "tryStore", "(II)Z"⟩, 10), (⟨"ProcessorHouse$Explorer", "isEnd", "(I)Z"⟩, 10)]
theorem lw_r2 : ∀ q ∈ lw_privs_2, lw_okq q := List.forall_mem_cons.mpr ⟨lw_p16, List.forall_mem_cons.mpr ⟨lw_p17, List.forall_mem_cons.mpr ⟨lw_p18, List.forall_mem_cons.mpr ⟨lw_p19, List.forall_mem_cons.mpr ⟨lw_p20, List.forall_mem_cons.mpr ⟨lw_p21, List.forall_mem_cons.mpr ⟨lw_p22, List.forall_mem_cons.mpr ⟨lw_p23, List.forall_mem_cons.mpr ⟨lw_p24, List.forall_mem_cons.mpr ⟨lw_p25, List.forall_mem_cons.mpr ⟨lw_p26, List.forall_mem_cons.mpr ⟨lw_p27, List.forall_mem_cons.mpr ⟨lw_p28, List.forall_mem_cons.mpr ⟨lw_p29, List.forall_mem_cons.mpr ⟨lw_p30, List.forall_mem_cons.mpr ⟨lw_p31, fun _ h => absurd h List.not_mem_nil⟩⟩⟩⟩⟩⟩⟩⟩⟩⟩⟩⟩⟩⟩⟩⟩
theorem lw_p32 : lw_okq (⟨"ProcessorHouse$Explorer", "insertEnd", "(I)V"⟩, 10) := ⟨⟨by decide +kernel, by decide +kernel⟩, List.mem_of_getElem? (i := 692) (by decide +kernel), List.mem_of_getElem? (i := 813) (by decide +kernel), List.mem_of_getElem? (i := 814) (by decide +kernel)⟩
theorem lw_p33 : lw_okq (⟨"ProcessorHouse$Explorer", "endIsBefore", "(II)Z"⟩, 10) := ⟨⟨by decide +kernel, by decide +kernel⟩, List.mem_of_getElem? (i := 692) (by decide +kernel), List.mem_of_getElem? (i := 817) (by decide +kernel), List.mem_of_getElem? (i := 818) (by decide +kernel)⟩
theorem lw_p34 : lw_okq (⟨"ProcessorHouse$Explorer", "tell", "()V"⟩, 10) := ⟨⟨by decide +kernel, by decide +kernel⟩, List.mem_of_getElem? (i := 692) (by decide +kernel), List.mem_of_getElem? (i := 825) (by decide +kernel), List.mem_of_getElem? (i := 826) (by decide +kernel)⟩
theorem lw_p35 : lw_okq (⟨"ProcessorHouseModel", "fail", "(I)I"⟩, 42) := ⟨⟨by decide +kernel, by decide +kernel⟩, List.mem_of_getElem? (i := 861) (by decide +kernel), List.mem_of_getElem? (i := 1005) (by decide +kernel), List.mem_of_getElem? (i := 1006) (by decide +kernel)⟩
theorem lw_p36 : lw_okq (⟨"ProcessorHouseModel", "isFull", "(I)Z"⟩, 42) := ⟨⟨by decide +kernel, by decide +kernel⟩, List.mem_of_getElem? (i := 861) (by decide +kernel), List.mem_of_getElem? (i := 1009) (by decide +kernel), List.mem_of_getElem? (i := 1010) (by decide +kernel)⟩
theorem lw_p37 : lw_okq (⟨"ProcessorHouseModel", "refuse", "(II)I"⟩, 42) := ⟨⟨by decide +kernel, by decide +kernel⟩, List.mem_of_getElem? (i := 861) (by decide +kernel), List.mem_of_getElem? (i := 1013) (by decide +kernel), List.mem_of_getElem? (i := 1014) (by decide +kernel)⟩
theorem lw_p38 : lw_okq (⟨"ProcessorHouseModel", "add", "(III)I"⟩, 42) := ⟨⟨by decide +kernel, by decide +kernel⟩, List.mem_of_getElem? (i := 861) (by decide +kernel), List.mem_of_getElem? (i := 1017) (by decide +kernel), List.mem_of_getElem? (i := 1018) (by decide +kernel)⟩
theorem lw_p39 : lw_okq (⟨"ProcessorHouseModel", "isOf", "(III)Z"⟩, 42) := ⟨⟨by decide +kernel, by decide +kernel⟩, List.mem_of_getElem? (i := 861) (by decide +kernel), List.mem_of_getElem? (i := 1025) (by decide +kernel), List.mem_of_getElem? (i := 1026) (by decide +kernel)⟩
theorem lw_p40 : lw_okq (⟨"ProcessorHouseModel", "isThere", "(I)Z"⟩, 42) := ⟨⟨by decide +kernel, by decide +kernel⟩, List.mem_of_getElem? (i := 861) (by decide +kernel), List.mem_of_getElem? (i := 1029) (by decide +kernel), List.mem_of_getElem? (i := 1030) (by decide +kernel)⟩
theorem lw_p41 : lw_okq (⟨"ProcessorHouseModel", "isUsed", "(I)Z"⟩, 42) := ⟨⟨by decide +kernel, by decide +kernel⟩, List.mem_of_getElem? (i := 861) (by decide +kernel), List.mem_of_getElem? (i := 1037) (by decide +kernel), List.mem_of_getElem? (i := 1038) (by decide +kernel)⟩
theorem lw_p42 : lw_okq (⟨"ProcessorHouseModel", "setCore", "(IIIII)V"⟩, 42) := ⟨⟨by decide +kernel, by decide +kernel⟩, List.mem_of_getElem? (i := 861) (by decide +kernel), List.mem_of_getElem? (i := 1048) (by decide +kernel), List.mem_of_getElem? (i := 1049) (by decide +kernel)⟩
theorem lw_p43 : lw_okq (⟨"ProcessorHouseModel", "begin", "(I)V"⟩, 42) := ⟨⟨by decide +kernel, by decide +kernel⟩, List.mem_of_getElem? (i := 861) (by decide +kernel), List.mem_of_getElem? (i := 1060) (by decide +kernel), List.mem_of_getElem? (i := 1061) (by decide +kernel)⟩
theorem lw_p44 : lw_okq (⟨"ProcessorHouseModel", "doWord", "(II)V"⟩, 42) := ⟨⟨by decide +kernel, by decide +kernel⟩, List.mem_of_getElem? (i := 861) (by decide +kernel), List.mem_of_getElem? (i := 1068) (by decide +kernel), List.mem_of_getElem? (i := 1069) (by decide +kernel)⟩
theorem lw_p45 : lw_okq (⟨"ProcessorHouseModel", "wordOf", "(II)I"⟩, 42) := ⟨⟨by decide +kernel, by decide +kernel⟩, List.mem_of_getElem? (i := 861) (by decide +kernel), List.mem_of_getElem? (i := 1072) (by decide +kernel), List.mem_of_getElem? (i := 1073) (by decide +kernel)⟩
theorem lw_p46 : lw_okq (⟨"ProcessorHouseModel", "goes", "(II)Z"⟩, 42) := ⟨⟨by decide +kernel, by decide +kernel⟩, List.mem_of_getElem? (i := 861) (by decide +kernel), List.mem_of_getElem? (i := 1076) (by decide +kernel), List.mem_of_getElem? (i := 1077) (by decide +kernel)⟩
theorem lw_p47 : lw_okq (⟨"ProcessorHouseModel", "modulo", "(II)I"⟩, 42) := ⟨⟨by decide +kernel, by decide +kernel⟩, List.mem_of_getElem? (i := 861) (by decide +kernel), List.mem_of_getElem? (i := 1080) (by decide +kernel), List.mem_of_getElem? (i := 1081) (by decide +kernel)⟩
def lw_privs_3 : List (MethodName × Nat) := [(⟨"ProcessorHouse$Explorer", "insertEnd", "(I)V"⟩, 10), (⟨"ProcessorHouse$Explorer", "endIsBefore", "(II)Z"⟩, 10), (⟨"ProcessorHouse$Explorer", "tell", "()V"⟩, 10), (⟨"ProcessorHouseModel", "fail", "(I)I"⟩, 42), (⟨"ProcessorHouseModel", "isFull", "(I)Z"⟩, 42), (⟨"ProcessorHouseModel", "refuse", "(II)I"⟩, 42), (⟨"ProcessorHouseModel", "add", "(III)I"⟩, 42), (⟨"ProcessorHouseModel", "isOf", "(III)Z"⟩, 42), (⟨"ProcessorHouseModel", "isThere", "(I)Z"⟩, 42), (⟨"ProcessorHouseModel", "isUsed", "(I)Z"⟩, 42), (⟨"ProcessorHouseModel", "setCore", "(IIIII)V"⟩, 42), (⟨"ProcessorHouseModel", "begin", "(I)V"⟩, 42), (⟨"ProcessorHouseModel", "doWord", "(II)V"⟩, 42), (⟨"ProcessorHouseModel", "wordOf", "(II)I"⟩, 42), (⟨"ProcessorHouseModel", "goes", "(II)Z"⟩, 42), (⟨"ProcessorHouseModel", "modulo", "(II)I"⟩, 42)]
theorem lw_r3 : ∀ q ∈ lw_privs_3, lw_okq q := List.forall_mem_cons.mpr ⟨lw_p32, List.forall_mem_cons.mpr ⟨lw_p33, List.forall_mem_cons.mpr ⟨lw_p34, List.forall_mem_cons.mpr ⟨lw_p35, List.forall_mem_cons.mpr ⟨lw_p36, List.forall_mem_cons.mpr ⟨lw_p37, List.forall_mem_cons.mpr ⟨lw_p38, List.forall_mem_cons.mpr ⟨lw_p39, List.forall_mem_cons.mpr ⟨lw_p40, List.forall_mem_cons.mpr ⟨lw_p41, List.forall_mem_cons.mpr ⟨lw_p42, List.forall_mem_cons.mpr ⟨lw_p43, List.forall_mem_cons.mpr ⟨lw_p44, List.forall_mem_cons.mpr ⟨lw_p45, List.forall_mem_cons.mpr ⟨lw_p46, List.forall_mem_cons.mpr ⟨lw_p47, fun _ h => absurd h List.not_mem_nil⟩⟩⟩⟩⟩⟩⟩⟩⟩⟩⟩⟩⟩⟩⟩⟩
theorem lw_p48 : lw_okq (⟨"ProcessorHouseModel", "cut", "(IJ)J"⟩, 42) := ⟨⟨by decide +kernel, by decide +kernel⟩, List.mem_of_getElem? (i := 861) (by decide +kernel), List.mem_of_getElem? (i := 1084) (by decide +kernel), List.mem_of_getElem? (i := 1085) (by decide +kernel)⟩
theorem lw_p49 : lw_okq (⟨"ProcessorHouseModel", "enterAll", "(II)V"⟩, 42) := ⟨⟨by decide +kernel, by decide +kernel⟩, List.mem_of_getElem? (i := 861) (by decide +kernel), List.mem_of_getElem? (i := 1096) (by decide +kernel), List.mem_of_getElem? (i := 1097) (by decide +kernel)⟩
theorem lw_p50 : lw_okq (⟨"ProcessorHouseModel", "lose", "(IIZ)V"⟩, 42) := ⟨⟨by decide +kernel, by decide +kernel⟩, List.mem_of_getElem? (i := 861) (by decide +kernel), List.mem_of_getElem? (i := 1100) (by decide +kernel), List.mem_of_getElem? (i := 1101) (by decide +kernel)⟩
theorem lw_p51 : lw_okq (⟨"ProcessorHouseModel", "enter", "(I)V"⟩, 42) := ⟨⟨by decide +kernel, by decide +kernel⟩, List.mem_of_getElem? (i := 861) (by decide +kernel), List.mem_of_getElem? (i := 1104) (by decide +kernel), List.mem_of_getElem? (i := 1105) (by decide +kernel)⟩
theorem lw_p52 : lw_okq (⟨"ProcessorHouseModel", "writes", "(I)Z"⟩, 42) := ⟨⟨by decide +kernel, by decide +kernel⟩, List.mem_of_getElem? (i := 861) (by decide +kernel), List.mem_of_getElem? (i := 1108) (by decide +kernel), List.mem_of_getElem? (i := 1109) (by decide +kernel)⟩
theorem lw_p53 : lw_okq (⟨"ProcessorHouseModel", "reads", "(I)I"⟩, 42) := ⟨⟨by decide +kernel, by decide +kernel⟩, List.mem_of_getElem? (i := 861) (by decide +kernel), List.mem_of_getElem? (i := 1112) (by decide +kernel), List.mem_of_getElem? (i := 1113) (by decide +kernel)⟩
theorem lw_p54 : lw_okq (⟨"ProcessorHouseModel", "readyAt", "(II)I"⟩, 42) := ⟨⟨by decide +kernel, by decide +kernel⟩, List.mem_of_getElem? (i := 861) (by decide +kernel), List.mem_of_getElem? (i := 1116) (by decide +kernel), List.mem_of_getElem? (i := 1117) (by decide +kernel)⟩
theorem lw_p55 : lw_okq (⟨"ProcessorHouseModel", "leaveAll", "(II)V"⟩, 42) := ⟨⟨by decide +kernel, by decide +kernel⟩, List.mem_of_getElem? (i := 861) (by decide +kernel), List.mem_of_getElem? (i := 1120) (by decide +kernel), List.mem_of_getElem? (i := 1121) (by decide +kernel)⟩
theorem lw_p56 : lw_okq (⟨"ProcessorHouseModel", "isRunning", "(I)Z"⟩, 42) := ⟨⟨by decide +kernel, by decide +kernel⟩, List.mem_of_getElem? (i := 861) (by decide +kernel), List.mem_of_getElem? (i := 1128) (by decide +kernel), List.mem_of_getElem? (i := 1129) (by decide +kernel)⟩
theorem lw_p57 : lw_okq (⟨"ProcessorHouseModel", "programOf", "(I)I"⟩, 42) := ⟨⟨by decide +kernel, by decide +kernel⟩, List.mem_of_getElem? (i := 861) (by decide +kernel), List.mem_of_getElem? (i := 1136) (by decide +kernel), List.mem_of_getElem? (i := 1137) (by decide +kernel)⟩
theorem lw_p58 : lw_okq (⟨"ProcessorHouseModel", "isSmall", "(I)Z"⟩, 42) := ⟨⟨by decide +kernel, by decide +kernel⟩, List.mem_of_getElem? (i := 861) (by decide +kernel), List.mem_of_getElem? (i := 1152) (by decide +kernel), List.mem_of_getElem? (i := 1153) (by decide +kernel)⟩
theorem lw_p59 : lw_okq (⟨"ProcessorHouseModel", "lookThrough", "(I)V"⟩, 42) := ⟨⟨by decide +kernel, by decide +kernel⟩, List.mem_of_getElem? (i := 861) (by decide +kernel), List.mem_of_getElem? (i := 1156) (by decide +kernel), List.mem_of_getElem? (i := 1157) (by decide +kernel)⟩
theorem lw_p60 : lw_okq (⟨"ProcessorHouseModel", "keep", "()V"⟩, 42) := ⟨⟨by decide +kernel, by decide +kernel⟩, List.mem_of_getElem? (i := 861) (by decide +kernel), List.mem_of_getElem? (i := 1160) (by decide +kernel), List.mem_of_getElem? (i := 1161) (by decide +kernel)⟩
theorem lw_p61 : lw_okq (⟨"ProcessorHouseModel", "chainOf", "()I"⟩, 42) := ⟨⟨by decide +kernel, by decide +kernel⟩, List.mem_of_getElem? (i := 861) (by decide +kernel), List.mem_of_getElem? (i := 1164) (by decide +kernel), List.mem_of_getElem? (i := 1165) (by decide +kernel)⟩
theorem lw_p62 : lw_okq (⟨"ProcessorHouseModel", "isKept", "(I)Z"⟩, 42) := ⟨⟨by decide +kernel, by decide +kernel⟩, List.mem_of_getElem? (i := 861) (by decide +kernel), List.mem_of_getElem? (i := 1171) (by decide +kernel), List.mem_of_getElem? (i := 1172) (by decide +kernel)⟩
theorem lw_p63 : lw_okq (⟨"ProcessorHouseModel", "goFrom", "(II)V"⟩, 42) := ⟨⟨by decide +kernel, by decide +kernel⟩, List.mem_of_getElem? (i := 861) (by decide +kernel), List.mem_of_getElem? (i := 1175) (by decide +kernel), List.mem_of_getElem? (i := 1176) (by decide +kernel)⟩
def lw_privs_4 : List (MethodName × Nat) := [(⟨"ProcessorHouseModel", "cut", "(IJ)J"⟩, 42), (⟨"ProcessorHouseModel", "enterAll", "(II)V"⟩, 42), (⟨"ProcessorHouseModel", "lose", "(IIZ)V"⟩, 42), (⟨"ProcessorHouseModel", "enter", "(I)V"⟩, 42), (⟨"ProcessorHouseModel", "writes", "(I)Z"⟩, 42), (⟨"ProcessorHouseModel", "reads", "(I)I"⟩, 42), (⟨"ProcessorHouseModel", "readyAt", "(II)I"⟩, 42), (⟨"ProcessorHouseModel", "leaveAll", "(II)V"⟩, 42), (⟨"ProcessorHouseModel", "isRunning", "(I)Z"⟩, 42), (⟨"ProcessorHouseModel", "programOf", "(I)I"⟩, 42), (⟨"ProcessorHouseModel", "isSmall", "(I)Z"⟩, 42), (⟨"ProcessorHouseModel", "lookThrough", "(I)V"⟩, 42), (⟨"ProcessorHouseModel", "keep", "()V"⟩, 42), (⟨"ProcessorHouseModel", "chainOf", "()I"⟩, 42), (⟨"ProcessorHouseModel", "isKept", "(I)Z"⟩, 42), (⟨"ProcessorHouseModel", "goFrom", "(II)V"⟩, 42)]
theorem lw_r4 : ∀ q ∈ lw_privs_4, lw_okq q := List.forall_mem_cons.mpr ⟨lw_p48, List.forall_mem_cons.mpr ⟨lw_p49, List.forall_mem_cons.mpr ⟨lw_p50, List.forall_mem_cons.mpr ⟨lw_p51, List.forall_mem_cons.mpr ⟨lw_p52, List.forall_mem_cons.mpr ⟨lw_p53, List.forall_mem_cons.mpr ⟨lw_p54, List.forall_mem_cons.mpr ⟨lw_p55, List.forall_mem_cons.mpr ⟨lw_p56, List.forall_mem_cons.mpr ⟨lw_p57, List.forall_mem_cons.mpr ⟨lw_p58, List.forall_mem_cons.mpr ⟨lw_p59, List.forall_mem_cons.mpr ⟨lw_p60, List.forall_mem_cons.mpr ⟨lw_p61, List.forall_mem_cons.mpr ⟨lw_p62, List.forall_mem_cons.mpr ⟨lw_p63, fun _ h => absurd h List.not_mem_nil⟩⟩⟩⟩⟩⟩⟩⟩⟩⟩⟩⟩⟩⟩⟩⟩
theorem lw_p64 : lw_okq (⟨"ProcessorHouseModel", "open", "(I)V"⟩, 42) := ⟨⟨by decide +kernel, by decide +kernel⟩, List.mem_of_getElem? (i := 861) (by decide +kernel), List.mem_of_getElem? (i := 1179) (by decide +kernel), List.mem_of_getElem? (i := 1180) (by decide +kernel)⟩
theorem lw_p65 : lw_okq (⟨"ProcessorHouseModel", "doOf", "(II)Z"⟩, 42) := ⟨⟨by decide +kernel, by decide +kernel⟩, List.mem_of_getElem? (i := 861) (by decide +kernel), List.mem_of_getElem? (i := 1183) (by decide +kernel), List.mem_of_getElem? (i := 1184) (by decide +kernel)⟩
theorem lw_p66 : lw_okq (⟨"ProcessorHouseModel", "programAt", "(II)I"⟩, 42) := ⟨⟨by decide +kernel, by decide +kernel⟩, List.mem_of_getElem? (i := 861) (by decide +kernel), List.mem_of_getElem? (i := 1187) (by decide +kernel), List.mem_of_getElem? (i := 1188) (by decide +kernel)⟩
theorem lw_p67 : lw_okq (⟨"ProcessorHouseModel", "seen", "(II)J"⟩, 42) := ⟨⟨by decide +kernel, by decide +kernel⟩, List.mem_of_getElem? (i := 861) (by decide +kernel), List.mem_of_getElem? (i := 1191) (by decide +kernel), List.mem_of_getElem? (i := 1192) (by decide +kernel)⟩
theorem lw_p68 : lw_okq (⟨"ProcessorHouseModel", "letGo", "(I)Z"⟩, 42) := ⟨⟨by decide +kernel, by decide +kernel⟩, List.mem_of_getElem? (i := 861) (by decide +kernel), List.mem_of_getElem? (i := 1195) (by decide +kernel), List.mem_of_getElem? (i := 1196) (by decide +kernel)⟩
theorem lw_p69 : lw_okq (⟨"ProcessorHouseModel", "isEnd", "(I)Z"⟩, 42) := ⟨⟨by decide +kernel, by decide +kernel⟩, List.mem_of_getElem? (i := 861) (by decide +kernel), List.mem_of_getElem? (i := 1199) (by decide +kernel), List.mem_of_getElem? (i := 1200) (by decide +kernel)⟩
theorem lw_p70 : lw_okq (⟨"ProcessorHouseModel", "addEnd", "(I)V"⟩, 42) := ⟨⟨by decide +kernel, by decide +kernel⟩, List.mem_of_getElem? (i := 861) (by decide +kernel), List.mem_of_getElem? (i := 1203) (by decide +kernel), List.mem_of_getElem? (i := 1204) (by decide +kernel)⟩
theorem lw_p71 : lw_okq (⟨"ProcessorHouseModel", "isBefore", "(II)Z"⟩, 42) := ⟨⟨by decide +kernel, by decide +kernel⟩, List.mem_of_getElem? (i := 861) (by decide +kernel), List.mem_of_getElem? (i := 1207) (by decide +kernel), List.mem_of_getElem? (i := 1208) (by decide +kernel)⟩
def lw_privs_5 : List (MethodName × Nat) := [(⟨"ProcessorHouseModel", "open", "(I)V"⟩, 42), (⟨"ProcessorHouseModel", "doOf", "(II)Z"⟩, 42), (⟨"ProcessorHouseModel", "programAt", "(II)I"⟩, 42), (⟨"ProcessorHouseModel", "seen", "(II)J"⟩, 42), (⟨"ProcessorHouseModel", "letGo", "(I)Z"⟩, 42), (⟨"ProcessorHouseModel", "isEnd", "(I)Z"⟩, 42), (⟨"ProcessorHouseModel", "addEnd", "(I)V"⟩, 42), (⟨"ProcessorHouseModel", "isBefore", "(II)Z"⟩, 42)]
theorem lw_r5 : ∀ q ∈ lw_privs_5, lw_okq q := List.forall_mem_cons.mpr ⟨lw_p64, List.forall_mem_cons.mpr ⟨lw_p65, List.forall_mem_cons.mpr ⟨lw_p66, List.forall_mem_cons.mpr ⟨lw_p67, List.forall_mem_cons.mpr ⟨lw_p68, List.forall_mem_cons.mpr ⟨lw_p69, List.forall_mem_cons.mpr ⟨lw_p70, List.forall_mem_cons.mpr ⟨lw_p71, fun _ h => absurd h List.not_mem_nil⟩⟩⟩⟩⟩⟩⟩⟩
def lw_privs : List (MethodName × Nat) := lw_privs_1 ++ (lw_privs_2 ++ (lw_privs_3 ++ (lw_privs_4 ++ (lw_privs_5))))
def lw_tbl : List Cond := k2_sels lw_privs ++ tables_1
theorem lw_privs_ok : ∀ q ∈ lw_privs, lw_okq q := by
  show ∀ q ∈ lw_privs_1 ++ (lw_privs_2 ++ (lw_privs_3 ++ (lw_privs_4 ++ (lw_privs_5)))), lw_okq q
  exact List.forall_mem_append.mpr ⟨lw_r1, List.forall_mem_append.mpr ⟨lw_r2, List.forall_mem_append.mpr ⟨lw_r3, List.forall_mem_append.mpr ⟨lw_r4, lw_r5⟩⟩⟩⟩
end
section
/-! ===== BEGIN printed: names, fields, word lists, decode rows ===== -/
def RX0 : String := "ProcessorHouse$Core"
def TX0 : u_T := fun k => match k with
  | 0 => ("ProcessorHouse$Thing", "kindNumber", "I", true)
  | 1 => ("ProcessorHouse$Core", "machine", "LProcessorHouse$Machine;", true)
  | 2 => ("ProcessorHouse$Core", "length", "I", false)
  | 3 => ("ProcessorHouse$Core", "lag", "I", false)
  | 4 => ("ProcessorHouse$Core", "loadLag", "I", false)
  | _ => ("ProcessorHouse$Core", "penalty", "I", false)
def tyX0 : Nat → FieldType := fun k => match k with
  | 0 => .int
  | 1 => .object "ProcessorHouse$Machine"
  | 2 => .int
  | 3 => .int
  | 4 => .int
  | _ => .int
abbrev wsX00 : List Cond := u_ws RX0 TX0 6
theorem nmX0 : ∀ a, a < 6 → ∀ b, b < 6 → a ≠ b → (TX0 a).2.1 ≠ (TX0 b).2.1 := by decide +kernel
theorem tyX0_ok : ∀ k, k < 6 → parseFieldDescriptor (TX0 k).2.2.1 = some (tyX0 k) := by decide +kernel
abbrev cX0_init : ByteArray := prog_2_method_1_code
def yX0_init : MethodName := ⟨RX0, "<init>", "(LProcessorHouse$Machine;)V"⟩
abbrev cX0_uses : ByteArray := prog_2_method_2_code
def yX0_uses : MethodName := ⟨RX0, "uses", "(LProcessorHouse$Thing;)Z"⟩
abbrev cX0_settle : ByteArray := prog_2_method_3_code
def yX0_settle : MethodName := ⟨RX0, "settle", "(IIII)V"⟩
def RX1 : String := "ProcessorHouse$Explorer"
def TX1 : u_T := fun k => match k with
  | 0 => ("ProcessorHouse$Explorer", "states", "[J", true)
  | 1 => ("ProcessorHouse$Explorer", "slots", "[I", true)
  | 2 => ("ProcessorHouse$Explorer", "ends", "[I", true)
  | 3 => ("ProcessorHouse$Explorer", "trial", "[J", true)
  | 4 => ("ProcessorHouse$Explorer", "pair", "LProcessorHouse$Pair;", false)
  | 5 => ("ProcessorHouse$Explorer", "machine", "LProcessorHouse$Machine;", false)
  | 6 => ("ProcessorHouse$Explorer", "found", "I", false)
  | 7 => ("ProcessorHouse$Explorer", "endsFound", "I", false)
  | 8 => ("ProcessorHouse$Explorer", "stuck", "I", false)
  | _ => ("ProcessorHouse$Explorer", "tooLarge", "Z", false)
def tyX1 : Nat → FieldType := fun k => match k with
  | 0 => .array .long
  | 1 => .array .int
  | 2 => .array .int
  | 3 => .array .long
  | 4 => .object "ProcessorHouse$Pair"
  | 5 => .object "ProcessorHouse$Machine"
  | 6 => .int
  | 7 => .int
  | 8 => .int
  | _ => .boolean
abbrev wsX10 : List Cond := u_ws RX1 TX1 10
theorem nmX1 : ∀ a, a < 10 → ∀ b, b < 10 → a ≠ b → (TX1 a).2.1 ≠ (TX1 b).2.1 := by decide +kernel
theorem tyX1_ok : ∀ k, k < 10 → parseFieldDescriptor (TX1 k).2.2.1 = some (tyX1 k) := by decide +kernel
abbrev cX1_init : ByteArray := prog_3_method_1_code
def yX1_init : MethodName := ⟨RX1, "<init>", "()V"⟩
abbrev cX1_goThrough : ByteArray := prog_3_method_2_code
def yX1_goThrough : MethodName := ⟨RX1, "goThrough", "(LProcessorHouse$Pair;)V"⟩
abbrev cX1_goOnFrom : ByteArray := prog_3_method_3_code
def yX1_goOnFrom : MethodName := ⟨RX1, "goOnFrom", "(I)V"⟩
abbrev cX1_tryWord : ByteArray := prog_3_method_4_code
def yX1_tryWord : MethodName := ⟨RX1, "tryWord", "(II)Z"⟩
abbrev cX1_rowIsFull : ByteArray := prog_3_method_5_code
def yX1_rowIsFull : MethodName := ⟨RX1, "rowIsFull", "(I)Z"⟩
abbrev cX1_perform : ByteArray := prog_3_method_6_code
def yX1_perform : MethodName := ⟨RX1, "perform", "(LProcessorHouse$Word;IJJ)V"⟩
abbrev cX1_following : ByteArray := prog_3_method_7_code
def yX1_following : MethodName := ⟨RX1, "following", "(LProcessorHouse$Program;LProcessorHouse$Word;IJ)I"⟩
abbrev cX1_loaded : ByteArray := prog_3_method_8_code
def yX1_loaded : MethodName := ⟨RX1, "loaded", "(II)J"⟩
abbrev cX1_putInRow : ByteArray := prog_3_method_9_code
def yX1_putInRow : MethodName := ⟨RX1, "putInRow", "(IIJ)V"⟩
abbrev cX1_tryStore : ByteArray := prog_3_method_10_code
def yX1_tryStore : MethodName := ⟨RX1, "tryStore", "(II)Z"⟩
abbrev cX1_takeTrial : ByteArray := prog_3_method_11_code
def yX1_takeTrial : MethodName := ⟨RX1, "takeTrial", "(I)V"⟩
abbrev cX1_keepTrial : ByteArray := prog_3_method_12_code
def yX1_keepTrial : MethodName := ⟨RX1, "keepTrial", "()V"⟩
abbrev cX1_putTrial : ByteArray := prog_3_method_13_code
def yX1_putTrial : MethodName := ⟨RX1, "putTrial", "(I)V"⟩
abbrev cX1_mixed : ByteArray := prog_3_method_14_code
def yX1_mixed : MethodName := ⟨RX1, "mixed", "()I"⟩
abbrev cX1_isTrial : ByteArray := prog_3_method_15_code
def yX1_isTrial : MethodName := ⟨RX1, "isTrial", "(I)Z"⟩
abbrev cX1_isEnd : ByteArray := prog_3_method_16_code
def yX1_isEnd : MethodName := ⟨RX1, "isEnd", "(I)Z"⟩
abbrev cX1_insertEnd : ByteArray := prog_3_method_17_code
def yX1_insertEnd : MethodName := ⟨RX1, "insertEnd", "(I)V"⟩
abbrev cX1_endIsBefore : ByteArray := prog_3_method_18_code
def yX1_endIsBefore : MethodName := ⟨RX1, "endIsBefore", "(II)Z"⟩
abbrev cX1_tell : ByteArray := prog_3_method_19_code
def yX1_tell : MethodName := ⟨RX1, "tell", "()V"⟩
def RX2 : String := "ProcessorHouse$Machine"
def TX2 : u_T := fun k => match k with
  | 0 => ("ProcessorHouse$Thing", "kindNumber", "I", true)
  | 1 => ("ProcessorHouse$Machine", "places", "I", true)
  | _ => ("ProcessorHouse$Machine", "mask", "J", true)
def tyX2 : Nat → FieldType := fun k => match k with
  | 0 => .int
  | 1 => .int
  | _ => .long
abbrev wsX20 : List Cond := u_ws RX2 TX2 3
theorem nmX2 : ∀ a, a < 3 → ∀ b, b < 3 → a ≠ b → (TX2 a).2.1 ≠ (TX2 b).2.1 := by decide +kernel
theorem tyX2_ok : ∀ k, k < 3 → parseFieldDescriptor (TX2 k).2.2.1 = some (tyX2 k) := by decide +kernel
abbrev cX2_init : ByteArray := prog_4_method_1_code
def yX2_init : MethodName := ⟨RX2, "<init>", "(II)V"⟩
abbrev cX2_uses : ByteArray := prog_4_method_2_code
def yX2_uses : MethodName := ⟨RX2, "uses", "(LProcessorHouse$Thing;)Z"⟩
abbrev cX2_cut : ByteArray := prog_4_method_3_code
def yX2_cut : MethodName := ⟨RX2, "cut", "(J)J"⟩
abbrev cX2_placeOf : ByteArray := prog_4_method_4_code
def yX2_placeOf : MethodName := ⟨RX2, "placeOf", "(J)I"⟩
def RX3 : String := "ProcessorHouse$Pair"
def TX3 : u_T := fun k => match k with
  | 0 => ("ProcessorHouse$Thing", "kindNumber", "I", true)
  | 1 => ("ProcessorHouse$Pair", "one", "LProcessorHouse$Program;", true)
  | 2 => ("ProcessorHouse$Pair", "two", "LProcessorHouse$Program;", true)
  | 3 => ("ProcessorHouse$Pair", "storesWait", "Z", true)
  | 4 => ("ProcessorHouse$Pair", "explored", "Z", false)
  | 5 => ("ProcessorHouse$Pair", "tooLarge", "Z", false)
  | 6 => ("ProcessorHouse$Pair", "states", "I", false)
  | 7 => ("ProcessorHouse$Pair", "ends", "I", false)
  | 8 => ("ProcessorHouse$Pair", "stuck", "I", false)
  | _ => ("ProcessorHouse$Pair", "endNumbers", "[J", false)
def tyX3 : Nat → FieldType := fun k => match k with
  | 0 => .int
  | 1 => .object "ProcessorHouse$Program"
  | 2 => .object "ProcessorHouse$Program"
  | 3 => .boolean
  | 4 => .boolean
  | 5 => .boolean
  | 6 => .int
  | 7 => .int
  | 8 => .int
  | _ => .array .long
abbrev wsX30 : List Cond := u_ws RX3 TX3 10
theorem nmX3 : ∀ a, a < 10 → ∀ b, b < 10 → a ≠ b → (TX3 a).2.1 ≠ (TX3 b).2.1 := by decide +kernel
theorem tyX3_ok : ∀ k, k < 10 → parseFieldDescriptor (TX3 k).2.2.1 = some (tyX3 k) := by decide +kernel
abbrev cX3_init : ByteArray := prog_5_method_1_code
def yX3_init : MethodName := ⟨RX3, "<init>", "(LProcessorHouse$Program;LProcessorHouse$Program;Z)V"⟩
abbrev cX3_uses : ByteArray := prog_5_method_2_code
def yX3_uses : MethodName := ⟨RX3, "uses", "(LProcessorHouse$Thing;)Z"⟩
abbrev cX3_programOf : ByteArray := prog_5_method_3_code
def yX3_programOf : MethodName := ⟨RX3, "programOf", "(I)LProcessorHouse$Program;"⟩
abbrev cX3_endWidth : ByteArray := prog_5_method_4_code
def yX3_endWidth : MethodName := ⟨RX3, "endWidth", "()I"⟩
def RX4 : String := "ProcessorHouse$Program"
def TX4 : u_T := fun k => match k with
  | 0 => ("ProcessorHouse$Thing", "kindNumber", "I", true)
  | 1 => ("ProcessorHouse$Program", "machine", "LProcessorHouse$Machine;", true)
  | 2 => ("ProcessorHouse$Program", "words", "[LProcessorHouse$Word;", true)
  | _ => ("ProcessorHouse$Program", "size", "I", false)
def tyX4 : Nat → FieldType := fun k => match k with
  | 0 => .int
  | 1 => .object "ProcessorHouse$Machine"
  | 2 => .array (.object "ProcessorHouse$Word")
  | _ => .int
abbrev wsX40 : List Cond := u_ws RX4 TX4 4
theorem nmX4 : ∀ a, a < 4 → ∀ b, b < 4 → a ≠ b → (TX4 a).2.1 ≠ (TX4 b).2.1 := by decide +kernel
theorem tyX4_ok : ∀ k, k < 4 → parseFieldDescriptor (TX4 k).2.2.1 = some (tyX4 k) := by decide +kernel
abbrev cX4_init : ByteArray := prog_6_method_1_code
def yX4_init : MethodName := ⟨RX4, "<init>", "(LProcessorHouse$Machine;)V"⟩
abbrev cX4_uses : ByteArray := prog_6_method_2_code
def yX4_uses : MethodName := ⟨RX4, "uses", "(LProcessorHouse$Thing;)Z"⟩
abbrev cX4_append : ByteArray := prog_6_method_3_code
def yX4_append : MethodName := ⟨RX4, "append", "(LProcessorHouse$Word;)V"⟩
abbrev cX4_wordAt : ByteArray := prog_6_method_4_code
def yX4_wordAt : MethodName := ⟨RX4, "wordAt", "(I)LProcessorHouse$Word;"⟩
abbrev cX4_targetOf : ByteArray := prog_6_method_5_code
def yX4_targetOf : MethodName := ⟨RX4, "targetOf", "(LProcessorHouse$Word;)I"⟩
def RX5 : String := "ProcessorHouse$Run"
def TX5 : u_T := fun k => match k with
  | 0 => ("ProcessorHouse$Thing", "kindNumber", "I", true)
  | 1 => ("ProcessorHouse$Run", "program", "LProcessorHouse$Program;", true)
  | 2 => ("ProcessorHouse$Run", "registers", "[J", true)
  | 3 => ("ProcessorHouse$Run", "memory", "[J", true)
  | 4 => ("ProcessorHouse$Run", "next", "I", false)
  | 5 => ("ProcessorHouse$Run", "steps", "I", false)
  | _ => ("ProcessorHouse$Run", "ended", "Z", false)
def tyX5 : Nat → FieldType := fun k => match k with
  | 0 => .int
  | 1 => .object "ProcessorHouse$Program"
  | 2 => .array .long
  | 3 => .array .long
  | 4 => .int
  | 5 => .int
  | _ => .boolean
abbrev wsX50 : List Cond := u_ws RX5 TX5 7
theorem nmX5 : ∀ a, a < 7 → ∀ b, b < 7 → a ≠ b → (TX5 a).2.1 ≠ (TX5 b).2.1 := by decide +kernel
theorem tyX5_ok : ∀ k, k < 7 → parseFieldDescriptor (TX5 k).2.2.1 = some (tyX5 k) := by decide +kernel
abbrev cX5_init : ByteArray := prog_7_method_1_code
def yX5_init : MethodName := ⟨RX5, "<init>", "(LProcessorHouse$Program;)V"⟩
abbrev cX5_uses : ByteArray := prog_7_method_2_code
def yX5_uses : MethodName := ⟨RX5, "uses", "(LProcessorHouse$Thing;)Z"⟩
abbrev cX5_nextWord : ByteArray := prog_7_method_3_code
def yX5_nextWord : MethodName := ⟨RX5, "nextWord", "()LProcessorHouse$Word;"⟩
abbrev cX5_advance : ByteArray := prog_7_method_4_code
def yX5_advance : MethodName := ⟨RX5, "advance", "()V"⟩
abbrev cX5_perform : ByteArray := prog_7_method_5_code
def yX5_perform : MethodName := ⟨RX5, "perform", "(LProcessorHouse$Word;JJ)V"⟩
abbrev cX5_sameAs : ByteArray := prog_7_method_6_code
def yX5_sameAs : MethodName := ⟨RX5, "sameAs", "(LProcessorHouse$Run;)Z"⟩
abbrev cX5_sameNumbers : ByteArray := prog_7_method_7_code
def yX5_sameNumbers : MethodName := ⟨RX5, "sameNumbers", "([J[J)Z"⟩
def RX6 : String := "ProcessorHouse$Sim"
def TX6 : u_T := fun k => match k with
  | 0 => ("ProcessorHouse$Thing", "kindNumber", "I", true)
  | 1 => ("ProcessorHouse$Sim", "core", "LProcessorHouse$Core;", true)
  | 2 => ("ProcessorHouse$Sim", "entered", "LProcessorHouse$Run;", true)
  | 3 => ("ProcessorHouse$Sim", "left", "LProcessorHouse$Run;", true)
  | 4 => ("ProcessorHouse$Sim", "cycle", "I", false)
  | 5 => ("ProcessorHouse$Sim", "lastEntry", "I", false)
  | 6 => ("ProcessorHouse$Sim", "barred", "I", false)
  | 7 => ("ProcessorHouse$Sim", "lostByPenalty", "I", false)
  | 8 => ("ProcessorHouse$Sim", "lostByLags", "I", false)
  | 9 => ("ProcessorHouse$Sim", "readable", "[I", true)
  | _ => ("ProcessorHouse$Sim", "leaving", "[I", true)
def tyX6 : Nat → FieldType := fun k => match k with
  | 0 => .int
  | 1 => .object "ProcessorHouse$Core"
  | 2 => .object "ProcessorHouse$Run"
  | 3 => .object "ProcessorHouse$Run"
  | 4 => .int
  | 5 => .int
  | 6 => .int
  | 7 => .int
  | 8 => .int
  | 9 => .array .int
  | _ => .array .int
abbrev wsX60 : List Cond := u_ws RX6 TX6 11
theorem nmX6 : ∀ a, a < 11 → ∀ b, b < 11 → a ≠ b → (TX6 a).2.1 ≠ (TX6 b).2.1 := by decide +kernel
theorem tyX6_ok : ∀ k, k < 11 → parseFieldDescriptor (TX6 k).2.2.1 = some (tyX6 k) := by decide +kernel
abbrev cX6_init : ByteArray := prog_8_method_1_code
def yX6_init : MethodName := ⟨RX6, "<init>", "(LProcessorHouse$Core;LProcessorHouse$Program;)V"⟩
abbrev cX6_uses : ByteArray := prog_8_method_2_code
def yX6_uses : MethodName := ⟨RX6, "uses", "(LProcessorHouse$Thing;)Z"⟩
abbrev cX6_tick : ByteArray := prog_8_method_3_code
def yX6_tick : MethodName := ⟨RX6, "tick", "()V"⟩
abbrev cX6_entryOf : ByteArray := prog_8_method_4_code
def yX6_entryOf : MethodName := ⟨RX6, "entryOf", "(LProcessorHouse$Word;)I"⟩
abbrev cX6_enter : ByteArray := prog_8_method_5_code
def yX6_enter : MethodName := ⟨RX6, "enter", "(LProcessorHouse$Word;)V"⟩
abbrev cX6_tally : ByteArray := prog_8_method_6_code
def yX6_tally : MethodName := ⟨RX6, "tally", "(I)I"⟩
def RX7 : String := "ProcessorHouse$Thing"
def TX7 : u_T := fun k => match k with
  | _ => ("", "", "", false)
def tyX7 : Nat → FieldType := fun k => match k with
  | _ => .int
abbrev wsX70 : List Cond := u_ws RX7 TX7 0
theorem nmX7 : ∀ a, a < 0 → ∀ b, b < 0 → a ≠ b → (TX7 a).2.1 ≠ (TX7 b).2.1 := by decide +kernel
theorem tyX7_ok : ∀ k, k < 0 → parseFieldDescriptor (TX7 k).2.2.1 = some (tyX7 k) := by decide +kernel
abbrev cX7_init : ByteArray := prog_9_method_1_code
def yX7_init : MethodName := ⟨RX7, "<init>", "(I)V"⟩
def RX8 : String := "ProcessorHouse$Word"
def TX8 : u_T := fun k => match k with
  | 0 => ("ProcessorHouse$Word", "op", "I", true)
  | 1 => ("ProcessorHouse$Word", "d", "I", true)
  | 2 => ("ProcessorHouse$Word", "a", "I", true)
  | 3 => ("ProcessorHouse$Word", "b", "I", true)
  | _ => ("ProcessorHouse$Word", "n", "I", true)
def tyX8 : Nat → FieldType := fun k => match k with
  | 0 => .int
  | 1 => .int
  | 2 => .int
  | 3 => .int
  | _ => .int
abbrev wsX80 : List Cond := u_ws RX8 TX8 5
theorem nmX8 : ∀ a, a < 5 → ∀ b, b < 5 → a ≠ b → (TX8 a).2.1 ≠ (TX8 b).2.1 := by decide +kernel
theorem tyX8_ok : ∀ k, k < 5 → parseFieldDescriptor (TX8 k).2.2.1 = some (tyX8 k) := by decide +kernel
abbrev cX8_init : ByteArray := prog_10_method_1_code
def yX8_init : MethodName := ⟨RX8, "<init>", "(IIIII)V"⟩
abbrev cX8_computes : ByteArray := prog_10_method_2_code
def yX8_computes : MethodName := ⟨RX8, "computes", "()Z"⟩
abbrev cX8_writes : ByteArray := prog_10_method_3_code
def yX8_writes : MethodName := ⟨RX8, "writes", "()Z"⟩
abbrev cX8_readsA : ByteArray := prog_10_method_4_code
def yX8_readsA : MethodName := ⟨RX8, "readsA", "()Z"⟩
abbrev cX8_readsB : ByteArray := prog_10_method_5_code
def yX8_readsB : MethodName := ⟨RX8, "readsB", "()Z"⟩
abbrev cX8_goes : ByteArray := prog_10_method_6_code
def yX8_goes : MethodName := ⟨RX8, "goes", "(J)Z"⟩
abbrev cX8_result : ByteArray := prog_10_method_7_code
def yX8_result : MethodName := ⟨RX8, "result", "(JJ)J"⟩
def RX9 : String := "ProcessorHouse"
def TX9 : u_T := fun k => match k with
  | 0 => ("ProcessorHouse", "things", "[LProcessorHouse$Thing;", true)
  | 1 => ("ProcessorHouse", "handles", "I", false)
  | 2 => ("ProcessorHouse", "lastRule", "I", false)
  | _ => ("ProcessorHouse", "explorer", "LProcessorHouse$Explorer;", false)
def tyX9 : Nat → FieldType := fun k => match k with
  | 0 => .array (.object "ProcessorHouse$Thing")
  | 1 => .int
  | 2 => .int
  | _ => .object "ProcessorHouse$Explorer"
abbrev wsX90 : List Cond := u_ws RX9 TX9 4
theorem nmX9 : ∀ a, a < 4 → ∀ b, b < 4 → a ≠ b → (TX9 a).2.1 ≠ (TX9 b).2.1 := by decide +kernel
theorem tyX9_ok : ∀ k, k < 4 → parseFieldDescriptor (TX9 k).2.2.1 = some (tyX9 k) := by decide +kernel
abbrev cX9_init : ByteArray := prog_1_method_1_code
def yX9_init : MethodName := ⟨RX9, "<init>", "()V"⟩
abbrev cX9_machine : ByteArray := prog_1_method_2_code
def yX9_machine : MethodName := ⟨RX9, "machine", "(II)I"⟩
abbrev cX9_program : ByteArray := prog_1_method_3_code
def yX9_program : MethodName := ⟨RX9, "program", "(I)I"⟩
abbrev cX9_word : ByteArray := prog_1_method_4_code
def yX9_word : MethodName := ⟨RX9, "word", "(IIIIII)I"⟩
abbrev cX9_run : ByteArray := prog_1_method_5_code
def yX9_run : MethodName := ⟨RX9, "run", "(I)I"⟩
abbrev cX9_step : ByteArray := prog_1_method_6_code
def yX9_step : MethodName := ⟨RX9, "step", "(II)I"⟩
abbrev cX9_core : ByteArray := prog_1_method_7_code
def yX9_core : MethodName := ⟨RX9, "core", "(IIIII)I"⟩
abbrev cX9_change : ByteArray := prog_1_method_8_code
def yX9_change : MethodName := ⟨RX9, "change", "(IIIII)I"⟩
abbrev cX9_sim : ByteArray := prog_1_method_9_code
def yX9_sim : MethodName := ⟨RX9, "sim", "(II)I"⟩
abbrev cX9_cycles : ByteArray := prog_1_method_10_code
def yX9_cycles : MethodName := ⟨RX9, "cycles", "(II)I"⟩
abbrev cX9_state : ByteArray := prog_1_method_11_code
def yX9_state : MethodName := ⟨RX9, "state", "(II)I"⟩
abbrev cX9_number : ByteArray := prog_1_method_12_code
def yX9_number : MethodName := ⟨RX9, "number", "(II)J"⟩
abbrev cX9_agrees : ByteArray := prog_1_method_13_code
def yX9_agrees : MethodName := ⟨RX9, "agrees", "(II)Z"⟩
abbrev cX9_pair : ByteArray := prog_1_method_14_code
def yX9_pair : MethodName := ⟨RX9, "pair", "(III)I"⟩
abbrev cX9_explore : ByteArray := prog_1_method_15_code
def yX9_explore : MethodName := ⟨RX9, "explore", "(II)I"⟩
abbrev cX9_end : ByteArray := prog_1_method_16_code
def yX9_end : MethodName := ⟨RX9, "end", "(III)J"⟩
abbrev cX9_drop : ByteArray := prog_1_method_17_code
def yX9_drop : MethodName := ⟨RX9, "drop", "(I)I"⟩
abbrev cX9_kind : ByteArray := prog_1_method_18_code
def yX9_kind : MethodName := ⟨RX9, "kind", "(I)I"⟩
abbrev cX9_rule : ByteArray := prog_1_method_19_code
def yX9_rule : MethodName := ⟨RX9, "rule", "()I"⟩
abbrev cX9_count : ByteArray := prog_1_method_20_code
def yX9_count : MethodName := ⟨RX9, "count", "(I)I"⟩
abbrev cX9_outside : ByteArray := prog_1_method_21_code
def yX9_outside : MethodName := ⟨RX9, "outside", "(III)Z"⟩
abbrev cX9_noRegister : ByteArray := prog_1_method_22_code
def yX9_noRegister : MethodName := ⟨RX9, "noRegister", "(I)Z"⟩
abbrev cX9_noCore : ByteArray := prog_1_method_23_code
def yX9_noCore : MethodName := ⟨RX9, "noCore", "(IIII)Z"⟩
abbrev cX9_admit : ByteArray := prog_1_method_24_code
def yX9_admit : MethodName := ⟨RX9, "admit", "(LProcessorHouse$Thing;)I"⟩
abbrev cX9_refuse : ByteArray := prog_1_method_25_code
def yX9_refuse : MethodName := ⟨RX9, "refuse", "(I)V"⟩
abbrev cX9_refuseIfUsed : ByteArray := prog_1_method_26_code
def yX9_refuseIfUsed : MethodName := ⟨RX9, "refuseIfUsed", "(LProcessorHouse$Thing;)V"⟩
abbrev cX9_refuseIfApart : ByteArray := prog_1_method_27_code
def yX9_refuseIfApart : MethodName := ⟨RX9, "refuseIfApart", "(LProcessorHouse$Machine;LProcessorHouse$Machine;)V"⟩
abbrev cX9_refuseIfEmpty : ByteArray := prog_1_method_28_code
def yX9_refuseIfEmpty : MethodName := ⟨RX9, "refuseIfEmpty", "(LProcessorHouse$Program;)V"⟩
abbrev cX9_refuseIfTooLarge : ByteArray := prog_1_method_29_code
def yX9_refuseIfTooLarge : MethodName := ⟨RX9, "refuseIfTooLarge", "(LProcessorHouse$Pair;)V"⟩
abbrev cX9_thingAt : ByteArray := prog_1_method_30_code
def yX9_thingAt : MethodName := ⟨RX9, "thingAt", "(I)LProcessorHouse$Thing;"⟩
abbrev cX9_livingAt : ByteArray := prog_1_method_31_code
def yX9_livingAt : MethodName := ⟨RX9, "livingAt", "(I)LProcessorHouse$Thing;"⟩
abbrev cX9_machineAt : ByteArray := prog_1_method_32_code
def yX9_machineAt : MethodName := ⟨RX9, "machineAt", "(I)LProcessorHouse$Machine;"⟩
abbrev cX9_programAt : ByteArray := prog_1_method_33_code
def yX9_programAt : MethodName := ⟨RX9, "programAt", "(I)LProcessorHouse$Program;"⟩
abbrev cX9_runAt : ByteArray := prog_1_method_34_code
def yX9_runAt : MethodName := ⟨RX9, "runAt", "(I)LProcessorHouse$Run;"⟩
abbrev cX9_coreAt : ByteArray := prog_1_method_35_code
def yX9_coreAt : MethodName := ⟨RX9, "coreAt", "(I)LProcessorHouse$Core;"⟩
abbrev cX9_simAt : ByteArray := prog_1_method_36_code
def yX9_simAt : MethodName := ⟨RX9, "simAt", "(I)LProcessorHouse$Sim;"⟩
abbrev cX9_pairAt : ByteArray := prog_1_method_37_code
def yX9_pairAt : MethodName := ⟨RX9, "pairAt", "(I)LProcessorHouse$Pair;"⟩
abbrev cX9_shownAt : ByteArray := prog_1_method_38_code
def yX9_shownAt : MethodName := ⟨RX9, "shownAt", "(I)LProcessorHouse$Run;"⟩
def RX10 : String := "ProcessorHouseModel"
def TX10 : u_T := fun k => match k with
  | 0 => ("ProcessorHouseModel", "thrown", "I", false)
  | 1 => ("ProcessorHouseModel", "rule", "I", false)
  | 2 => ("ProcessorHouseModel", "handles", "I", false)
  | 3 => ("ProcessorHouseModel", "kind", "[I", true)
  | 4 => ("ProcessorHouseModel", "lives", "[Z", true)
  | 5 => ("ProcessorHouseModel", "of", "[I", true)
  | 6 => ("ProcessorHouseModel", "other", "[I", true)
  | 7 => ("ProcessorHouseModel", "bits", "[I", true)
  | 8 => ("ProcessorHouseModel", "places", "[I", true)
  | 9 => ("ProcessorHouseModel", "length", "[I", true)
  | 10 => ("ProcessorHouseModel", "lag", "[I", true)
  | 11 => ("ProcessorHouseModel", "loadLag", "[I", true)
  | 12 => ("ProcessorHouseModel", "penalty", "[I", true)
  | 13 => ("ProcessorHouseModel", "words", "[I", true)
  | 14 => ("ProcessorHouseModel", "op", "[I", true)
  | 15 => ("ProcessorHouseModel", "d", "[I", true)
  | 16 => ("ProcessorHouseModel", "a", "[I", true)
  | 17 => ("ProcessorHouseModel", "b", "[I", true)
  | 18 => ("ProcessorHouseModel", "n", "[I", true)
  | 19 => ("ProcessorHouseModel", "number", "[J", true)
  | 20 => ("ProcessorHouseModel", "place", "[I", true)
  | 21 => ("ProcessorHouseModel", "steps", "[I", true)
  | 22 => ("ProcessorHouseModel", "ended", "[Z", true)
  | 23 => ("ProcessorHouseModel", "cycles", "[I", true)
  | 24 => ("ProcessorHouseModel", "enters", "[I", true)
  | 25 => ("ProcessorHouseModel", "entered", "[I", true)
  | 26 => ("ProcessorHouseModel", "writtenAt", "[I", true)
  | 27 => ("ProcessorHouseModel", "writtenLag", "[I", true)
  | 28 => ("ProcessorHouseModel", "byPenalty", "[I", true)
  | 29 => ("ProcessorHouseModel", "byLag", "[I", true)
  | 30 => ("ProcessorHouseModel", "lostPenalty", "I", false)
  | 31 => ("ProcessorHouseModel", "lostLag", "I", false)
  | 32 => ("ProcessorHouseModel", "explored", "I", false)
  | 33 => ("ProcessorHouseModel", "states", "I", false)
  | 34 => ("ProcessorHouseModel", "ends", "I", false)
  | 35 => ("ProcessorHouseModel", "stuck", "I", false)
  | 36 => ("ProcessorHouseModel", "state", "[J", true)
  | 37 => ("ProcessorHouseModel", "end", "[I", true)
  | 38 => ("ProcessorHouseModel", "now", "[J", true)
  | 39 => ("ProcessorHouseModel", "chain", "[I", true)
  | 40 => ("ProcessorHouseModel", "next", "[I", true)
  | _ => ("ProcessorHouseModel", "wentLast", "[Z", true)
def tyX10 : Nat → FieldType := fun k => match k with
  | 0 => .int
  | 1 => .int
  | 2 => .int
  | 3 => .array .int
  | 4 => .array .boolean
  | 5 => .array .int
  | 6 => .array .int
  | 7 => .array .int
  | 8 => .array .int
  | 9 => .array .int
  | 10 => .array .int
  | 11 => .array .int
  | 12 => .array .int
  | 13 => .array .int
  | 14 => .array .int
  | 15 => .array .int
  | 16 => .array .int
  | 17 => .array .int
  | 18 => .array .int
  | 19 => .array .long
  | 20 => .array .int
  | 21 => .array .int
  | 22 => .array .boolean
  | 23 => .array .int
  | 24 => .array .int
  | 25 => .array .int
  | 26 => .array .int
  | 27 => .array .int
  | 28 => .array .int
  | 29 => .array .int
  | 30 => .int
  | 31 => .int
  | 32 => .int
  | 33 => .int
  | 34 => .int
  | 35 => .int
  | 36 => .array .long
  | 37 => .array .int
  | 38 => .array .long
  | 39 => .array .int
  | 40 => .array .int
  | _ => .array .boolean
abbrev wsX100 : List Cond := u_ws RX10 TX10 42
theorem nmX10 : ∀ a, a < 42 → ∀ b, b < 42 → a ≠ b → (TX10 a).2.1 ≠ (TX10 b).2.1 := by decide +kernel
theorem tyX10_ok : ∀ k, k < 42 → parseFieldDescriptor (TX10 k).2.2.1 = some (tyX10 k) := by decide +kernel
abbrev cX10_init : ByteArray := prog_12_method_1_code
def yX10_init : MethodName := ⟨RX10, "<init>", "()V"⟩
abbrev cX10_thrown : ByteArray := prog_12_method_2_code
def yX10_thrown : MethodName := ⟨RX10, "thrown", "()I"⟩
abbrev cX10_fail : ByteArray := prog_12_method_3_code
def yX10_fail : MethodName := ⟨RX10, "fail", "(I)I"⟩
abbrev cX10_within : ByteArray := prog_12_method_4_code
def yX10_within : MethodName := ⟨RX10, "within", "(III)Z"⟩
abbrev cX10_refuse : ByteArray := prog_12_method_5_code
def yX10_refuse : MethodName := ⟨RX10, "refuse", "(II)I"⟩
abbrev cX10_isThere : ByteArray := prog_12_method_6_code
def yX10_isThere : MethodName := ⟨RX10, "isThere", "(I)Z"⟩
abbrev cX10_isOf : ByteArray := prog_12_method_7_code
def yX10_isOf : MethodName := ⟨RX10, "isOf", "(III)Z"⟩
abbrev cX10_isUsed : ByteArray := prog_12_method_8_code
def yX10_isUsed : MethodName := ⟨RX10, "isUsed", "(I)Z"⟩
abbrev cX10_add : ByteArray := prog_12_method_9_code
def yX10_add : MethodName := ⟨RX10, "add", "(III)I"⟩
abbrev cX10_isFull : ByteArray := prog_12_method_10_code
def yX10_isFull : MethodName := ⟨RX10, "isFull", "(I)Z"⟩
abbrev cX10_machine : ByteArray := prog_12_method_11_code
def yX10_machine : MethodName := ⟨RX10, "machine", "(II)I"⟩
abbrev cX10_program : ByteArray := prog_12_method_12_code
def yX10_program : MethodName := ⟨RX10, "program", "(I)I"⟩
abbrev cX10_word : ByteArray := prog_12_method_13_code
def yX10_word : MethodName := ⟨RX10, "word", "(IIIIII)I"⟩
abbrev cX10_isCore : ByteArray := prog_12_method_14_code
def yX10_isCore : MethodName := ⟨RX10, "isCore", "(IIII)Z"⟩
abbrev cX10_setCore : ByteArray := prog_12_method_15_code
def yX10_setCore : MethodName := ⟨RX10, "setCore", "(IIIII)V"⟩
abbrev cX10_core : ByteArray := prog_12_method_16_code
def yX10_core : MethodName := ⟨RX10, "core", "(IIIII)I"⟩
abbrev cX10_change : ByteArray := prog_12_method_17_code
def yX10_change : MethodName := ⟨RX10, "change", "(IIIII)I"⟩
abbrev cX10_begin : ByteArray := prog_12_method_18_code
def yX10_begin : MethodName := ⟨RX10, "begin", "(I)V"⟩
abbrev cX10_cut : ByteArray := prog_12_method_19_code
def yX10_cut : MethodName := ⟨RX10, "cut", "(IJ)J"⟩
abbrev cX10_modulo : ByteArray := prog_12_method_20_code
def yX10_modulo : MethodName := ⟨RX10, "modulo", "(II)I"⟩
abbrev cX10_wordOf : ByteArray := prog_12_method_21_code
def yX10_wordOf : MethodName := ⟨RX10, "wordOf", "(II)I"⟩
abbrev cX10_goes : ByteArray := prog_12_method_22_code
def yX10_goes : MethodName := ⟨RX10, "goes", "(II)Z"⟩
abbrev cX10_doWord : ByteArray := prog_12_method_23_code
def yX10_doWord : MethodName := ⟨RX10, "doWord", "(II)V"⟩
abbrev cX10_run : ByteArray := prog_12_method_24_code
def yX10_run : MethodName := ⟨RX10, "run", "(I)I"⟩
abbrev cX10_step : ByteArray := prog_12_method_25_code
def yX10_step : MethodName := ⟨RX10, "step", "(II)I"⟩
abbrev cX10_sim : ByteArray := prog_12_method_26_code
def yX10_sim : MethodName := ⟨RX10, "sim", "(II)I"⟩
abbrev cX10_reads : ByteArray := prog_12_method_27_code
def yX10_reads : MethodName := ⟨RX10, "reads", "(I)I"⟩
abbrev cX10_writes : ByteArray := prog_12_method_28_code
def yX10_writes : MethodName := ⟨RX10, "writes", "(I)Z"⟩
abbrev cX10_readyAt : ByteArray := prog_12_method_29_code
def yX10_readyAt : MethodName := ⟨RX10, "readyAt", "(II)I"⟩
abbrev cX10_enter : ByteArray := prog_12_method_30_code
def yX10_enter : MethodName := ⟨RX10, "enter", "(I)V"⟩
abbrev cX10_lose : ByteArray := prog_12_method_31_code
def yX10_lose : MethodName := ⟨RX10, "lose", "(IIZ)V"⟩
abbrev cX10_enterAll : ByteArray := prog_12_method_32_code
def yX10_enterAll : MethodName := ⟨RX10, "enterAll", "(II)V"⟩
abbrev cX10_leaveAll : ByteArray := prog_12_method_33_code
def yX10_leaveAll : MethodName := ⟨RX10, "leaveAll", "(II)V"⟩
abbrev cX10_cycles : ByteArray := prog_12_method_34_code
def yX10_cycles : MethodName := ⟨RX10, "cycles", "(II)I"⟩
abbrev cX10_isRunning : ByteArray := prog_12_method_35_code
def yX10_isRunning : MethodName := ⟨RX10, "isRunning", "(I)Z"⟩
abbrev cX10_state : ByteArray := prog_12_method_36_code
def yX10_state : MethodName := ⟨RX10, "state", "(II)I"⟩
abbrev cX10_programOf : ByteArray := prog_12_method_37_code
def yX10_programOf : MethodName := ⟨RX10, "programOf", "(I)I"⟩
abbrev cX10_number : ByteArray := prog_12_method_38_code
def yX10_number : MethodName := ⟨RX10, "number", "(II)J"⟩
abbrev cX10_agrees : ByteArray := prog_12_method_39_code
def yX10_agrees : MethodName := ⟨RX10, "agrees", "(II)Z"⟩
abbrev cX10_open : ByteArray := prog_12_method_40_code
def yX10_open : MethodName := ⟨RX10, "open", "(I)V"⟩
abbrev cX10_chainOf : ByteArray := prog_12_method_41_code
def yX10_chainOf : MethodName := ⟨RX10, "chainOf", "()I"⟩
abbrev cX10_isKept : ByteArray := prog_12_method_42_code
def yX10_isKept : MethodName := ⟨RX10, "isKept", "(I)Z"⟩
abbrev cX10_keep : ByteArray := prog_12_method_43_code
def yX10_keep : MethodName := ⟨RX10, "keep", "()V"⟩
abbrev cX10_programAt : ByteArray := prog_12_method_44_code
def yX10_programAt : MethodName := ⟨RX10, "programAt", "(II)I"⟩
abbrev cX10_seen : ByteArray := prog_12_method_45_code
def yX10_seen : MethodName := ⟨RX10, "seen", "(II)J"⟩
abbrev cX10_doOf : ByteArray := prog_12_method_46_code
def yX10_doOf : MethodName := ⟨RX10, "doOf", "(II)Z"⟩
abbrev cX10_letGo : ByteArray := prog_12_method_47_code
def yX10_letGo : MethodName := ⟨RX10, "letGo", "(I)Z"⟩
abbrev cX10_isEnd : ByteArray := prog_12_method_48_code
def yX10_isEnd : MethodName := ⟨RX10, "isEnd", "(I)Z"⟩
abbrev cX10_isBefore : ByteArray := prog_12_method_49_code
def yX10_isBefore : MethodName := ⟨RX10, "isBefore", "(II)Z"⟩
abbrev cX10_addEnd : ByteArray := prog_12_method_50_code
def yX10_addEnd : MethodName := ⟨RX10, "addEnd", "(I)V"⟩
abbrev cX10_goFrom : ByteArray := prog_12_method_51_code
def yX10_goFrom : MethodName := ⟨RX10, "goFrom", "(II)V"⟩
abbrev cX10_lookThrough : ByteArray := prog_12_method_52_code
def yX10_lookThrough : MethodName := ⟨RX10, "lookThrough", "(I)V"⟩
abbrev cX10_pair : ByteArray := prog_12_method_53_code
def yX10_pair : MethodName := ⟨RX10, "pair", "(III)I"⟩
abbrev cX10_isSmall : ByteArray := prog_12_method_54_code
def yX10_isSmall : MethodName := ⟨RX10, "isSmall", "(I)Z"⟩
abbrev cX10_explore : ByteArray := prog_12_method_55_code
def yX10_explore : MethodName := ⟨RX10, "explore", "(II)I"⟩
abbrev cX10_end : ByteArray := prog_12_method_56_code
def yX10_end : MethodName := ⟨RX10, "end", "(III)J"⟩
abbrev cX10_drop : ByteArray := prog_12_method_57_code
def yX10_drop : MethodName := ⟨RX10, "drop", "(I)I"⟩
abbrev cX10_kind : ByteArray := prog_12_method_58_code
def yX10_kind : MethodName := ⟨RX10, "kind", "(I)I"⟩
abbrev cX10_rule : ByteArray := prog_12_method_59_code
def yX10_rule : MethodName := ⟨RX10, "rule", "()I"⟩
abbrev cX10_count : ByteArray := prog_12_method_60_code
def yX10_count : MethodName := ⟨RX10, "count", "(I)I"⟩
def RJ9 : String := "java/lang/Math"
def TJ9 : u_T := fun k => match k with
  | _ => ("", "", "", false)
def tyJ9 : Nat → FieldType := fun k => match k with
  | _ => .int
abbrev wsJ90 : List Cond := u_ws RJ9 TJ9 0
theorem nmJ9 : ∀ a, a < 0 → ∀ b, b < 0 → a ≠ b → (TJ9 a).2.1 ≠ (TJ9 b).2.1 := by decide +kernel
theorem tyJ9_ok : ∀ k, k < 0 → parseFieldDescriptor (TJ9 k).2.2.1 = some (tyJ9 k) := by decide +kernel
abbrev cJ9_floorMod_7cf53 : ByteArray := prog_17_method_50_code
def yJ9_floorMod_7cf53 : MethodName := ⟨RJ9, "floorMod", "(II)I"⟩
abbrev cJ9_max_7cf53 : ByteArray := prog_17_method_65_code
def yJ9_max_7cf53 : MethodName := ⟨RJ9, "max", "(II)I"⟩
def RJ0 : String := "java/lang/String"
def TJ0 : u_T := fun k => match k with
  | _ => ("", "", "", false)
def tyJ0 : Nat → FieldType := fun k => match k with
  | _ => .int
abbrev wsJ00 : List Cond := u_ws RJ0 TJ0 0
theorem nmJ0 : ∀ a, a < 0 → ∀ b, b < 0 → a ≠ b → (TJ0 a).2.1 ≠ (TJ0 b).2.1 := by decide +kernel
theorem tyJ0_ok : ∀ k, k < 0 → parseFieldDescriptor (TJ0 k).2.2.1 = some (tyJ0 k) := by decide +kernel
def RJ10 : String := "java/lang/System"
def TJ10 : u_T := fun k => match k with
  | _ => ("", "", "", false)
def tyJ10 : Nat → FieldType := fun k => match k with
  | _ => .int
abbrev wsJ100 : List Cond := u_ws RJ10 TJ10 0
theorem nmJ10 : ∀ a, a < 0 → ∀ b, b < 0 → a ≠ b → (TJ10 a).2.1 ≠ (TJ10 b).2.1 := by decide +kernel
theorem tyJ10_ok : ∀ k, k < 0 → parseFieldDescriptor (TJ10 k).2.2.1 = some (tyJ10 k) := by decide +kernel
def RJ7 : String := "java/util/Arrays"
def TJ7 : u_T := fun k => match k with
  | _ => ("", "", "", false)
def tyJ7 : Nat → FieldType := fun k => match k with
  | _ => .int
abbrev wsJ70 : List Cond := u_ws RJ7 TJ7 0
theorem nmJ7 : ∀ a, a < 0 → ∀ b, b < 0 → a ≠ b → (TJ7 a).2.1 ≠ (TJ7 b).2.1 := by decide +kernel
theorem tyJ7_ok : ∀ k, k < 0 → parseFieldDescriptor (TJ7 k).2.2.1 = some (tyJ7 k) := by decide +kernel
abbrev cJ7_fill_d0a16 : ByteArray := prog_23_method_101_code
def yJ7_fill_d0a16 : MethodName := ⟨RJ7, "fill", "([JJ)V"⟩
abbrev cJ7_fill_53178 : ByteArray := prog_23_method_103_code
def yJ7_fill_53178 : MethodName := ⟨RJ7, "fill", "([II)V"⟩
def RL : String := "ProcessorHouseLaw"
abbrev cL_machine : ByteArray := method_3_code
def yL_machine : MethodName := ⟨RL, "machine", "(LProcessorHouse;II[J)I"⟩
abbrev cL_program : ByteArray := method_4_code
def yL_program : MethodName := ⟨RL, "program", "(LProcessorHouse;I[J)I"⟩
abbrev cL_word : ByteArray := method_5_code
def yL_word : MethodName := ⟨RL, "word", "(LProcessorHouse;IIIIII[J)I"⟩
abbrev cL_run : ByteArray := method_6_code
def yL_run : MethodName := ⟨RL, "run", "(LProcessorHouse;I[J)I"⟩
abbrev cL_step : ByteArray := method_7_code
def yL_step : MethodName := ⟨RL, "step", "(LProcessorHouse;II[J)I"⟩
abbrev cL_core : ByteArray := method_8_code
def yL_core : MethodName := ⟨RL, "core", "(LProcessorHouse;IIIII[J)I"⟩
abbrev cL_change : ByteArray := method_9_code
def yL_change : MethodName := ⟨RL, "change", "(LProcessorHouse;IIIII[J)I"⟩
abbrev cL_sim : ByteArray := method_10_code
def yL_sim : MethodName := ⟨RL, "sim", "(LProcessorHouse;II[J)I"⟩
abbrev cL_cycles : ByteArray := method_11_code
def yL_cycles : MethodName := ⟨RL, "cycles", "(LProcessorHouse;II[J)I"⟩
abbrev cL_state : ByteArray := method_12_code
def yL_state : MethodName := ⟨RL, "state", "(LProcessorHouse;II[J)I"⟩
abbrev cL_number : ByteArray := method_13_code
def yL_number : MethodName := ⟨RL, "number", "(LProcessorHouse;II[J)I"⟩
abbrev cL_agrees : ByteArray := method_14_code
def yL_agrees : MethodName := ⟨RL, "agrees", "(LProcessorHouse;II[J)I"⟩
abbrev cL_pair : ByteArray := method_15_code
def yL_pair : MethodName := ⟨RL, "pair", "(LProcessorHouse;III[J)I"⟩
abbrev cL_explore : ByteArray := method_16_code
def yL_explore : MethodName := ⟨RL, "explore", "(LProcessorHouse;II[J)I"⟩
abbrev cL_end : ByteArray := method_17_code
def yL_end : MethodName := ⟨RL, "end", "(LProcessorHouse;III[J)I"⟩
abbrev cL_drop : ByteArray := method_18_code
def yL_drop : MethodName := ⟨RL, "drop", "(LProcessorHouse;I[J)I"⟩
abbrev cL_law : ByteArray := code
def yL_law : MethodName := ⟨RL, "law", "([I)Z"⟩
def wsX7_init : List Cond := .code yX7_init cX7_init 2 none :: ([.methodLink RX7 1 objectInit, .instanceMethod objectInit, .code objectInit ⟨#[0xb1]⟩ 1 none, .fieldLink RX7 7 "ProcessorHouse$Thing" "kindNumber" "I"] ++ wsX00 ++ wsX20 ++ wsX30 ++ wsX40 ++ wsX50 ++ wsX60)
end
section
/-! THE LITTLE MACHINE: a heap of typed things by address, frames of known locals, the instructions that the system uses. What it computes, the machine does (05 and behind). -/
/-- a thing: its tag (a class's number in zcl below 90; 99 the script; 100 int, 101 long, 102 boolean, 103 Thing, 104 Word arrays), its length, its contents -/
abbrev zO : Type := Nat × Nat × (Nat → Value)
abbrev zH : Type := Nat → Option zO
/-- heap, its size, the slots made so far -/
abbrev zS : Type := zH × Nat × Nat
abbrev zL : Type := List (Option Value)
/-- what an instruction's index stands for: two numbers and a list -/
abbrev zX : Type := Nat × Nat × List Nat
abbrev zN : Type := Nat × zL × List Value × zS
def z_up (h : zH) (a : Nat) (o : zO) : zH := fun b => if b = a then some o else h b
def z_uf (f : Nat → Value) (k : Nat) (v : Value) : Nat → Value := fun j => if j = k then v else f j
def z_two : Option Value → Bool
  | some (.long _) => true
  | some (.double _) => true
  | _ => false
/-- the place ahead of i is no long's any more -/
def z_kill (L : zL) (i : Nat) : zL := match i with
  | 0 => L
  | j + 1 => match L[j]? with
    | some w => if z_two w then L.set j none else L
    | none => L
def z_set1 (L : zL) (i : Nat) (v : Value) : zL := (z_kill L i).set i (some v)
def z_set2 (L : zL) (i : Nat) (v : Value) : zL := ((z_kill L i).set (i + 1) none).set i (some v)
/-- locals at a method's entry -/
def z_ent : List Value → zL
  | [] => []
  | v :: vs => if v.category = 2 then some v :: none :: z_ent vs else some v :: z_ent vs
def z_ini (n : Nat) (A : List Value) : zL := z_ent A ++ List.replicate (n - (z_ent A).length) none
def z_ldi (L : zL) (j : Nat) : Option Value := match L[j]? with
  | some (some (.int v)) => some (.int v)
  | _ => none
def z_ldl (L : zL) (j : Nat) : Option Value := match L[j]? with
  | some (some (.long v)) => some (.long v)
  | _ => none
def z_lda (L : zL) (j : Nat) : Option Value := match L[j]? with
  | some (some (.ref v)) => some (.ref v)
  | some (some .null) => some .null
  | _ => none
def z_psh (pc : Nat) (L : zL) (S : List Value) (s : zS) (r : Option Value) : Option zN := match r with
  | some v => some (pc, L, v :: S, s)
  | none => none
def z_sti (pc : Nat) (L : zL) (S : List Value) (s : zS) (j : Nat) : Option zN := match S with
  | .int v :: r => if j < L.length then some (pc, z_set1 L j (.int v), r, s) else none
  | _ => none
def z_stl (pc : Nat) (L : zL) (S : List Value) (s : zS) (j : Nat) : Option zN := match S with
  | .long v :: r => if j + 1 < L.length then some (pc, z_set2 L j (.long v), r, s) else none
  | _ => none
def z_sta (pc : Nat) (L : zL) (S : List Value) (s : zS) (j : Nat) : Option zN := match S with
  | .ref v :: r => if j < L.length then some (pc, z_set1 L j (.ref v), r, s) else none
  | .null :: r => if j < L.length then some (pc, z_set1 L j .null, r, s) else none
  | _ => none
def z_bi (pc : Nat) (L : zL) (S : List Value) (s : zS) (f : Int32 → Int32 → Int32) : Option zN := match S with
  | .int y :: .int x :: r => some (pc, L, .int (f x y) :: r, s)
  | _ => none
def z_bl (pc : Nat) (L : zL) (S : List Value) (s : zS) (f : Int64 → Int64 → Int64) : Option zN := match S with
  | .long y :: .long x :: r => some (pc, L, .long (f x y) :: r, s)
  | _ => none
def z_sl (pc : Nat) (L : zL) (S : List Value) (s : zS) (f : Int64 → Int32 → Int64) : Option zN := match S with
  | .int y :: .long x :: r => some (pc, L, .long (f x y) :: r, s)
  | _ => none
def z_cc (c : Jvm.ClassFile.Cond) (x y : Int32) : Bool := match c with
  | .eq => decide (x = y)
  | .ne => !decide (x = y)
  | .lt => decide (x < y)
  | .ge => decide (y ≤ x)
  | .gt => decide (y < x)
  | .le => decide (x ≤ y)
def z_to (pc : Nat) (o : Int) (L : zL) (S : List Value) (s : zS) : Option zN := if 0 ≤ (pc : Int) + o then some (((pc : Int) + o).toNat, L, S, s) else none
def z_br (b : Bool) (pc len : Nat) (o : Int) (L : zL) (S : List Value) (s : zS) : Option zN := if b then z_to pc o L S s else some (pc + len, L, S, s)
/-- the classes of the things, by their numbers -/
abbrev zcl : List vw_C := [(RX0, TX0, 6), (RX1, TX1, 10), (RX2, TX2, 3), (RX3, TX3, 10), (RX4, TX4, 4), (RX5, TX5, 7), (RX6, TX6, 11), (RX8, TX8, 5), (RX9, TX9, 4), (RX10, TX10, 42)]
def zty : Nat → Nat → FieldType := fun c => match c with
  | 0 => tyX0
  | 1 => tyX1
  | 2 => tyX2
  | 3 => tyX3
  | 4 => tyX4
  | 5 => tyX5
  | 6 => tyX6
  | 7 => tyX8
  | 8 => tyX9
  | _ => tyX10
/-- the things of a house -/
abbrev zth : List Nat := [0, 2, 3, 4, 5, 6]
def zaty : Nat → FieldType := fun t => match t with
  | 99 => .int
  | 100 => .int
  | 101 => .long
  | 102 => .boolean
  | 103 => .object "ProcessorHouse$Thing"
  | _ => .object "ProcessorHouse$Word"
def z_get (tags : List Nat) (k : Nat) (h : zH) (a : Nat) : Option Value := match h a with
  | some o => if o.1 ∈ tags then some (o.2.2 k) else none
  | none => none
def z_put (tags : List Nat) (k : Nat) (s : zS) (a : Nat) (v : Value) : Option zS := match s.1 a with
  | some o => if o.1 ∈ tags ∧ narrow (zty o.1 k) v = v ∧ fits (zty o.1 k) v = true then some (z_up s.1 a (o.1, o.2.1, z_uf o.2.2 k v), s.2) else none
  | none => none
/-- an array's place: the tags that may be, the length -/
def z_at (tags : List Nat) (h : zH) (a : Nat) (i : Int32) : Option Value := match h a with
  | some o => if o.1 ∈ tags ∧ ¬ (i < 0 ∨ o.2.1 ≤ i.toNatClampNeg) then some (o.2.2 i.toNatClampNeg) else none
  | none => none
def z_st (tag : Nat) (s : zS) (a : Nat) (i : Int32) (v : Value) : Option zS := match s.1 a with
  | some o => if o.1 = tag ∧ ¬ (i < 0 ∨ o.2.1 ≤ i.toNatClampNeg) then some (z_up s.1 a (o.1, o.2.1, z_uf o.2.2 i.toNatClampNeg v), s.2) else none
  | none => none
/-- what may be put into an array of references: nothing, or a thing of the right classes -/
def z_may (tag : Nat) (h : zH) (v : Value) : Bool := match v with
  | .null => true
  | .ref b => match h b with
    | some o => if tag = 103 then decide (o.1 ∈ zth) else decide (o.1 = 7)
    | none => false
  | _ => false
def z_ast (s : zS) (a : Nat) (i : Int32) (v : Value) : Option zS := match s.1 a with
  | some o => if (o.1 = 103 ∨ o.1 = 104) ∧ z_may o.1 s.1 v = true then z_st o.1 s a i v else none
  | none => none
def z_len (h : zH) (a : Nat) : Option Value := match h a with
  | some o => if 99 ≤ o.1 ∧ o.1 ≤ 104 then some (.int o.2.1.toInt32) else none
  | none => none
def z_new (tag n : Nat) (f : Nat → Value) (s : zS) : zS := (z_up s.1 s.2.1 (tag, n, f), s.2.1 + 1, s.2.2 + n)
def z_nwa (tag : Nat) (d : Value) (b : Nat) (pc : Nat) (L : zL) (S : List Value) (s : zS) : Option zN := match S with
  | .int n :: r => if ¬ n < 0 ∧ n.toNatClampNeg * b ≤ 536870912 then some (pc, L, .ref s.2.1 :: r, z_new tag n.toNatClampNeg (fun _ => d) s) else none
  | _ => none
def z_aty (t : ArrayType) : Option (Nat × Value × Nat) := match t with
  | .int => some (100, .int 0, componentBytes .int)
  | .long => some (101, .long 0, componentBytes .long)
  | .boolean => some (102, .int 0, componentBytes .boolean)
  | _ => none
/-- the weight of what stays on the stack -/
def z_w (S : List Value) : Prop := (S.map fun v => v.category).sum ≤ 8
theorem z_w_dec (S : List Value) : z_w S ↔ ((S.map fun v => v.category).sum ≤ 8) := Iff.rfl
def z_wb (S : List Value) : Bool := decide ((S.map fun v => v.category).sum ≤ 8)
def z_cpy (s : zS) (a0 : Nat) (sp : Int32) (a1 : Nat) (dp n : Int32) : Option zS := match s.1 a0, s.1 a1 with
  | some o0, some o1 => if o0.1 = 101 ∧ o1.1 = 101 ∧ ¬ sp < 0 ∧ ¬ dp < 0 ∧ ¬ n < 0 ∧ sp.toNatClampNeg + n.toNatClampNeg ≤ o0.2.1 ∧ dp.toNatClampNeg + n.toNatClampNeg ≤ o1.2.1
      ∧ (∀ i, i < n.toNatClampNeg → fits .long (o0.2.2 (sp.toNatClampNeg + i)) = true) then some (z_up s.1 a1 (101, o1.2.1, va_cpy o0.2.2 o1.2.2 sp.toNatClampNeg dp.toNatClampNeg n.toNatClampNeg), s.2) else none
  | _, _ => none
/-- the instructions that go on within the frame -/
def z_nx (i : Instr) (x : zX) (pc len : Nat) (L : zL) (S : List Value) (s : zS) : Option zN := match i with
  | .iconst n => some (pc + len, L, .int (Int32.ofInt n) :: S, s)
  | .bipush n => some (pc + len, L, .int (Int8.ofInt n).toInt32 :: S, s)
  | .sipush n => some (pc + len, L, .int (Int16.ofInt n).toInt32 :: S, s)
  | .lconst n => some (pc + len, L, .long (Int64.ofNat (n : Nat)) :: S, s)
  | .ldc _ => if x.2.2 = [] then some (pc + len, L, .int (Int32.ofNat x.1) :: S, s) else none
  | .ldc2_w _ => some (pc + len, L, .long (Int64.ofNat x.1) :: S, s)
  | .aconst_null => some (pc + len, L, .null :: S, s)
  | .iload_n j => z_psh (pc + len) L S s (z_ldi L j)
  | .iload j => z_psh (pc + len) L S s (z_ldi L j)
  | .lload_n j => z_psh (pc + len) L S s (z_ldl L j)
  | .lload j => z_psh (pc + len) L S s (z_ldl L j)
  | .aload_n j => z_psh (pc + len) L S s (z_lda L j)
  | .aload j => z_psh (pc + len) L S s (z_lda L j)
  | .istore_n j => z_sti (pc + len) L S s j
  | .istore j => z_sti (pc + len) L S s j
  | .lstore_n j => z_stl (pc + len) L S s j
  | .lstore j => z_stl (pc + len) L S s j
  | .astore_n j => z_sta (pc + len) L S s j
  | .astore j => z_sta (pc + len) L S s j
  | .iinc j n => match z_ldi L j with
    | some (.int v) => if len = 3 ∧ j < L.length then some (pc + len, z_set1 L j (.int (v + Int32.ofInt n)), S, s) else none
    | _ => none
  | .iadd => z_bi (pc + len) L S s (fun x y => x + y)
  | .isub => z_bi (pc + len) L S s (fun x y => x - y)
  | .imul => z_bi (pc + len) L S s (fun x y => x * y)
  | .iand => z_bi (pc + len) L S s (fun x y => x &&& y)
  | .ixor => z_bi (pc + len) L S s (fun x y => x ^^^ y)
  | .irem => match S with
    | .int y :: .int x :: r => if y = 0 then none else some (pc + len, L, .int (x - x / y * y) :: r, s)
    | _ => none
  | .ladd => z_bl (pc + len) L S s (fun x y => x + y)
  | .lsub => z_bl (pc + len) L S s (fun x y => x - y)
  | .lmul => z_bl (pc + len) L S s (fun x y => x * y)
  | .land => z_bl (pc + len) L S s (fun x y => x &&& y)
  | .lxor => z_bl (pc + len) L S s (fun x y => x ^^^ y)
  | .lrem => match S with
    | .long y :: .long x :: r => if y = 0 then none else some (pc + len, L, .long (x - x / y * y) :: r, s)
    | _ => none
  | .lshl => z_sl (pc + len) L S s (fun x y => x <<< (y.toInt64 &&& 63))
  | .lushr => z_sl (pc + len) L S s (fun x y => (x.toUInt64 >>> (y.toInt64.toUInt64 &&& Int64.toUInt64 63)).toInt64)
  | .i2l => match S with
    | .int x :: r => some (pc + len, L, .long x.toInt64 :: r, s)
    | _ => none
  | .l2i => match S with
    | .long x :: r => some (pc + len, L, .int x.toInt32 :: r, s)
    | _ => none
  | .lcmp => match S with
    | .long y :: .long x :: r => some (pc + len, L, .int (lg_cmp x y) :: r, s)
    | _ => none
  | .dup => match S with
    | v :: r => if v.category = 1 then some (pc + len, L, v :: v :: r, s) else none
    | _ => none
  | .pop => match S with
    | v :: r => if v.category = 1 then some (pc + len, L, r, s) else none
    | _ => none
  | .dup2 => match S with
    | v :: w :: r => if v.category = 1 ∧ w.category = 1 then some (pc + len, L, v :: w :: v :: w :: r, s) else none
    | _ => none
  | .ifCond c o => match S with
    | .int v :: r => z_br (z_cc c v 0) pc len o L r s
    | _ => none
  | .if_icmp c o => match S with
    | .int w :: .int v :: r => z_br (z_cc c v w) pc len o L r s
    | _ => none
  | .if_acmp c o => match S with
    | w :: v :: r => if v.isRef = true ∧ w.isRef = true then z_br (match c with | .eq => decide (v = w) | .ne => !decide (v = w)) pc len o L r s else none
    | _ => none
  | .ifnull o => match S with
    | .ref _ :: r => some (pc + len, L, r, s)
    | .null :: r => z_to pc o L r s
    | _ => none
  | .ifnonnull o => match S with
    | .ref _ :: r => z_to pc o L r s
    | .null :: r => some (pc + len, L, r, s)
    | _ => none
  | .goto o => z_to pc o L S s
  | .tableswitch d lo hi os => match S with
    | .int v :: r => if v.toInt < lo ∨ hi < v.toInt then z_to pc d L r s else match os[(v.toInt - lo).toNat]? with
      | some o => z_to pc o L r s
      | none => none
    | _ => none
  | .getfield _ => match S with
    | .ref a :: r => z_psh (pc + len) L r s (z_get x.2.2 x.1 s.1 a)
    | _ => none
  | .putfield _ => match S with
    | v :: .ref a :: r => match z_put x.2.2 x.1 s a v with
      | some s' => some (pc + len, L, r, s')
      | none => none
    | _ => none
  | .iaload => match S with
    | .int j :: .ref a :: r => z_psh (pc + len) L r s (z_at [99, 100] s.1 a j)
    | _ => none
  | .laload => match S with
    | .int j :: .ref a :: r => z_psh (pc + len) L r s (z_at [101] s.1 a j)
    | _ => none
  | .baload => match S with
    | .int j :: .ref a :: r => z_psh (pc + len) L r s (z_at [102] s.1 a j)
    | _ => none
  | .aaload => match S with
    | .int j :: .ref a :: r => z_psh (pc + len) L r s (z_at [103, 104] s.1 a j)
    | _ => none
  | .iastore => match S with
    | .int v :: .int j :: .ref a :: r => match z_st 100 s a j (.int v) with
      | some s' => some (pc + len, L, r, s')
      | none => none
    | _ => none
  | .lastore => match S with
    | .long v :: .int j :: .ref a :: r => match z_st 101 s a j (.long v) with
      | some s' => some (pc + len, L, r, s')
      | none => none
    | _ => none
  | .bastore => match S with
    | .int v :: .int j :: .ref a :: r => match z_st 102 s a j (narrow .boolean (.int v)) with
      | some s' => some (pc + len, L, r, s')
      | none => none
    | _ => none
  | .aastore => match S with
    | v :: .int j :: .ref a :: r => match z_ast s a j v with
      | some s' => some (pc + len, L, r, s')
      | none => none
    | _ => none
  | .arraylength => match S with
    | .ref a :: r => z_psh (pc + len) L r s (z_len s.1 a)
    | _ => none
  | .new _ => if x.1 < 90 then match zcl[x.1]? with
      | some q => some (pc + len, L, .ref s.2.1 :: S, z_new x.1 q.2.2 (fun k => defaultValue (zty x.1 k)) s)
      | none => none
    else none
  | .newarray t => match z_aty t with
    | some q => z_nwa q.1 q.2.1 q.2.2 (pc + len) L S s
    | none => none
  | .anewarray _ => if x.1 = 103 ∨ x.1 = 104 then z_nwa x.1 .null 4 (pc + len) L S s else none
  | .checkcast _ => match S with
    | .ref a :: r => match s.1 a with
      | some o => if o.1 = x.1 ∧ o.1 ∈ zth then some (pc + len, L, .ref a :: r, s) else none
      | none => none
    | .null :: r => some (pc + len, L, .null :: r, s)
    | _ => none
  | .instanceof _ => match S with
    | .ref a :: r => match s.1 a with
      | some o => if o.1 ∈ zth then some (pc + len, L, .int (if o.1 = x.1 then 1 else 0) :: r, s) else none
      | none => none
    | .null :: r => some (pc + len, L, .int 0 :: r, s)
    | _ => none
  | .invokespecial _ => if x.2.1 = 7 then match S with
      | .ref _ :: r => if z_wb r = true then some (pc + len, L, r, s) else none
      | _ => none
    else none
  | .invokestatic _ => if x.2.1 = 8 then match S with
      | .int n :: .int dp :: .ref a1 :: .int sp :: .ref a0 :: r => if z_wb r = true then match z_cpy s a0 sp a1 dp n with
          | some s' => some (pc + len, L, r, s')
          | none => none
        else none
      | _ => none
    else none
  | _ => none
end
section
/-- a method: name, bytes, locals, answer, the rows of its table, the exceptions that they name, its code, the frames and words that it needs above its own -/
abbrev zM : Type := MethodName × ByteArray × Nat × Option FieldType × List (Nat × Nat × Nat × Nat) × List Nat × List (Nat × Instr × Nat × zX) × Nat × Nat
abbrev zm_y (M : zM) : MethodName := M.1
abbrev zm_b (M : zM) : ByteArray := M.2.1
abbrev zm_n (M : zM) : Nat := M.2.2.1
abbrev zm_r (M : zM) : Option FieldType := M.2.2.2.1
abbrev zm_h (M : zM) : List (Nat × Nat × Nat × Nat) := M.2.2.2.2.1
abbrev zm_e (M : zM) : List Nat := M.2.2.2.2.2.1
abbrev zm_c (M : zM) : List (Nat × Instr × Nat × zX) := M.2.2.2.2.2.2.1
abbrev zm_f (M : zM) : Nat := M.2.2.2.2.2.2.2.1
abbrev zm_w (M : zM) : Nat := M.2.2.2.2.2.2.2.2
def z_ftc (C : List (Nat × Instr × Nat × zX)) (pc : Nat) : Option (Instr × Nat × zX) := match C with
  | [] => none
  | e :: C' => if e.1 = pc then some e.2 else z_ftc C' pc
def z_ft (P : List zM) (k pc : Nat) : Option (Instr × Nat × zX) := match P[k]? with
  | some M => z_ftc (zm_c M) pc
  | none => none
/-- an answer -/
def z_rt (r : Option FieldType) (i : Instr) (S : List Value) : Option (Option Value) := match i with
  | .ireturn => match S, r with
    | [.int v], some ty => if narrow ty (.int v) = .int v then some (some (.int v)) else none
    | _, _ => none
  | .lreturn => match S, r with
    | [.long v], some .long => some (some (.long v))
    | _, _ => none
  | .areturn => match S, r with
    | [v], some (.object _) => if v.isRef = true then some (some v) else none
    | [v], some (.array _) => if v.isRef = true then some (some v) else none
    | _, _ => none
  | .return_ => match S, r with
    | [], none => some none
    | _, _ => none
  | _ => none
/-- 'throw new E(text)' -/
def z_th (i : Instr) (x : zX) (S : List Value) (s : zS) : Option (Nat × zS) := match i with
  | .new _ => if 100 ≤ x.1 ∧ z_wb S = true then some (x.1 - 100, s.1, s.2.1 + 1, s.2.2 + 6) else none
  | _ => none
/-- a call: the method's number, its arguments, what stays on the stack -/
def z_cl (i : Instr) (x : zX) (S : List Value) (s : zS) : Option (Nat × List Value × List Value) := match i with
  | .invokevirtual _ => match x.2.2 with
    | n :: t => match S.drop n with
      | .ref b :: r => match s.1 b with
        | some o => if z_wb r = true then (if x.2.1 = 0 then (if t = [o.1] then some (x.1, .ref b :: (S.take n).reverse, r) else none)
            else if x.2.1 = 1 ∧ o.1 ∈ zth then match t[o.1]? with
              | some m => some (m, .ref b :: (S.take n).reverse, r)
              | none => none
            else none) else none
        | none => none
      | _ => none
    | _ => none
  | .invokestatic _ => match x.2.2 with
    | [n] => if (x.2.1 = 2 ∨ x.2.1 = 4 ∨ x.2.1 = 6) ∧ n ≤ S.length ∧ z_wb (S.drop n) = true then some (x.1, (S.take n).reverse, S.drop n) else none
    | _ => none
  | .invokespecial _ => match x.2.2 with
    | [n] => match S.drop n with
      | .ref b :: r => if (x.2.1 = 3 ∨ x.2.1 = 5) ∧ z_wb r = true then some (x.1, .ref b :: (S.take n).reverse, r) else none
      | _ => none
    | _ => none
  | _ => none
/-- the row of a table that takes the exception e at pc -/
def z_row (H : List (Nat × Nat × Nat × Nat)) (E : List Nat) (pc e : Nat) : Option Nat := match H, E with
  | h :: H', q :: E' => if h.1 ≤ pc ∧ pc < h.2.1 ∧ q = e then some h.2.2.1 else z_row H' E' pc e
  | _, _ => none
/-- behind a catch: the exception is put away, its place is not known any more -/
def z_put1 (i : Instr × Nat × zX) (pc : Nat) (L : zL) : Option (Nat × zL) := match i.1 with
  | .astore_n j => if (j : Nat) < L.length ∧ i.2.1 = 1 then some (pc + 1, (z_kill L j).set j none) else none
  | .astore j => if j < L.length ∧ i.2.1 = 2 then some (pc + 2, (z_kill L j).set j none) else none
  | _ => none
abbrev zU : Type := Option Value ⊕ Nat
def z_rn (P : List zM) : Nat → Nat → Nat → zL → List Value → zS → Option (zU × zS)
  | 0, _, _, _, _, _ => none
  | n + 1, k, pc, L, S, s => match P[k]? with
    | none => none
    | some M => match z_ftc (zm_c M) pc with
      | none => none
      | some q => match z_nx q.1 q.2.2 pc q.2.1 L S s with
        | some t => z_rn P n k t.1 t.2.1 t.2.2.1 t.2.2.2
        | none => match z_rt (zm_r M) q.1 S with
          | some v => some (.inl v, s)
          | none => match z_th q.1 q.2.2 S s with
            | some t => if zm_h M = [] then some (.inr t.1, t.2) else none
            | none => match z_cl q.1 q.2.2 S s with
              | none => none
              | some c => match P[c.1]? with
                | none => none
                | some N => if (z_ent c.2.1).length ≤ zm_n N then match z_rn P n c.1 0 (z_ini (zm_n N) c.2.1) [] s with
                    | none => none
                    | some (.inl v, s') => z_rn P n k (pc + q.2.1) L (v.toList ++ c.2.2) s'
                    | some (.inr e, s') => if zm_h M = [] then some (.inr e, s') else match z_row (zm_h M) (zm_e M) pc e with
                      | none => none
                      | some h => match z_ftc (zm_c M) h with
                        | none => none
                        | some q' => match z_put1 q' h L with
                          | none => none
                          | some t => z_rn P n k t.1 t.2 [] s'
                  else none
/-- it comes to an end where Q holds -/
def z_go (P : List zM) (k pc : Nat) (L : zL) (S : List Value) (s : zS) (Q : zU → zS → Prop) : Prop := ∃ n o t, z_rn P n k pc L S s = some (o, t) ∧ Q o t
theorem z_rn_mono (P : List zM) : ∀ (n k pc : Nat) (L : zL) (S : List Value) (s : zS) (r : zU × zS), z_rn P n k pc L S s = some r → z_rn P (n + 1) k pc L S s = some r := by
  intro n
  induction n with
  | zero => intro k pc L S s r h; simp [z_rn] at h
  | succ n ih =>
    intro k pc L S s r h
    rw [z_rn] at h ⊢
    cases hM : P[k]? with
    | none => rw [hM] at h; simp at h
    | some M =>
      rw [hM] at h
      simp only at h ⊢
      cases hq : z_ftc (zm_c M) pc with
      | none => rw [hq] at h; simp at h
      | some q =>
        rw [hq] at h
        simp only at h ⊢
        cases hx : z_nx q.1 q.2.2 pc q.2.1 L S s with
        | some t => rw [hx] at h; simp only at h ⊢; exact ih _ _ _ _ _ _ h
        | none =>
          rw [hx] at h
          simp only at h ⊢
          cases hr : z_rt (zm_r M) q.1 S with
          | some v => rw [hr] at h; simpa using h
          | none =>
            rw [hr] at h
            simp only at h ⊢
            cases ht : z_th q.1 q.2.2 S s with
            | some t => rw [ht] at h; simpa using h
            | none =>
              rw [ht] at h
              simp only at h ⊢
              cases hc : z_cl q.1 q.2.2 S s with
              | none => rw [hc] at h; simp at h
              | some c =>
                rw [hc] at h
                simp only at h ⊢
                cases hN : P[c.1]? with
                | none => rw [hN] at h; simp at h
                | some N =>
                  rw [hN] at h
                  simp only at h ⊢
                  split at h
                  next hle =>
                    rw [if_pos hle]
                    cases hb : z_rn P n c.1 0 (z_ini (zm_n N) c.2.1) [] s with
                    | none => rw [hb] at h; simp at h
                    | some w =>
                      rw [ih _ _ _ _ _ _ hb]
                      rw [hb] at h
                      obtain ⟨o, s'⟩ := w
                      cases o with
                      | inl v => simp only at h ⊢; exact ih _ _ _ _ _ _ h
                      | inr e =>
                        simp only at h ⊢
                        split at h
                        next hh => rw [if_pos hh]; exact h
                        next hh =>
                          rw [if_neg hh]
                          cases hro : z_row (zm_h M) (zm_e M) pc e with
                          | none => rw [hro] at h; simp at h
                          | some g =>
                            rw [hro] at h
                            simp only at h ⊢
                            cases hq' : z_ftc (zm_c M) g with
                            | none => rw [hq'] at h; simp at h
                            | some q' =>
                              rw [hq'] at h
                              simp only at h ⊢
                              cases hp : z_put1 q' g L with
                              | none => rw [hp] at h; simp at h
                              | some t => rw [hp] at h; simp only at h ⊢; exact ih _ _ _ _ _ _ h
                  next hle => simp at h
theorem z_rn_le (P : List zM) {n m : Nat} (hnm : n ≤ m) {k pc : Nat} {L : zL} {S : List Value} {s : zS} {r : zU × zS} (h : z_rn P n k pc L S s = some r) : z_rn P m k pc L S s = some r := by
  induction hnm with
  | refl => exact h
  | step _ ih => exact z_rn_mono P _ _ _ _ _ _ _ ih
end
