section
-- ===== PART A: goes FIRST, ahead of the names: the tables' words, and 'selects' of the private methods out of them =====
/-- a private method of a class that the tables say can be made, by its rows of tables_1 -/
def lw_okq (q : MethodName × Nat) : Prop := (q.1.cls ≠ "java/lang/invoke/MethodHandle" ∧ q.1.cls ≠ "java/lang/invoke/VarHandle") ∧ Cond.instantiable q.1.cls q.2 ∈ tables_1 ∧ Cond.privateMethod q.1 ∈ tables_1 ∧ Cond.instanceMethod q.1 ∈ tables_1
theorem lw_p0 : lw_okq (⟨"SerialBus$Wiring", "findBuses", "()V"⟩, 3) := ⟨⟨by decide +kernel, by decide +kernel⟩, List.mem_of_getElem? (i := 26) (by decide +kernel), List.mem_of_getElem? (i := 35) (by decide +kernel), List.mem_of_getElem? (i := 36) (by decide +kernel)⟩
theorem lw_p1 : lw_okq (⟨"SerialBus", "loopedBuses", "()I"⟩, 9) := ⟨⟨by decide +kernel, by decide +kernel⟩, List.mem_of_getElem? (i := 18) (by decide +kernel), List.mem_of_getElem? (i := 201) (by decide +kernel), List.mem_of_getElem? (i := 202) (by decide +kernel)⟩
theorem lw_p2 : lw_okq (⟨"SerialBus", "isDirty", "(I)Z"⟩, 9) := ⟨⟨by decide +kernel, by decide +kernel⟩, List.mem_of_getElem? (i := 18) (by decide +kernel), List.mem_of_getElem? (i := 206) (by decide +kernel), List.mem_of_getElem? (i := 207) (by decide +kernel)⟩
theorem lw_p3 : lw_okq (⟨"java/lang/Throwable", "fillInStackTrace", "(I)Ljava/lang/Throwable;"⟩, 6) := ⟨⟨by decide +kernel, by decide +kernel⟩, List.mem_of_getElem? (i := 266) (by decide +kernel), List.mem_of_getElem? (i := 264) (by decide +kernel), List.mem_of_getElem? (i := 265) (by decide +kernel)⟩
theorem lw_p4 : lw_okq (⟨"SerialBus$Node", "waits", "(I)Z"⟩, 17) := ⟨⟨by decide +kernel, by decide +kernel⟩, List.mem_of_getElem? (i := 70) (by decide +kernel), List.mem_of_getElem? (i := 377) (by decide +kernel), List.mem_of_getElem? (i := 378) (by decide +kernel)⟩
theorem lw_p5 : lw_okq (⟨"SerialBus", "runBus", "(I)V"⟩, 9) := ⟨⟨by decide +kernel, by decide +kernel⟩, List.mem_of_getElem? (i := 18) (by decide +kernel), List.mem_of_getElem? (i := 476) (by decide +kernel), List.mem_of_getElem? (i := 477) (by decide +kernel)⟩
theorem lw_p6 : lw_okq (⟨"SerialBus", "resetBus", "(I)V"⟩, 9) := ⟨⟨by decide +kernel, by decide +kernel⟩, List.mem_of_getElem? (i := 18) (by decide +kernel), List.mem_of_getElem? (i := 480) (by decide +kernel), List.mem_of_getElem? (i := 481) (by decide +kernel)⟩
theorem lw_p7 : lw_okq (⟨"SerialBus$Tree", "openCables", "(LSerialBus$Wiring;I)V"⟩, 2) := ⟨⟨by decide +kernel, by decide +kernel⟩, List.mem_of_getElem? (i := 55) (by decide +kernel), List.mem_of_getElem? (i := 500) (by decide +kernel), List.mem_of_getElem? (i := 501) (by decide +kernel)⟩
theorem lw_p8 : lw_okq (⟨"SerialBus$Tree", "someCableIsOpen", "()Z"⟩, 2) := ⟨⟨by decide +kernel, by decide +kernel⟩, List.mem_of_getElem? (i := 55) (by decide +kernel), List.mem_of_getElem? (i := 505) (by decide +kernel), List.mem_of_getElem? (i := 506) (by decide +kernel)⟩
theorem lw_p9 : lw_okq (⟨"SerialBus$Tree", "chooseAskers", "([LSerialBus$Node;I)V"⟩, 2) := ⟨⟨by decide +kernel, by decide +kernel⟩, List.mem_of_getElem? (i := 55) (by decide +kernel), List.mem_of_getElem? (i := 509) (by decide +kernel), List.mem_of_getElem? (i := 510) (by decide +kernel)⟩
theorem lw_p10 : lw_okq (⟨"SerialBus$Tree", "onlyOpenSocket", "(I)I"⟩, 2) := ⟨⟨by decide +kernel, by decide +kernel⟩, List.mem_of_getElem? (i := 55) (by decide +kernel), List.mem_of_getElem? (i := 513) (by decide +kernel), List.mem_of_getElem? (i := 514) (by decide +kernel)⟩
theorem lw_p11 : lw_okq (⟨"SerialBus$Tree", "closeAskedCables", "(LSerialBus$Wiring;[LSerialBus$Node;)V"⟩, 2) := ⟨⟨by decide +kernel, by decide +kernel⟩, List.mem_of_getElem? (i := 55) (by decide +kernel), List.mem_of_getElem? (i := 517) (by decide +kernel), List.mem_of_getElem? (i := 518) (by decide +kernel)⟩
theorem lw_p12 : lw_okq (⟨"SerialBus$Tree", "close", "(LSerialBus$Node;III)V"⟩, 2) := ⟨⟨by decide +kernel, by decide +kernel⟩, List.mem_of_getElem? (i := 55) (by decide +kernel), List.mem_of_getElem? (i := 521) (by decide +kernel), List.mem_of_getElem? (i := 522) (by decide +kernel)⟩
theorem lw_p13 : lw_okq (⟨"SerialBus$Tree", "contend", "([LSerialBus$Node;II)V"⟩, 2) := ⟨⟨by decide +kernel, by decide +kernel⟩, List.mem_of_getElem? (i := 55) (by decide +kernel), List.mem_of_getElem? (i := 525) (by decide +kernel), List.mem_of_getElem? (i := 526) (by decide +kernel)⟩
theorem lw_p14 : lw_okq (⟨"SerialBus$Tree", "findRoot", "(LSerialBus$Wiring;[LSerialBus$Node;I)I"⟩, 2) := ⟨⟨by decide +kernel, by decide +kernel⟩, List.mem_of_getElem? (i := 55) (by decide +kernel), List.mem_of_getElem? (i := 537) (by decide +kernel), List.mem_of_getElem? (i := 538) (by decide +kernel)⟩
theorem lw_p15 : lw_okq (⟨"SerialBus$Tree", "giveNumbers", "(LSerialBus$Wiring;[LSerialBus$Node;III)I"⟩, 2) := ⟨⟨by decide +kernel, by decide +kernel⟩, List.mem_of_getElem? (i := 55) (by decide +kernel), List.mem_of_getElem? (i := 541) (by decide +kernel), List.mem_of_getElem? (i := 542) (by decide +kernel)⟩
def lw_privs_1 : List (MethodName × Nat) := [(⟨"SerialBus$Wiring", "findBuses", "()V"⟩, 3), (⟨"SerialBus", "loopedBuses", "()I"⟩, 9), (⟨"SerialBus", "isDirty", "(I)Z"⟩, 9), (⟨"java/lang/Throwable", "fillInStackTrace", "(I)Ljava/lang/Throwable;"⟩, 6), (⟨"SerialBus$Node", "waits", "(I)Z"⟩, 17), (⟨"SerialBus", "runBus", "(I)V"⟩, 9), (⟨"SerialBus", "resetBus", "(I)V"⟩, 9), (⟨"SerialBus$Tree", "openCables", "(LSerialBus$Wiring;I)V"⟩, 2), (⟨"SerialBus$Tree", "someCableIsOpen", "()Z"⟩, 2), (⟨"SerialBus$Tree", "chooseAskers", "([LSerialBus$Node;I)V"⟩, 2), (⟨"SerialBus$Tree", "onlyOpenSocket", "(I)I"⟩, 2), (⟨"SerialBus$Tree", "closeAskedCables", "(LSerialBus$Wiring;[LSerialBus$Node;)V"⟩, 2), (⟨"SerialBus$Tree", "close", "(LSerialBus$Node;III)V"⟩, 2), (⟨"SerialBus$Tree", "contend", "([LSerialBus$Node;II)V"⟩, 2), (⟨"SerialBus$Tree", "findRoot", "(LSerialBus$Wiring;[LSerialBus$Node;I)I"⟩, 2), (⟨"SerialBus$Tree", "giveNumbers", "(LSerialBus$Wiring;[LSerialBus$Node;III)I"⟩, 2)]
theorem lw_r1 : ∀ q ∈ lw_privs_1, lw_okq q := List.forall_mem_cons.mpr ⟨lw_p0, List.forall_mem_cons.mpr ⟨lw_p1, List.forall_mem_cons.mpr ⟨lw_p2, List.forall_mem_cons.mpr ⟨lw_p3, List.forall_mem_cons.mpr ⟨lw_p4, List.forall_mem_cons.mpr ⟨lw_p5, List.forall_mem_cons.mpr ⟨lw_p6, List.forall_mem_cons.mpr ⟨lw_p7, List.forall_mem_cons.mpr ⟨lw_p8, List.forall_mem_cons.mpr ⟨lw_p9, List.forall_mem_cons.mpr ⟨lw_p10, List.forall_mem_cons.mpr ⟨lw_p11, List.forall_mem_cons.mpr ⟨lw_p12, List.forall_mem_cons.mpr ⟨lw_p13, List.forall_mem_cons.mpr ⟨lw_p14, List.forall_mem_cons.mpr ⟨lw_p15, fun _ h => absurd h List.not_mem_nil⟩⟩⟩⟩⟩⟩⟩⟩⟩⟩⟩⟩⟩⟩⟩⟩
theorem lw_p16 : lw_okq (⟨"SerialBus$Tree", "findManager", "(LSerialBus$Wiring;[LSerialBus$Node;I)I"⟩, 2) := ⟨⟨by decide +kernel, by decide +kernel⟩, List.mem_of_getElem? (i := 55) (by decide +kernel), List.mem_of_getElem? (i := 546) (by decide +kernel), List.mem_of_getElem? (i := 547) (by decide +kernel)⟩
theorem lw_p17 : lw_okq (⟨"SerialBus", "runCycle", "(ILSerialBus$Node;)V"⟩, 9) := ⟨⟨by decide +kernel, by decide +kernel⟩, List.mem_of_getElem? (i := 18) (by decide +kernel), List.mem_of_getElem? (i := 554) (by decide +kernel), List.mem_of_getElem? (i := 555) (by decide +kernel)⟩
theorem lw_p18 : lw_okq (⟨"SerialBus", "nodeWithNumber", "(II)I"⟩, 9) := ⟨⟨by decide +kernel, by decide +kernel⟩, List.mem_of_getElem? (i := 18) (by decide +kernel), List.mem_of_getElem? (i := 559) (by decide +kernel), List.mem_of_getElem? (i := 560) (by decide +kernel)⟩
theorem lw_p19 : lw_okq (⟨"SerialBus", "letOthersHear", "(II)V"⟩, 9) := ⟨⟨by decide +kernel, by decide +kernel⟩, List.mem_of_getElem? (i := 18) (by decide +kernel), List.mem_of_getElem? (i := 563) (by decide +kernel), List.mem_of_getElem? (i := 564) (by decide +kernel)⟩
theorem lw_p20 : lw_okq (⟨"SerialBus", "runSlot", "(I)V"⟩, 9) := ⟨⟨by decide +kernel, by decide +kernel⟩, List.mem_of_getElem? (i := 18) (by decide +kernel), List.mem_of_getElem? (i := 567) (by decide +kernel), List.mem_of_getElem? (i := 568) (by decide +kernel)⟩
theorem lw_p21 : lw_okq (⟨"SerialBus", "sendFirstPacket", "(LSerialBus$Node;I)V"⟩, 9) := ⟨⟨by decide +kernel, by decide +kernel⟩, List.mem_of_getElem? (i := 18) (by decide +kernel), List.mem_of_getElem? (i := 575) (by decide +kernel), List.mem_of_getElem? (i := 576) (by decide +kernel)⟩
theorem lw_p22 : lw_okq (⟨"SerialBus$Queue", "removeAt", "(I)V"⟩, 2) := ⟨⟨by decide +kernel, by decide +kernel⟩, List.mem_of_getElem? (i := 76) (by decide +kernel), List.mem_of_getElem? (i := 584) (by decide +kernel), List.mem_of_getElem? (i := 585) (by decide +kernel)⟩
theorem lw_p23 : lw_okq (⟨"SerialBus", "sendRequest", "(LSerialBus$Request;LSerialBus$Node;I)V"⟩, 9) := ⟨⟨by decide +kernel, by decide +kernel⟩, List.mem_of_getElem? (i := 18) (by decide +kernel), List.mem_of_getElem? (i := 589) (by decide +kernel), List.mem_of_getElem? (i := 590) (by decide +kernel)⟩
theorem lw_p24 : lw_okq (⟨"SerialBus", "takeUsedFromAll", "(I)V"⟩, 9) := ⟨⟨by decide +kernel, by decide +kernel⟩, List.mem_of_getElem? (i := 18) (by decide +kernel), List.mem_of_getElem? (i := 597) (by decide +kernel), List.mem_of_getElem? (i := 598) (by decide +kernel)⟩
theorem lw_p25 : lw_okq (⟨"SerialBus", "endLateRequests", "()V"⟩, 9) := ⟨⟨by decide +kernel, by decide +kernel⟩, List.mem_of_getElem? (i := 18) (by decide +kernel), List.mem_of_getElem? (i := 601) (by decide +kernel), List.mem_of_getElem? (i := 602) (by decide +kernel)⟩
theorem lw_p26 : lw_okq (⟨"SerialBusModel", "fail", "(I)I"⟩, 42) := ⟨⟨by decide +kernel, by decide +kernel⟩, List.mem_of_getElem? (i := 653) (by decide +kernel), List.mem_of_getElem? (i := 797) (by decide +kernel), List.mem_of_getElem? (i := 798) (by decide +kernel)⟩
theorem lw_p27 : lw_okq (⟨"SerialBusModel", "cables", "()I"⟩, 42) := ⟨⟨by decide +kernel, by decide +kernel⟩, List.mem_of_getElem? (i := 653) (by decide +kernel), List.mem_of_getElem? (i := 801) (by decide +kernel), List.mem_of_getElem? (i := 802) (by decide +kernel)⟩
theorem lw_p28 : lw_okq (⟨"SerialBusModel", "put", "(IIIIZI)V"⟩, 42) := ⟨⟨by decide +kernel, by decide +kernel⟩, List.mem_of_getElem? (i := 653) (by decide +kernel), List.mem_of_getElem? (i := 818) (by decide +kernel), List.mem_of_getElem? (i := 819) (by decide +kernel)⟩
theorem lw_p29 : lw_okq (⟨"SerialBusModel", "findBuses", "()V"⟩, 42) := ⟨⟨by decide +kernel, by decide +kernel⟩, List.mem_of_getElem? (i := 653) (by decide +kernel), List.mem_of_getElem? (i := 826) (by decide +kernel), List.mem_of_getElem? (i := 827) (by decide +kernel)⟩
theorem lw_p30 : lw_okq (⟨"SerialBusModel", "tickBus", "(I)V"⟩, 42) := ⟨⟨by decide +kernel, by decide +kernel⟩, List.mem_of_getElem? (i := 653) (by decide +kernel), List.mem_of_getElem? (i := 830) (by decide +kernel), List.mem_of_getElem? (i := 831) (by decide +kernel)⟩
theorem lw_p31 : lw_okq (⟨"SerialBusModel", "busDirty", "(I)Z"⟩, 42) := ⟨⟨by decide +kernel, by decide +kernel⟩, List.mem_of_getElem? (i := 653) (by decide +kernel), List.mem_of_getElem? (i := 834) (by decide +kernel), List.mem_of_getElem? (i := 835) (by decide +kernel)⟩
def lw_privs_2 : List (MethodName × Nat) := [(⟨"SerialBus$Tree", "findManager", "(LSerialBus$Wiring;[LSerialBus$Node;I)I"⟩, 2), (⟨"SerialBus", "runCycle", "(ILSerialBus$Node;)V"⟩, 9), (⟨"SerialBus", "nodeWithNumber", "(II)I"⟩, 9), (⟨"SerialBus", "letOthersHear", "(II)V"⟩, 9), (⟨"SerialBus", "runSlot", "(I)V"⟩, 9), (⟨"SerialBus", "sendFirstPacket", "(LSerialBus$Node;I)V"⟩, 9), (⟨"SerialBus$Queue", "removeAt", "(I)V"⟩, 2), (⟨"SerialBus", "sendRequest", "(LSerialBus$Request;LSerialBus$Node;I)V"⟩, 9), (⟨"SerialBus", "takeUsedFromAll", "(I)V"⟩, 9), (⟨"SerialBus", "endLateRequests", "()V"⟩, 9), (⟨"SerialBusModel", "fail", "(I)I"⟩, 42), (⟨"SerialBusModel", "cables", "()I"⟩, 42), (⟨"SerialBusModel", "put", "(IIIIZI)V"⟩, 42), (⟨"SerialBusModel", "findBuses", "()V"⟩, 42), (⟨"SerialBusModel", "tickBus", "(I)V"⟩, 42), (⟨"SerialBusModel", "busDirty", "(I)Z"⟩, 42)]
theorem lw_r2 : ∀ q ∈ lw_privs_2, lw_okq q := List.forall_mem_cons.mpr ⟨lw_p16, List.forall_mem_cons.mpr ⟨lw_p17, List.forall_mem_cons.mpr ⟨lw_p18, List.forall_mem_cons.mpr ⟨lw_p19, List.forall_mem_cons.mpr ⟨lw_p20, List.forall_mem_cons.mpr ⟨lw_p21, List.forall_mem_cons.mpr ⟨lw_p22, List.forall_mem_cons.mpr ⟨lw_p23, List.forall_mem_cons.mpr ⟨lw_p24, List.forall_mem_cons.mpr ⟨lw_p25, List.forall_mem_cons.mpr ⟨lw_p26, List.forall_mem_cons.mpr ⟨lw_p27, List.forall_mem_cons.mpr ⟨lw_p28, List.forall_mem_cons.mpr ⟨lw_p29, List.forall_mem_cons.mpr ⟨lw_p30, List.forall_mem_cons.mpr ⟨lw_p31, fun _ h => absurd h List.not_mem_nil⟩⟩⟩⟩⟩⟩⟩⟩⟩⟩⟩⟩⟩⟩⟩⟩
theorem lw_p32 : lw_okq (⟨"SerialBusModel", "resetBus", "(I)V"⟩, 42) := ⟨⟨by decide +kernel, by decide +kernel⟩, List.mem_of_getElem? (i := 653) (by decide +kernel), List.mem_of_getElem? (i := 838) (by decide +kernel), List.mem_of_getElem? (i := 839) (by decide +kernel)⟩
theorem lw_p33 : lw_okq (⟨"SerialBusModel", "clean", "(I)V"⟩, 42) := ⟨⟨by decide +kernel, by decide +kernel⟩, List.mem_of_getElem? (i := 653) (by decide +kernel), List.mem_of_getElem? (i := 842) (by decide +kernel), List.mem_of_getElem? (i := 843) (by decide +kernel)⟩
theorem lw_p34 : lw_okq (⟨"SerialBusModel", "anyOpen", "(I)Z"⟩, 42) := ⟨⟨by decide +kernel, by decide +kernel⟩, List.mem_of_getElem? (i := 653) (by decide +kernel), List.mem_of_getElem? (i := 846) (by decide +kernel), List.mem_of_getElem? (i := 847) (by decide +kernel)⟩
theorem lw_p35 : lw_okq (⟨"SerialBusModel", "round", "(II)V"⟩, 42) := ⟨⟨by decide +kernel, by decide +kernel⟩, List.mem_of_getElem? (i := 653) (by decide +kernel), List.mem_of_getElem? (i := 850) (by decide +kernel), List.mem_of_getElem? (i := 851) (by decide +kernel)⟩
theorem lw_p36 : lw_okq (⟨"SerialBusModel", "openAt", "(I)I"⟩, 42) := ⟨⟨by decide +kernel, by decide +kernel⟩, List.mem_of_getElem? (i := 653) (by decide +kernel), List.mem_of_getElem? (i := 854) (by decide +kernel), List.mem_of_getElem? (i := 855) (by decide +kernel)⟩
theorem lw_p37 : lw_okq (⟨"SerialBusModel", "nextBit", "(I)I"⟩, 42) := ⟨⟨by decide +kernel, by decide +kernel⟩, List.mem_of_getElem? (i := 653) (by decide +kernel), List.mem_of_getElem? (i := 858) (by decide +kernel), List.mem_of_getElem? (i := 859) (by decide +kernel)⟩
theorem lw_p38 : lw_okq (⟨"SerialBusModel", "close", "(II)V"⟩, 42) := ⟨⟨by decide +kernel, by decide +kernel⟩, List.mem_of_getElem? (i := 653) (by decide +kernel), List.mem_of_getElem? (i := 862) (by decide +kernel), List.mem_of_getElem? (i := 863) (by decide +kernel)⟩
theorem lw_p39 : lw_okq (⟨"SerialBusModel", "settle", "(IZ)V"⟩, 42) := ⟨⟨by decide +kernel, by decide +kernel⟩, List.mem_of_getElem? (i := 653) (by decide +kernel), List.mem_of_getElem? (i := 866) (by decide +kernel), List.mem_of_getElem? (i := 867) (by decide +kernel)⟩
theorem lw_p40 : lw_okq (⟨"SerialBusModel", "giveNumbers", "(I)V"⟩, 42) := ⟨⟨by decide +kernel, by decide +kernel⟩, List.mem_of_getElem? (i := 653) (by decide +kernel), List.mem_of_getElem? (i := 870) (by decide +kernel), List.mem_of_getElem? (i := 871) (by decide +kernel)⟩
theorem lw_p41 : lw_okq (⟨"SerialBusModel", "child", "(II)I"⟩, 42) := ⟨⟨by decide +kernel, by decide +kernel⟩, List.mem_of_getElem? (i := 653) (by decide +kernel), List.mem_of_getElem? (i := 874) (by decide +kernel), List.mem_of_getElem? (i := 875) (by decide +kernel)⟩
theorem lw_p42 : lw_okq (⟨"SerialBusModel", "cycle", "(I)V"⟩, 42) := ⟨⟨by decide +kernel, by decide +kernel⟩, List.mem_of_getElem? (i := 653) (by decide +kernel), List.mem_of_getElem? (i := 878) (by decide +kernel), List.mem_of_getElem? (i := 879) (by decide +kernel)⟩
theorem lw_p43 : lw_okq (⟨"SerialBusModel", "numbered", "(II)I"⟩, 42) := ⟨⟨by decide +kernel, by decide +kernel⟩, List.mem_of_getElem? (i := 653) (by decide +kernel), List.mem_of_getElem? (i := 883) (by decide +kernel), List.mem_of_getElem? (i := 884) (by decide +kernel)⟩
theorem lw_p44 : lw_okq (⟨"SerialBusModel", "slot", "(I)V"⟩, 42) := ⟨⟨by decide +kernel, by decide +kernel⟩, List.mem_of_getElem? (i := 653) (by decide +kernel), List.mem_of_getElem? (i := 887) (by decide +kernel), List.mem_of_getElem? (i := 888) (by decide +kernel)⟩
theorem lw_p45 : lw_okq (⟨"SerialBusModel", "sender", "(IZ)I"⟩, 42) := ⟨⟨by decide +kernel, by decide +kernel⟩, List.mem_of_getElem? (i := 653) (by decide +kernel), List.mem_of_getElem? (i := 891) (by decide +kernel), List.mem_of_getElem? (i := 892) (by decide +kernel)⟩
theorem lw_p46 : lw_okq (⟨"SerialBusModel", "send", "(I)V"⟩, 42) := ⟨⟨by decide +kernel, by decide +kernel⟩, List.mem_of_getElem? (i := 653) (by decide +kernel), List.mem_of_getElem? (i := 895) (by decide +kernel), List.mem_of_getElem? (i := 896) (by decide +kernel)⟩
theorem lw_p47 : lw_okq (⟨"SerialBusModel", "take", "(II)V"⟩, 42) := ⟨⟨by decide +kernel, by decide +kernel⟩, List.mem_of_getElem? (i := 653) (by decide +kernel), List.mem_of_getElem? (i := 899) (by decide +kernel), List.mem_of_getElem? (i := 900) (by decide +kernel)⟩
def lw_privs_3 : List (MethodName × Nat) := [(⟨"SerialBusModel", "resetBus", "(I)V"⟩, 42), (⟨"SerialBusModel", "clean", "(I)V"⟩, 42), (⟨"SerialBusModel", "anyOpen", "(I)Z"⟩, 42), (⟨"SerialBusModel", "round", "(II)V"⟩, 42), (⟨"SerialBusModel", "openAt", "(I)I"⟩, 42), (⟨"SerialBusModel", "nextBit", "(I)I"⟩, 42), (⟨"SerialBusModel", "close", "(II)V"⟩, 42), (⟨"SerialBusModel", "settle", "(IZ)V"⟩, 42), (⟨"SerialBusModel", "giveNumbers", "(I)V"⟩, 42), (⟨"SerialBusModel", "child", "(II)I"⟩, 42), (⟨"SerialBusModel", "cycle", "(I)V"⟩, 42), (⟨"SerialBusModel", "numbered", "(II)I"⟩, 42), (⟨"SerialBusModel", "slot", "(I)V"⟩, 42), (⟨"SerialBusModel", "sender", "(IZ)I"⟩, 42), (⟨"SerialBusModel", "send", "(I)V"⟩, 42), (⟨"SerialBusModel", "take", "(II)V"⟩, 42)]
theorem lw_r3 : ∀ q ∈ lw_privs_3, lw_okq q := List.forall_mem_cons.mpr ⟨lw_p32, List.forall_mem_cons.mpr ⟨lw_p33, List.forall_mem_cons.mpr ⟨lw_p34, List.forall_mem_cons.mpr ⟨lw_p35, List.forall_mem_cons.mpr ⟨lw_p36, List.forall_mem_cons.mpr ⟨lw_p37, List.forall_mem_cons.mpr ⟨lw_p38, List.forall_mem_cons.mpr ⟨lw_p39, List.forall_mem_cons.mpr ⟨lw_p40, List.forall_mem_cons.mpr ⟨lw_p41, List.forall_mem_cons.mpr ⟨lw_p42, List.forall_mem_cons.mpr ⟨lw_p43, List.forall_mem_cons.mpr ⟨lw_p44, List.forall_mem_cons.mpr ⟨lw_p45, List.forall_mem_cons.mpr ⟨lw_p46, List.forall_mem_cons.mpr ⟨lw_p47, fun _ h => absurd h List.not_mem_nil⟩⟩⟩⟩⟩⟩⟩⟩⟩⟩⟩⟩⟩⟩⟩⟩
theorem lw_p48 : lw_okq (⟨"SerialBusModel", "sendRequest", "(IIII)V"⟩, 42) := ⟨⟨by decide +kernel, by decide +kernel⟩, List.mem_of_getElem? (i := 653) (by decide +kernel), List.mem_of_getElem? (i := 903) (by decide +kernel), List.mem_of_getElem? (i := 904) (by decide +kernel)⟩
theorem lw_p49 : lw_okq (⟨"SerialBusModel", "done", "(I)I"⟩, 42) := ⟨⟨by decide +kernel, by decide +kernel⟩, List.mem_of_getElem? (i := 653) (by decide +kernel), List.mem_of_getElem? (i := 907) (by decide +kernel), List.mem_of_getElem? (i := 908) (by decide +kernel)⟩
theorem lw_p50 : lw_okq (⟨"SerialBusModel", "comeLate", "()V"⟩, 42) := ⟨⟨by decide +kernel, by decide +kernel⟩, List.mem_of_getElem? (i := 653) (by decide +kernel), List.mem_of_getElem? (i := 911) (by decide +kernel), List.mem_of_getElem? (i := 912) (by decide +kernel)⟩
theorem lw_p51 : lw_okq (⟨"SerialBusModel", "waiting", "(I)I"⟩, 42) := ⟨⟨by decide +kernel, by decide +kernel⟩, List.mem_of_getElem? (i := 653) (by decide +kernel), List.mem_of_getElem? (i := 935) (by decide +kernel), List.mem_of_getElem? (i := 936) (by decide +kernel)⟩
def lw_privs_4 : List (MethodName × Nat) := [(⟨"SerialBusModel", "sendRequest", "(IIII)V"⟩, 42), (⟨"SerialBusModel", "done", "(I)I"⟩, 42), (⟨"SerialBusModel", "comeLate", "()V"⟩, 42), (⟨"SerialBusModel", "waiting", "(I)I"⟩, 42)]
theorem lw_r4 : ∀ q ∈ lw_privs_4, lw_okq q := List.forall_mem_cons.mpr ⟨lw_p48, List.forall_mem_cons.mpr ⟨lw_p49, List.forall_mem_cons.mpr ⟨lw_p50, List.forall_mem_cons.mpr ⟨lw_p51, fun _ h => absurd h List.not_mem_nil⟩⟩⟩⟩
def lw_privs : List (MethodName × Nat) := lw_privs_1 ++ (lw_privs_2 ++ (lw_privs_3 ++ (lw_privs_4)))
def lw_tbl : List Cond := k2_sels lw_privs ++ tables_1
theorem lw_privs_ok : ∀ q ∈ lw_privs, lw_okq q := by
  show ∀ q ∈ lw_privs_1 ++ (lw_privs_2 ++ (lw_privs_3 ++ (lw_privs_4))), lw_okq q
  exact List.forall_mem_append.mpr ⟨lw_r1, List.forall_mem_append.mpr ⟨lw_r2, List.forall_mem_append.mpr ⟨lw_r3, lw_r4⟩⟩⟩
end
section
/-! ===== BEGIN words of one list among another's, by their places ===== -/
theorem goodIn_r {big : List Cond} (ws : List Cond) (ps : List Nat) (hp : ws = ps.filterMap (fun i => big[i]?)) (h : ws.all goodWord = true) : GoodIn big ws := by
  intro w hw
  have h1 := List.all_eq_true.mp h w hw
  rw [hp] at hw
  obtain ⟨i, -, hi⟩ := List.mem_filterMap.mp hw
  have hm : w ∈ big := by first | exact List.mem_of_getElem? hi | exact List.getElem?_mem hi
  exact ⟨hm, good_of_word h1⟩
theorem goodIn_app {big a b : List Cond} (ha : GoodIn big a) (hb : GoodIn big b) : GoodIn big (a ++ b) := fun w h => (List.mem_append.mp h).elim (ha w) (hb w)
theorem goodIn_ca {big a b : List Cond} {c : Cond} (ha : GoodIn big (c :: a)) (hb : GoodIn big b) : GoodIn big (c :: (a ++ b)) := fun w h => (List.mem_cons.mp h).elim (fun e => ha w (List.mem_cons.mpr (Or.inl e))) (fun h => (List.mem_append.mp h).elim (fun h => ha w (List.mem_cons.mpr (Or.inr h))) (hb w))
theorem goodIn_sub {big ws : List Cond} (hm : ∀ w ∈ ws, w ∈ big) (h : ws.all goodWord = true) : GoodIn big ws := fun w hw => ⟨hm w hw, good_of_word (List.all_eq_true.mp h w hw)⟩
/-! ===== END ===== -/

/-! ===== BEGIN exceptions that leave a method, and their catching by the caller (launches without stack traces) ===== -/
section VXA
/-! The laws vx_back, vx_callV, vx_callS, vx_callSW, vx_throw0, vx_throwS follow proofs of the library, with one case more: JvmDerived/Free/Laws.lean (Back.of_free), Shelf42/LK1.lean (callV, callS), Shelf/KitTraced.lean (throwNew0V, throwNewS). -/
/-- where a method has thrown q: the class by its name, the cell, what was written, the world -/
def vx_T (XC : String → State → State → Prop) (st : State) (q : Addr) (t : State) (mc ms : Nat) (free : Addr → Prop) : Prop :=
  ∃ (E : String) (ce : Cell) (L : List Loc), XC E st t ∧ t.heap[q]? = some ce ∧ ce.vm = .none ∧ st.vm.findClass E = some ce.cls ∧ st.WarmedH t.vm ∧ st.sameButNew ({ t with vm := st.vm } : State) L mc ms ∧ ∀ z ∈ L, free z.base
def vx_Q (Qc : Array Value → State → Outcome → State → Prop) (XC : String → State → State → Prop) (mc ms : Nat) (free : Addr → Prop) : Array Value → State → Outcome → State → Prop := fun a st o t =>
  (Qc a st o t ∧ ∃ L, FrameEnd st o t L mc ms ∧ ∀ q ∈ L, free q.base) ∨ ∃ q, o = .threw q ∧ vx_T XC st q t mc ms free
/-- a callee that returns or throws -/
def vx_Met (l : Launch) (y : MethodName) (ws : List Cond) (rm : Room) (Pc : Array Value → State → Prop) (Qc : Array Value → State → Outcome → State → Prop) (XC : String → State → State → Prop) (mc ms : Nat) (free : Addr → Prop) : Prop :=
  MetFree l y (headSpec ws rm) Pc (fun _ _ _ _ _ => True) (vx_Q Qc XC mc ms free)
def vx_Post (XC : String → State → State → Prop) (mc ms : Nat) (free : Addr → Prop) : Pt → Array Value → Addr → Pt → Prop := fun A a q B =>
  ∃ (g : JFrame) (mk : MethodId) (t : State) (L : List Loc) (E : String) (ce : Cell), B.U.heap = t.heap ∧ B.U.vm = t.vm ∧ XC E (A.U.calling g mk a) t ∧ t.heap[q]? = some ce ∧ ce.vm = .none ∧ A.U.vm.findClass E = some ce.cls ∧ B.locs = A.locs ++ L ∧ (∀ z ∈ L, free z.base) ∧ B.cells = A.cells + mc ∧ B.slots = A.slots + ms
def vx_Back (l : Launch) (R : Room) (p : Program) (e : Env) (below : List Frame) (s : State) (sargs : Array Value) (y : MethodName) (len W9 : Nat)
    (Pre : Pt → Array Value → Prop) (Post : Pt → Array Value → Option Value → Pt → Prop) (PostX : Pt → Array Value → Addr → Pt → Prop) : Prop :=
  ∀ (m : MethodId) (meth : Method) (c : Code) (A : Pt) (g : JFrame) (ig : Instr) (mk : MethodId) (a : Array Value),
    Stand p l e R s m sargs below meth c A.U A.locs A.cells A.slots → g.method = m → g.locals.size = c.maxLocals → decode c.code g.pc = .ok (ig, len) →
    2 * g.monitorRoom + (g.stack.map fun v => v.category).sum ≤ W9 → A.U.methodNamed? y = some mk → Pre A a →
    (∃ (v : Option Value) (B : Pt), Stand p l e R s m sargs below meth c B.U B.locs B.cells B.slots ∧ Post A a v B ∧
      Steps p.tables e below (doInvoke e (A.U.setTop g) [] mk a).1 (B.U.setTop { g with pc := g.pc + len, stack := v.toList ++ g.stack })) ∨
    (∃ (q : Addr) (B : Pt), Stand p l e R s m sargs below meth c B.U B.locs B.cells B.slots ∧ PostX A a q B ∧
      Steps p.tables e below (doInvoke e (A.U.setTop g) [] mk a).1 ((B.U.setTop g).pushFrame (.throwing q)))
section Payer
variable {l : Launch} {R : Room} {p : Program} {e : Env} {below : List Frame} {s : State} {sargs : Array Value} {y : MethodName} {len W9 : Nat}
theorem vx_back {ws : List Cond} {rm : Room} {Pc : Array Value → State → Prop} {Qc : Array Value → State → Outcome → State → Prop} {XC : String → State → State → Prop} {mc ms : Nat} {free : Addr → Prop} {bytes : ByteArray} {maxL : Nat} {ret : Option FieldType}
    (hM : vx_Met l y ws rm Pc Qc XC mc ms free) (hblind : FrameBlind Pc) (hrc : rm.cells = mc) (hrs : rm.slots = ms)
    (hframes : rm.frames + 1 ≤ R.frames) (hlocals : W9 + (maxL + 11) + rm.locals ≤ R.locals)
    (hws : ∀ w ∈ ws, ∀ a' U, s.WarmedH U.vm → w.before a' U = true) (hcode : Cond.code y bytes maxL ret ∈ ws) (hinit : ∀ a' U, s.WarmedH U.vm → (Cond.initialized y.cls).before a' U = true) :
    vx_Back l R p e below s sargs y len W9 (PreOf R mc ms Pc) (PostOf Qc mc ms free) (vx_Post XC mc ms free) := by
  intro m meth c A g ig mk a X hg hsize hdg hW hn hp
  have h1 : (headSpec ws rm).pre.before a A.U = true := atoms_intro fun w hw => hws w hw _ _ X.warmed
  have h2 : (Cond.code y bytes maxL ret).before a A.U = true := hws _ hcode _ _ X.warmed
  have h3 : (Cond.initialized y.cls).before a A.U = true := hinit _ _ X.warmed
  have h4 : A.cells + (headSpec ws rm).room.cells ≤ R.cells := by rw [show (headSpec ws rm).room.cells = mc from hrc]; exact hp.1
  have h5 : A.slots + (headSpec ws rm).room.slots ≤ R.slots := by rw [show (headSpec ws rm).room.slots = ms from hrs]; exact hp.2.1
  have hPc : Pc a (A.U.calling g mk a) := hblind _ _ _ _ hp.2.2
  obtain ⟨U, Ls, c0, s0⟩ := A
  dsimp only [Pt.U, Pt.locs, Pt.cells, Pt.slots] at h1 h2 h3 h4 h5 X hn hPc ⊢
  obtain ⟨methY, cY, hmY, hcY, -, hlY, -, -, -, -⟩ := Cond.code_spec hn h2
  obtain ⟨kY, hkY, -⟩ := className_of_methodNamed hn
  have hinitY : kY.init = .initialized := Cond.initialized_spec (findClass_of_methodNamed hn) hkY h3
  have h : At U g.method c below := by rw [hg]; exact X.here
  have hlocals9 : W9 + (maxL + 11) + (headSpec ws rm).room.locals ≤ R.locals := hlocals
  have happ : (headSpec ws rm).appliesLoose y e.platform (U.calling g mk a) = true :=
    Spec.appliesLoose_calling (g := g) h hdg hn hkY hinitY
      (X.room_calling (g := g) (R' := (headSpec ws rm).room) hsize hmY hcY hframes (by rw [hlY]; omega) h4 h5) h1
  obtain ⟨mid, hmid⟩ := h.above
  have hfr : (U.setTop g).frames = (.java g :: mid) ++ below := by rw [State.frames_setTop' g h.top, hmid]; rfl
  obtain ⟨o, s₂, hsteps, -, hend, hq⟩ := Steps.callFree hM p X.admits X.cas X.clock (acts := []) hfr happ hPc trivial
  have hq' : vx_Q Qc XC mc ms free a (U.calling g mk a) o s₂ := hq
  rw [State.frames_setTop' g h.top] at hend
  obtain ⟨g₀, hg0⟩ := Option.isSome_iff_exists.mp h.top
  obtain ⟨r, hr⟩ := State.topJava?_eq_some.mp hg0
  have hr' : (({ U with heap := s₂.heap, slotsUsed := s₂.slotsUsed } : State).setVm s₂.vm).frames = .java g₀ :: r := hr
  rcases hq' with ⟨hqc, L, hfe, hL⟩ | ⟨q, rfl, E, ce, L, hx, hce, hcv, hcl, hW₂, hsm, hL⟩
  · obtain ⟨⟨v, rfl⟩, hW₂, e2, q2, q3, q4, q5, q6⟩ := id hfe
    have e3 : s₂ = ({ (U.calling g mk a).setFrames s₂.frames with heap := s₂.heap, slotsUsed := s₂.slotsUsed } : State).setVm s₂.vm := by
      have : s₂ = ({ s₂ with vm := (U.calling g mk a).vm } : State).setVm s₂.vm := rfl
      rw [e2] at this
      exact this
    obtain ⟨c₂, i₂, len₂, hc₂, hd₂, hf₂⟩ := hend
    have hW' : U.WarmedH s₂.vm := hW₂
    have hcc : c₂ = c := by
      have h1 : s₂.code? g.method = U.code? g.method := by
        rw [State.code?_eq, State.code?_eq, hW'.alike.method?]
      exact Option.some.inj (hc₂.symm.trans (h1.trans h.code))
    subst hcc
    have hlen : len₂ = len := by rw [hdg] at hd₂; cases hd₂; rfl
    subst hlen
    have hs₂ : s₂ = (({ U with heap := s₂.heap, slotsUsed := s₂.slotsUsed } : State).setVm s₂.vm).setTop { g with pc := g.pc + len₂, stack := v.toList ++ g.stack } := by
      refine e3.trans ?_
      rw [hf₂, State.calling_eq h.top, State.setFrames_setFrames, State.setTop_of_frames _ hr', hr]
      rfl
    have hsame : U.sameButNew ({ U with heap := s₂.heap, slotsUsed := s₂.slotsUsed } : State) L mc ms := by
      refine ⟨?_, q2, q3, q4, q5, q6⟩
      obtain ⟨t, ht, -⟩ := State.frames_cons hr
      show ({ U with heap := s₂.heap, slotsUsed := s₂.slotsUsed } : State) = { U.setFrames U.frames with heap := s₂.heap, slotsUsed := s₂.slotsUsed }
      rw [State.setFrames_self ht]
    subst hg
    refine Or.inl ⟨v, ⟨(({ U with heap := s₂.heap, slotsUsed := s₂.slotsUsed } : State).setVm s₂.vm), Ls ++ L, c0 + mc, s0 + ms⟩,
      ⟨X.admits, X.cas, X.clock, X.frames, X.room, X.hears, X.method, X.code, (X.here.setHeapUsed s₂.heap s₂.slotsUsed).setVm hW'.alike, X.tail, State.WarmedH.trans X.warmed hW', X.limits, X.bytes, X.same.trans (hsame.setVm s.vm)⟩,
      ⟨g, mk, s₂, L, rfl, rfl, hqc, rfl, hL, rfl, rfl⟩, ?_⟩
    show Steps p.tables e below _ ((({ U with heap := s₂.heap, slotsUsed := s₂.slotsUsed } : State).setVm s₂.vm).setTop { g with pc := g.pc + len₂, stack := v.toList ++ g.stack })
    rw [← hs₂]
    exact hsteps
  · obtain ⟨e2, q2, q3, q4, q5, q6⟩ := id hsm
    have e3 : s₂ = ({ (U.calling g mk a).setFrames s₂.frames with heap := s₂.heap, slotsUsed := s₂.slotsUsed } : State).setVm s₂.vm := by
      have : s₂ = ({ s₂ with vm := (U.calling g mk a).vm } : State).setVm s₂.vm := rfl
      rw [e2] at this
      exact this
    have hf₂ : s₂.frames = .throwing q :: .java g :: U.frames.tail := hend
    have hW' : U.WarmedH s₂.vm := hW₂
    have hs₂ : s₂ = ((({ U with heap := s₂.heap, slotsUsed := s₂.slotsUsed } : State).setVm s₂.vm).setTop g).pushFrame (.throwing q) := by
      refine e3.trans ?_
      rw [hf₂, State.calling_eq h.top, State.setFrames_setFrames, State.pushFrame, State.frames_setTop _ hr', State.setTop_of_frames _ hr', State.setFrames_setFrames, hr]
      rfl
    have hsame : U.sameButNew ({ U with heap := s₂.heap, slotsUsed := s₂.slotsUsed } : State) L mc ms := by
      refine ⟨?_, q2, q3, q4, q5, q6⟩
      obtain ⟨t, ht, -⟩ := State.frames_cons hr
      show ({ U with heap := s₂.heap, slotsUsed := s₂.slotsUsed } : State) = { U.setFrames U.frames with heap := s₂.heap, slotsUsed := s₂.slotsUsed }
      rw [State.setFrames_self ht]
    subst hg
    refine Or.inr ⟨q, ⟨(({ U with heap := s₂.heap, slotsUsed := s₂.slotsUsed } : State).setVm s₂.vm), Ls ++ L, c0 + mc, s0 + ms⟩,
      ⟨X.admits, X.cas, X.clock, X.frames, X.room, X.hears, X.method, X.code, (X.here.setHeapUsed s₂.heap s₂.slotsUsed).setVm hW'.alike, X.tail, State.WarmedH.trans X.warmed hW', X.limits, X.bytes, X.same.trans (hsame.setVm s.vm)⟩,
      ⟨g, mk, s₂, L, E, ce, rfl, rfl, hx, hce, hcv, hcl, rfl, hL, rfl, rfl⟩, ?_⟩
    show Steps p.tables e below _ (((({ U with heap := s₂.heap, slotsUsed := s₂.slotsUsed } : State).setVm s₂.vm).setTop g).pushFrame (.throwing q))
    rw [← hs₂]
    exact hsteps
end Payer
section Calls
variable {p : Program} {l : Launch} {e : Env} {R : Room} {s : State} {m : MethodId} {args : Array Value} {below : List Frame} {meth : Method} {c : Code} {T : State} {locs : List Loc} {cells slots : Nat}
theorem vx_callV (X : Stand p l e R s m args below meth c T locs cells slots) (hexec : p.tables.exec = Jvm.exec) {own C : String} {index : Nat} {y : MethodName} {bytes : ByteArray} {maxL : Nat} {ret : Option FieldType}
    (hown : s.vm.findClass own = some m.cls) (hlink : (Cond.methodLink own index y).before args s = true) (hinst : (Cond.instanceMethod y).before args s = true) (hsel : (Cond.selects C y y).before args s = true)
    (hcode : (Cond.code y bytes maxL ret).before args s = true) (hy : y.cls ≠ "java/lang/invoke/MethodHandle" ∧ y.cls ≠ "java/lang/invoke/VarHandle")
    {W9 : Nat} {Pre : Pt → Array Value → Prop} {Post : Pt → Array Value → Option Value → Pt → Prop} {PostX : Pt → Array Value → Addr → Pt → Prop} (hK : vx_Back l R p e below s args y 3 W9 Pre Post PostX)
    {b : Addr} {cellB : Cell} (hcell : T.heap[b]? = some cellB) (hobj : cellB.vm.isStatics = false) (hcls : s.vm.findClass C = some cellB.cls)
    {g : JFrame} (hg : g.method = m) (hsize : g.locals.size = c.maxLocals) {argsL rest : List Value} (hlen : ∀ sig, parseMethodDescriptor y.desc = some sig → argsL.length = sig.parameters.length)
    (hstack : g.stack = argsL.reverse ++ .ref b :: rest) (hW : 2 * g.monitorRoom + (rest.map fun v => v.category).sum ≤ W9) (hdg : decode c.code g.pc = .ok (.invokevirtual index, 3))
    (hpre : ∀ vm₁, s.WarmedH vm₁ → Pre ⟨T.setVm vm₁, locs, cells, slots⟩ (Value.ref b :: argsL).toArray) :
    (∃ (v : Option Value) (vm₁ : Vm) (B : Pt), s.WarmedH vm₁ ∧ Stand p l e R s m args below meth c B.U B.locs B.cells B.slots ∧ Post ⟨T.setVm vm₁, locs, cells, slots⟩ (Value.ref b :: argsL).toArray v B ∧
      ∀ target, Steps p.tables e below (B.U.setTop { g with pc := g.pc + 3, stack := v.toList ++ rest }) target → Steps p.tables e below (T.setTop g) target) ∨
    (∃ (q : Addr) (vm₁ : Vm) (B : Pt), s.WarmedH vm₁ ∧ Stand p l e R s m args below meth c B.U B.locs B.cells B.slots ∧ PostX ⟨T.setVm vm₁, locs, cells, slots⟩ (Value.ref b :: argsL).toArray q B ∧
      Steps p.tables e below (T.setTop g) ((B.U.setTop { g with stack := rest }).pushFrame (.throwing q))) := by
  obtain ⟨mk, methM, hnamed, hmethM, hstM, habM⟩ := Cond.instanceMethod_spec hinst
  obtain ⟨methM', cM, hmethM', -, -, -, -, -, -, hsigM⟩ := Cond.code_spec hnamed hcode
  cases hmethM.symm.trans hmethM'
  obtain ⟨c2, r2, m2, q1, q2, q3, q4, kP, hkP, hkPi⟩ := Cond.selects_spec hsel
  cases hcls.symm.trans q1
  cases (State.methodFound?_of_named hnamed hy).symm.trans q2
  cases hnamed.symm.trans q3
  have hselP : selectMethod e.platform s.vm cellB.cls mk = .method mk := by rw [Launch.admits_selectMethod X.admits]; exact q4
  obtain ⟨vm₁, X₁, hstep₁⟩ := X.invokevirtual hexec hown hlink hnamed hmethM hstM hkP hkPi hy (a := b) (cell := cellB) hcell
    (fun z h => by rw [h] at hobj; cases hobj) hselP hmethM habM hkP hkPi (g := g) hg (argsL := argsL) (rest := rest) (hlen _ hsigM) hstack hdg
  rcases hK m meth c ⟨T.setVm vm₁, locs, cells, slots⟩ { g with stack := rest } (.invokevirtual index) mk (Value.ref b :: argsL).toArray X₁ hg hsize hdg hW (X₁.named hnamed) (hpre vm₁ X₁.warmed) with ⟨v, B, X', hpost, hsteps⟩ | ⟨q, B, X', hpost, hsteps⟩
  · exact Or.inl ⟨v, vm₁, B, X₁.warmed, X', hpost, fun target h => hstep₁ _ fun acts => by rw [doInvoke_state]; exact hsteps.trans h⟩
  · exact Or.inr ⟨q, vm₁, B, X₁.warmed, X', hpost, hstep₁ _ fun acts => by rw [doInvoke_state]; exact hsteps⟩
theorem vx_callS (X : Stand p l e R s m args below meth c T locs cells slots) (hexec : p.tables.exec = Jvm.exec) {own : String} {index : Nat} {y : MethodName} {bytes : ByteArray} {maxL : Nat} {ret : Option FieldType}
    (hown : s.vm.findClass own = some m.cls) (hlink : (Cond.methodLink own index y).before args s = true) (hstat : (Cond.static y).before args s = true) (hinit : (Cond.initialized y.cls).before args s = true)
    (hcode : (Cond.code y bytes maxL ret).before args s = true) (hy : y.cls ≠ "java/lang/invoke/MethodHandle" ∧ y.cls ≠ "java/lang/invoke/VarHandle")
    {W9 : Nat} {Pre : Pt → Array Value → Prop} {Post : Pt → Array Value → Option Value → Pt → Prop} {PostX : Pt → Array Value → Addr → Pt → Prop} (hK : vx_Back l R p e below s args y 3 W9 Pre Post PostX)
    {g : JFrame} (hg : g.method = m) (hsize : g.locals.size = c.maxLocals) {argsL rest : List Value} (hlen : ∀ sig, parseMethodDescriptor y.desc = some sig → argsL.length = sig.parameters.length)
    (hstack : g.stack = argsL.reverse ++ rest) (hW : 2 * g.monitorRoom + (rest.map fun v => v.category).sum ≤ W9) (hdg : decode c.code g.pc = .ok (.invokestatic index, 3))
    (hpre : ∀ vm₁, s.WarmedH vm₁ → Pre ⟨T.setVm vm₁, locs, cells, slots⟩ argsL.toArray) :
    (∃ (v : Option Value) (vm₁ : Vm) (B : Pt), s.WarmedH vm₁ ∧ Stand p l e R s m args below meth c B.U B.locs B.cells B.slots ∧ Post ⟨T.setVm vm₁, locs, cells, slots⟩ argsL.toArray v B ∧
      ∀ target, Steps p.tables e below (B.U.setTop { g with pc := g.pc + 3, stack := v.toList ++ rest }) target → Steps p.tables e below (T.setTop g) target) ∨
    (∃ (q : Addr) (vm₁ : Vm) (B : Pt), s.WarmedH vm₁ ∧ Stand p l e R s m args below meth c B.U B.locs B.cells B.slots ∧ PostX ⟨T.setVm vm₁, locs, cells, slots⟩ argsL.toArray q B ∧
      Steps p.tables e below (T.setTop g) ((B.U.setTop { g with stack := rest }).pushFrame (.throwing q))) := by
  obtain ⟨mk, hnamed⟩ := Cond.code_named hcode
  obtain ⟨methM, cM, hmethM, -, -, -, -, -, -, hsigM⟩ := Cond.code_spec hnamed hcode
  have hstatic : methM.isStatic = true := Cond.static_spec hnamed hmethM hstat
  obtain ⟨kP, hkP, -⟩ := className_of_methodNamed hnamed
  have hinitP : kP.init = .initialized := Cond.initialized_spec (findClass_of_methodNamed hnamed) hkP hinit
  obtain ⟨vm₁, X₁, hstep₁⟩ := X.invokestatic hexec hown hlink hnamed hmethM hstatic hkP hinitP hy (g := g) hg (argsL := argsL) (rest := rest) (hlen _ hsigM) hstack hdg
  rcases hK m meth c ⟨T.setVm vm₁, locs, cells, slots⟩ { g with stack := rest } (.invokestatic index) mk argsL.toArray X₁ hg hsize hdg hW (X₁.named hnamed) (hpre vm₁ X₁.warmed) with ⟨v, B, X', hpost, hsteps⟩ | ⟨q, B, X', hpost, hsteps⟩
  · exact Or.inl ⟨v, vm₁, B, X₁.warmed, X', hpost, fun target h => hstep₁ _ fun acts => by rw [doInvoke_state]; exact hsteps.trans h⟩
  · exact Or.inr ⟨q, vm₁, B, X₁.warmed, X', hpost, hstep₁ _ fun acts => by rw [doInvoke_state]; exact hsteps⟩
end Calls
theorem vx_cls {s : State} {T : State} {vm₁ : Vm} {E : String} {k : ClassId} (hW : s.WarmedH vm₁) (h : (T.setVm vm₁).vm.findClass E = some k) : s.vm.findClass E = some k := by
  have h1 : vm₁.findClass E = some k := h
  rw [hW.alike.findClass] at h1
  exact h1
/-- the method's frame g, with q thrown over it -/
def vx_W (p : Program) (l : Launch) (e : Env) (R : Room) (s : State) (m : MethodId) (args : Array Value) (below : List Frame) (meth : Method) (c : Code) (H : Heap) (locs : List Loc) (cells slots : Nat) (Q : State → Prop) (g : JFrame) (q : Addr) : Prop :=
  ∀ T : State, T.heap = H → Stand p l e R s m args below meth c T locs cells slots → ∃ t, Steps p.tables e below ((T.setTop g).pushFrame (.throwing q)) t ∧ Q t
def vx_Run (p : Program) (l : Launch) (e : Env) (R : Room) (s : State) (m : MethodId) (args : Array Value) (below : List Frame) (meth : Method) (c : Code) (H : Heap) (locs : List Loc) (cells slots mc ms : Nat) (g : JFrame) (rest : List Value) (Qa : State → Outcome → State → Prop) (XC : String → State → State → Prop) (free : Addr → Prop) : Prop :=
  ∀ T : State, T.heap = H → Stand p l e R s m args below meth c T locs cells slots →
    (∃ (v : Option Value) (st₀ t T' : State) (L : List Loc), st₀.heap = H ∧ Stand p l e R s m args below meth c T' (locs ++ L) (cells + mc) (slots + ms) ∧ (∀ q ∈ L, free q.base) ∧ T'.heap = t.heap ∧ T'.vm = t.vm ∧ Qa st₀ (.returned v) t ∧
      Goes p e below T g T' { g with pc := g.pc + 3, stack := v.toList ++ rest }) ∨
    (∃ (q : Addr) (st₀ t T' : State) (L : List Loc) (E : String) (ce : Cell), st₀.heap = H ∧ Stand p l e R s m args below meth c T' (locs ++ L) (cells + mc) (slots + ms) ∧ (∀ z ∈ L, free z.base) ∧ T'.heap = t.heap ∧ T'.vm = t.vm ∧ XC E st₀ t ∧ t.heap[q]? = some ce ∧ ce.vm = .none ∧ s.vm.findClass E = some ce.cls ∧
      Steps p.tables e below (T.setTop g) ((T'.setTop { g with stack := rest }).pushFrame (.throwing q)))
def vx_X {S : Type} (px : S → Prop) (B : String → S → State → Prop) (A : Nat → Prop) : String → State → State → Prop := fun E st t => ∃ u : S, px u ∧ B E u t ∧ va_F A st t
section Runs
variable {p : Program} {l : Launch} {e : Env} {R : Room} {s : State} {m : MethodId} {args : Array Value} {below : List Frame} {meth : Method} {c : Code} {H : Heap} {locs : List Loc} {cells slots : Nat}
variable {y : MethodName} {bytes cc : ByteArray} {maxL nL mc ms n index : Nat} {ret : Option FieldType} {ws : List Cond} {rm : Room} {Pc : Array Value → State → Prop} {Qc : Array Value → State → Outcome → State → Prop} {XC : String → State → State → Prop} {free : Addr → Prop} {Ts : List Cond} {own C : String} {b : Addr} {As rest : List Value} {g : JFrame}
theorem vx_callBack (cb : CallB R s args own index y bytes maxL ret ws rm mc ms n) (hM : vx_Met l y ws rm Pc Qc XC mc ms free) (hbl : FrameBlind Pc) : vx_Back l R p e below s args y 3 8 (PreOf R mc ms Pc) (PostOf Qc mc ms free) (vx_Post XC mc ms free) := by
  obtain ⟨hrc, hrs, hfr, hlo, hws, hcw, -, hini, -⟩ := cb
  exact vx_back (bytes := bytes) (maxL := maxL) (ret := ret) hM hbl hrc hrs hfr hlo hws hcw (fun a' U hW => word_at hW (Or.inl (by first | rfl | simp [Cond.onTables, Cond.keeps, Cond.steady])) hini)
theorem vx_runV (S : CallFix p m c cc nL s args Ts own) (hM : vx_Met l y ws rm Pc Qc XC mc ms free) (cw : CallW R s args own C index y bytes maxL ret ws rm mc ms n) (hp : PreV s H C b Pc As)
    (hg : g.method = m) (hn : As.length = n) (hsize : g.locals.size = nL) (hstack : g.stack = As.reverse ++ .ref b :: rest) (hW : 2 * g.monitorRoom + (rest.map fun v => v.category).sum ≤ 8) (hdg : decode cc g.pc = .ok (.invokevirtual index, 3)) (hf : cells + mc ≤ R.cells ∧ slots + ms ≤ R.slots) :
    vx_Run p l e R s m args below meth c H locs cells slots mc ms g rest (Qc (Value.ref b :: As).toArray) XC free := by
  have hK : vx_Back l R p e below s args y 3 8 (PreOf R mc ms Pc) (PostOf Qc mc ms free) (vx_Post XC mc ms free) := vx_callBack cw.1 hM hp.1
  obtain ⟨⟨-, -, -, -, -, -, hcode, -, hy, hlen, hl⟩, hin, hse⟩ := cw
  obtain ⟨hx, hb, hml, ho, -⟩ := S
  obtain ⟨-, ⟨cellB, hcB, hoB, hclB⟩, hPc⟩ := hp
  intro T hT X
  rcases vx_callV X hx (C := C) (bytes := bytes) (maxL := maxL) (ret := ret) ho hl hin hse hcode hy hK (by rw [hT]; exact hcB) hoB hclB hg (hsize.trans hml.symm) (argsL := As) (rest := rest) (fun sig h => hn.trans (hlen sig h)) hstack hW (by rw [hb]; exact hdg)
    (fun vm₁ hW₁ => ⟨hf.1, hf.2, hPc (T.setVm vm₁) hT hW₁⟩) with ⟨v, vm₁, ⟨U', l2, c2, s2⟩, hW₁, X', ⟨g', mk, t, L, e1, e2, hq, h1, hL, h2, h3⟩, st⟩ | ⟨q, vm₁, ⟨U', l2, c2, s2⟩, hW₁, X', ⟨g', mk, t, L, E, ce, e1, e2, hq, hce, hcv, hcl, h1, hL, h2, h3⟩, st⟩
  · dsimp only [Pt.U, Pt.locs, Pt.cells, Pt.slots] at X' e1 e2 h1 h2 h3 st
    subst h1; subst h2; subst h3
    exact Or.inl ⟨v, (T.setVm vm₁).calling g' mk (Value.ref b :: As).toArray, t, U', L, hT, X', hL, e1, e2, hq, st⟩
  · dsimp only [Pt.U, Pt.locs, Pt.cells, Pt.slots] at X' e1 e2 h1 h2 h3 st hcl
    subst h1; subst h2; subst h3
    exact Or.inr ⟨q, (T.setVm vm₁).calling g' mk (Value.ref b :: As).toArray, t, U', L, E, ce, hT, X', hL, e1, e2, hq, hce, hcv, vx_cls hW₁ hcl, st⟩
theorem vx_runS (S : CallFix p m c cc nL s args Ts own) (hM : vx_Met l y ws rm Pc Qc XC mc ms free) (cw : CallB R s args own index y bytes maxL ret ws rm mc ms n ∧ (Cond.static y).before args s = true) (hp : PreS s H Pc As)
    (hg : g.method = m) (hn : As.length = n) (hsize : g.locals.size = nL) (hstack : g.stack = As.reverse ++ rest) (hW : 2 * g.monitorRoom + (rest.map fun v => v.category).sum ≤ 8) (hdg : decode cc g.pc = .ok (.invokestatic index, 3)) (hf : cells + mc ≤ R.cells ∧ slots + ms ≤ R.slots) :
    vx_Run p l e R s m args below meth c H locs cells slots mc ms g rest (Qc As.toArray) XC free := by
  have hK : vx_Back l R p e below s args y 3 8 (PreOf R mc ms Pc) (PostOf Qc mc ms free) (vx_Post XC mc ms free) := vx_callBack cw.1 hM hp.1
  obtain ⟨⟨-, -, -, -, -, -, hcode, hini, hy, hlen, hl⟩, hstt⟩ := cw
  obtain ⟨hx, hb, hml, ho, -⟩ := S
  intro T hT X
  rcases vx_callS X hx (bytes := bytes) (maxL := maxL) (ret := ret) ho hl hstt hini hcode hy hK hg (hsize.trans hml.symm) (argsL := As) (rest := rest) (fun sig h => hn.trans (hlen sig h)) hstack hW (by rw [hb]; exact hdg)
    (fun vm₁ hW₁ => ⟨hf.1, hf.2, hp.2 (T.setVm vm₁) hT hW₁⟩) with ⟨v, vm₁, ⟨U', l2, c2, s2⟩, hW₁, X', ⟨g', mk, t, L, e1, e2, hq, h1, hL, h2, h3⟩, st⟩ | ⟨q, vm₁, ⟨U', l2, c2, s2⟩, hW₁, X', ⟨g', mk, t, L, E, ce, e1, e2, hq, hce, hcv, hcl, h1, hL, h2, h3⟩, st⟩
  · dsimp only [Pt.U, Pt.locs, Pt.cells, Pt.slots] at X' e1 e2 h1 h2 h3 st
    subst h1; subst h2; subst h3
    exact Or.inl ⟨v, (T.setVm vm₁).calling g' mk As.toArray, t, U', L, hT, X', hL, e1, e2, hq, st⟩
  · dsimp only [Pt.U, Pt.locs, Pt.cells, Pt.slots] at X' e1 e2 h1 h2 h3 st hcl
    subst h1; subst h2; subst h3
    exact Or.inr ⟨q, (T.setVm vm₁).calling g' mk As.toArray, t, U', L, E, ce, hT, X', hL, e1, e2, hq, hce, hcv, vx_cls hW₁ hcl, st⟩
end Runs
section Rows
variable {p : Program} {l : Launch} {e : Env} {R : Room} {s : State} {m : MethodId} {args : Array Value} {below : List Frame} {meth : Method} {c : Code} {H : Heap} {locs : List Loc} {cells slots : Nat} {Q : State → Prop}
variable {mc ms : Nat} {free : Addr → Prop} {A0 A1 : Nat → Prop} {H0 : Heap} {a : Array Value} {pc : Nat} {ls : Array Slot} {st0 rest : List Value}
theorem vx_keep {st₀ t T' : State} {L : List Loc} (h0 : st₀.heap = H) (e1 : T'.heap = t.heap) (hS : va_S A0 H0 H locs) (hA : ∀ q, q < H.size → A1 q → A0 q) (hf : ∀ q, free q → A0 q) (hL : ∀ q ∈ L, free q.base) (hF : va_F A1 st₀ t) :
    H.size ≤ T'.heap.size ∧ (∀ q : Nat, q < H.size → ¬ A1 q → T'.heap[q]? = H[q]?) ∧ va_S A0 H0 T'.heap (locs ++ L) := by
  obtain ⟨hz, hk⟩ := hF
  rw [h0] at hz hk
  exact ⟨by rw [e1]; exact hz, fun q h1 h2 => by rw [e1]; exact hk q h1 h2,
    ⟨Nat.le_trans hS.1 (by rw [e1]; exact hz), fun q h1 h2 => by rw [e1, hk q (Nat.lt_of_lt_of_le h1 hS.1) (fun z => h2 (hA q (Nat.lt_of_lt_of_le h1 hS.1) z))]; exact hS.2.1 q h1 h2, fun q hq => by
      rcases List.mem_append.mp hq with h | h
      · exact hS.2.2 q h
      · exact hf _ (hL q h)⟩⟩
theorem vx_calli {S SX : Type} {post : Int32 → S → Prop} {px : SX → Prop} {B : S → State → Prop} {BX : String → SX → State → Prop} {AX : Nat → Prop} (hr : vx_Run p l e R s m args below meth c H locs cells slots mc ms (F0 m pc ls st0) rest (va_Qi post B A1 a) (vx_X px BX AX) free) (hS : va_S A0 H0 H locs) (hA : ∀ q, q < H.size → A1 q → A0 q) (hf : ∀ q, free q → A0 q) (hAX : ∀ q, q < H.size → AX q → A0 q)
    (kx : ∀ (E : String) (ce : Cell) (q9 : Addr) (u : SX) (t : State) (H1 : Heap) (locs1 : List Loc), t.heap = H1 → s.vm.Alike t.vm → px u → BX E u t → H.size ≤ H1.size → (∀ q : Nat, q < H.size → ¬ AX q → H1[q]? = H[q]?) → va_S A0 H0 H1 locs1 → H1[q9]? = some ce → ce.vm = .none → s.vm.findClass E = some ce.cls → vx_W p l e R s m args below meth c H1 locs1 (cells + mc) (slots + ms) Q (F0 m pc ls rest) q9)
    (kk : ∀ (r : Int32) (u : S) (t : State) (H1 : Heap) (locs1 : List Loc), t.heap = H1 → s.vm.Alike t.vm → post r u → B u t → H.size ≤ H1.size → (∀ q : Nat, q < H.size → ¬ A1 q → H1[q]? = H[q]?) → va_S A0 H0 H1 locs1 → W p l e R s m args below meth c H1 locs1 (cells + mc) (slots + ms) Q (F0 m (pc + 3) ls (.int r :: rest))) : W p l e R s m args below meth c H locs cells slots Q (F0 m pc ls st0) := by
  intro T hT X
  rcases hr T hT X with ⟨v, st₀, t, T', L, h0, X', hL, e1, e2, ⟨⟨r, u, hv, hp, hb⟩, hF⟩, st⟩ | ⟨q, st₀, t, T', L, E, ce, h0, X', hL, e1, e2, ⟨u, hp, hb, hF⟩, hce, hcv, hcl, st⟩
  · cases hv
    obtain ⟨k1, k2, k3⟩ := vx_keep h0 e1 hS hA hf hL hF
    obtain ⟨t2, a1, b1⟩ := kk r u t T'.heap (locs ++ L) e1.symm (by rw [← e2]; exact X'.warmed.alike) hp hb k1 k2 k3 T' rfl X'
    exact ⟨t2, st t2 a1, b1⟩
  · obtain ⟨k1, k2, k3⟩ := vx_keep h0 e1 hS hAX hf hL hF
    obtain ⟨t2, a1, b1⟩ := kx E ce q u t T'.heap (locs ++ L) e1.symm (by rw [← e2]; exact X'.warmed.alike) hp hb k1 k2 k3 (by rw [e1]; exact hce) hcv hcl T' rfl X'
    exact ⟨t2, st.trans a1, b1⟩
theorem vx_calll {S SX : Type} {post : Int64 → S → Prop} {px : SX → Prop} {B : S → State → Prop} {BX : String → SX → State → Prop} {AX : Nat → Prop} (hr : vx_Run p l e R s m args below meth c H locs cells slots mc ms (F0 m pc ls st0) rest (va_Ql post B A1 a) (vx_X px BX AX) free) (hS : va_S A0 H0 H locs) (hA : ∀ q, q < H.size → A1 q → A0 q) (hf : ∀ q, free q → A0 q) (hAX : ∀ q, q < H.size → AX q → A0 q)
    (kx : ∀ (E : String) (ce : Cell) (q9 : Addr) (u : SX) (t : State) (H1 : Heap) (locs1 : List Loc), t.heap = H1 → s.vm.Alike t.vm → px u → BX E u t → H.size ≤ H1.size → (∀ q : Nat, q < H.size → ¬ AX q → H1[q]? = H[q]?) → va_S A0 H0 H1 locs1 → H1[q9]? = some ce → ce.vm = .none → s.vm.findClass E = some ce.cls → vx_W p l e R s m args below meth c H1 locs1 (cells + mc) (slots + ms) Q (F0 m pc ls rest) q9)
    (kk : ∀ (r : Int64) (u : S) (t : State) (H1 : Heap) (locs1 : List Loc), t.heap = H1 → s.vm.Alike t.vm → post r u → B u t → H.size ≤ H1.size → (∀ q : Nat, q < H.size → ¬ A1 q → H1[q]? = H[q]?) → va_S A0 H0 H1 locs1 → W p l e R s m args below meth c H1 locs1 (cells + mc) (slots + ms) Q (F0 m (pc + 3) ls (.long r :: rest))) : W p l e R s m args below meth c H locs cells slots Q (F0 m pc ls st0) := by
  intro T hT X
  rcases hr T hT X with ⟨v, st₀, t, T', L, h0, X', hL, e1, e2, ⟨⟨r, u, hv, hp, hb⟩, hF⟩, st⟩ | ⟨q, st₀, t, T', L, E, ce, h0, X', hL, e1, e2, ⟨u, hp, hb, hF⟩, hce, hcv, hcl, st⟩
  · cases hv
    obtain ⟨k1, k2, k3⟩ := vx_keep h0 e1 hS hA hf hL hF
    obtain ⟨t2, a1, b1⟩ := kk r u t T'.heap (locs ++ L) e1.symm (by rw [← e2]; exact X'.warmed.alike) hp hb k1 k2 k3 T' rfl X'
    exact ⟨t2, st t2 a1, b1⟩
  · obtain ⟨k1, k2, k3⟩ := vx_keep h0 e1 hS hAX hf hL hF
    obtain ⟨t2, a1, b1⟩ := kx E ce q u t T'.heap (locs ++ L) e1.symm (by rw [← e2]; exact X'.warmed.alike) hp hb k1 k2 k3 (by rw [e1]; exact hce) hcv hcl T' rfl X'
    exact ⟨t2, st.trans a1, b1⟩
theorem vx_callf {S SX : Type} {post : UInt32 → S → Prop} {px : SX → Prop} {B : S → State → Prop} {BX : String → SX → State → Prop} {AX : Nat → Prop} (hr : vx_Run p l e R s m args below meth c H locs cells slots mc ms (F0 m pc ls st0) rest (va_Qf post B A1 a) (vx_X px BX AX) free) (hS : va_S A0 H0 H locs) (hA : ∀ q, q < H.size → A1 q → A0 q) (hf : ∀ q, free q → A0 q) (hAX : ∀ q, q < H.size → AX q → A0 q)
    (kx : ∀ (E : String) (ce : Cell) (q9 : Addr) (u : SX) (t : State) (H1 : Heap) (locs1 : List Loc), t.heap = H1 → s.vm.Alike t.vm → px u → BX E u t → H.size ≤ H1.size → (∀ q : Nat, q < H.size → ¬ AX q → H1[q]? = H[q]?) → va_S A0 H0 H1 locs1 → H1[q9]? = some ce → ce.vm = .none → s.vm.findClass E = some ce.cls → vx_W p l e R s m args below meth c H1 locs1 (cells + mc) (slots + ms) Q (F0 m pc ls rest) q9)
    (kk : ∀ (r : UInt32) (u : S) (t : State) (H1 : Heap) (locs1 : List Loc), t.heap = H1 → s.vm.Alike t.vm → post r u → B u t → H.size ≤ H1.size → (∀ q : Nat, q < H.size → ¬ A1 q → H1[q]? = H[q]?) → va_S A0 H0 H1 locs1 → W p l e R s m args below meth c H1 locs1 (cells + mc) (slots + ms) Q (F0 m (pc + 3) ls (.float r :: rest))) : W p l e R s m args below meth c H locs cells slots Q (F0 m pc ls st0) := by
  intro T hT X
  rcases hr T hT X with ⟨v, st₀, t, T', L, h0, X', hL, e1, e2, ⟨⟨r, u, hv, hp, hb⟩, hF⟩, st⟩ | ⟨q, st₀, t, T', L, E, ce, h0, X', hL, e1, e2, ⟨u, hp, hb, hF⟩, hce, hcv, hcl, st⟩
  · cases hv
    obtain ⟨k1, k2, k3⟩ := vx_keep h0 e1 hS hA hf hL hF
    obtain ⟨t2, a1, b1⟩ := kk r u t T'.heap (locs ++ L) e1.symm (by rw [← e2]; exact X'.warmed.alike) hp hb k1 k2 k3 T' rfl X'
    exact ⟨t2, st t2 a1, b1⟩
  · obtain ⟨k1, k2, k3⟩ := vx_keep h0 e1 hS hAX hf hL hF
    obtain ⟨t2, a1, b1⟩ := kx E ce q u t T'.heap (locs ++ L) e1.symm (by rw [← e2]; exact X'.warmed.alike) hp hb k1 k2 k3 (by rw [e1]; exact hce) hcv hcl T' rfl X'
    exact ⟨t2, st.trans a1, b1⟩
theorem vx_calld {S SX : Type} {post : UInt64 → S → Prop} {px : SX → Prop} {B : S → State → Prop} {BX : String → SX → State → Prop} {AX : Nat → Prop} (hr : vx_Run p l e R s m args below meth c H locs cells slots mc ms (F0 m pc ls st0) rest (va_Qd post B A1 a) (vx_X px BX AX) free) (hS : va_S A0 H0 H locs) (hA : ∀ q, q < H.size → A1 q → A0 q) (hf : ∀ q, free q → A0 q) (hAX : ∀ q, q < H.size → AX q → A0 q)
    (kx : ∀ (E : String) (ce : Cell) (q9 : Addr) (u : SX) (t : State) (H1 : Heap) (locs1 : List Loc), t.heap = H1 → s.vm.Alike t.vm → px u → BX E u t → H.size ≤ H1.size → (∀ q : Nat, q < H.size → ¬ AX q → H1[q]? = H[q]?) → va_S A0 H0 H1 locs1 → H1[q9]? = some ce → ce.vm = .none → s.vm.findClass E = some ce.cls → vx_W p l e R s m args below meth c H1 locs1 (cells + mc) (slots + ms) Q (F0 m pc ls rest) q9)
    (kk : ∀ (r : UInt64) (u : S) (t : State) (H1 : Heap) (locs1 : List Loc), t.heap = H1 → s.vm.Alike t.vm → post r u → B u t → H.size ≤ H1.size → (∀ q : Nat, q < H.size → ¬ A1 q → H1[q]? = H[q]?) → va_S A0 H0 H1 locs1 → W p l e R s m args below meth c H1 locs1 (cells + mc) (slots + ms) Q (F0 m (pc + 3) ls (.double r :: rest))) : W p l e R s m args below meth c H locs cells slots Q (F0 m pc ls st0) := by
  intro T hT X
  rcases hr T hT X with ⟨v, st₀, t, T', L, h0, X', hL, e1, e2, ⟨⟨r, u, hv, hp, hb⟩, hF⟩, st⟩ | ⟨q, st₀, t, T', L, E, ce, h0, X', hL, e1, e2, ⟨u, hp, hb, hF⟩, hce, hcv, hcl, st⟩
  · cases hv
    obtain ⟨k1, k2, k3⟩ := vx_keep h0 e1 hS hA hf hL hF
    obtain ⟨t2, a1, b1⟩ := kk r u t T'.heap (locs ++ L) e1.symm (by rw [← e2]; exact X'.warmed.alike) hp hb k1 k2 k3 T' rfl X'
    exact ⟨t2, st t2 a1, b1⟩
  · obtain ⟨k1, k2, k3⟩ := vx_keep h0 e1 hS hAX hf hL hF
    obtain ⟨t2, a1, b1⟩ := kx E ce q u t T'.heap (locs ++ L) e1.symm (by rw [← e2]; exact X'.warmed.alike) hp hb k1 k2 k3 (by rw [e1]; exact hce) hcv hcl T' rfl X'
    exact ⟨t2, st.trans a1, b1⟩
theorem vx_callv {S SX : Type} {post : S → Prop} {px : SX → Prop} {B : S → State → Prop} {BX : String → SX → State → Prop} {AX : Nat → Prop} (hr : vx_Run p l e R s m args below meth c H locs cells slots mc ms (F0 m pc ls st0) rest (va_Qv post B A1 a) (vx_X px BX AX) free) (hS : va_S A0 H0 H locs) (hA : ∀ q, q < H.size → A1 q → A0 q) (hf : ∀ q, free q → A0 q) (hAX : ∀ q, q < H.size → AX q → A0 q)
    (kx : ∀ (E : String) (ce : Cell) (q9 : Addr) (u : SX) (t : State) (H1 : Heap) (locs1 : List Loc), t.heap = H1 → s.vm.Alike t.vm → px u → BX E u t → H.size ≤ H1.size → (∀ q : Nat, q < H.size → ¬ AX q → H1[q]? = H[q]?) → va_S A0 H0 H1 locs1 → H1[q9]? = some ce → ce.vm = .none → s.vm.findClass E = some ce.cls → vx_W p l e R s m args below meth c H1 locs1 (cells + mc) (slots + ms) Q (F0 m pc ls rest) q9)
    (kk : ∀ (u : S) (t : State) (H1 : Heap) (locs1 : List Loc), t.heap = H1 → s.vm.Alike t.vm → post u → B u t → H.size ≤ H1.size → (∀ q : Nat, q < H.size → ¬ A1 q → H1[q]? = H[q]?) → va_S A0 H0 H1 locs1 → W p l e R s m args below meth c H1 locs1 (cells + mc) (slots + ms) Q (F0 m (pc + 3) ls (rest))) : W p l e R s m args below meth c H locs cells slots Q (F0 m pc ls st0) := by
  intro T hT X
  rcases hr T hT X with ⟨v, st₀, t, T', L, h0, X', hL, e1, e2, ⟨⟨u, hv, hp, hb⟩, hF⟩, st⟩ | ⟨q, st₀, t, T', L, E, ce, h0, X', hL, e1, e2, ⟨u, hp, hb, hF⟩, hce, hcv, hcl, st⟩
  · cases hv
    obtain ⟨k1, k2, k3⟩ := vx_keep h0 e1 hS hA hf hL hF
    obtain ⟨t2, a1, b1⟩ := kk u t T'.heap (locs ++ L) e1.symm (by rw [← e2]; exact X'.warmed.alike) hp hb k1 k2 k3 T' rfl X'
    exact ⟨t2, st t2 a1, b1⟩
  · obtain ⟨k1, k2, k3⟩ := vx_keep h0 e1 hS hAX hf hL hF
    obtain ⟨t2, a1, b1⟩ := kx E ce q u t T'.heap (locs ++ L) e1.symm (by rw [← e2]; exact X'.warmed.alike) hp hb k1 k2 k3 (by rw [e1]; exact hce) hcv hcl T' rfl X'
    exact ⟨t2, st.trans a1, b1⟩
/-- caught by the row x of this method's table; the rows ahead don't take it -/
theorem vx_catch {own name : String} {E : String} {ce : Cell} {q : Addr} (hown : s.vm.findClass own = some m.cls) (pre : List ExceptionTableEntry) (x : ExceptionTableEntry) (suf : List ExceptionTableEntry) (hsplit : c.exceptionTable.toList = pre ++ x :: suf)
    (hpass : ∀ z ∈ pre, covers z pc = false ∨ (z.catchType ≠ 0 ∧ ∃ nm : String, (Cond.classLink own z.catchType nm).before args s = true ∧ va_Nc E nm s)) (hx : covers x pc = true) (h0 : x.catchType ≠ 0)
    (hlink : (Cond.classLink own x.catchType name).before args s = true) (hcast : (Cond.castable E name).before args s = true) (hcell : H[q]? = some ce) (hv : ce.vm = .none) (hcl : s.vm.findClass E = some ce.cls)
    (kk : W p l e R s m args below meth c H locs cells slots Q (F0 m x.handlerPc ls [.ref q])) : vx_W p l e R s m args below meth c H locs cells slots Q (F0 m pc ls rest) q := by
  intro T hT X
  have hpl : e.platform.magicAccessors = ({} : Platform).magicAccessors := by rw [X.admits.platform]
  obtain ⟨c3, c4, hc3, hc4, hasg⟩ := Cond.castable_spec hcast
  cases Option.some.inj (hc3.symm.trans hcl)
  obtain ⟨c5, hc5, hcl5⟩ := Cond.classLink_spec hown hlink e.platform hpl
  cases Option.some.inj (hc4.symm.trans hc5)
  obtain ⟨vm', X', st⟩ := X.thenCaughtThrough q (g := F0 m pc ls rest) rfl (Steps.refl _) (by rw [hT]; exact hcell) (by rw [hv]; rfl) (by obtain ⟨k9, h9, -⟩ := Vm.findClass_spec hcl; exact ⟨k9, h9⟩) pre x suf hsplit
    (fun z hz => by
      rcases hpass z hz with h | ⟨hz0, nm, hl1, hn1⟩
      · exact Or.inl h
      · obtain ⟨c6, hc6, hcl6⟩ := Cond.classLink_spec hown hl1 e.platform hpl
        obtain ⟨a8, b8, h1, h2, h3⟩ := hn1
        cases Option.some.inj (h1.symm.trans hcl)
        cases Option.some.inj (h2.symm.trans hc6)
        exact Or.inr ⟨hz0, _, hcl6, h3⟩) hx (Or.inr ⟨h0, c4, hcl5, hasg⟩)
  obtain ⟨t, a1, b1⟩ := kk (T.setVm vm') hT X'
  exact ⟨t, st.trans a1, b1⟩
end Rows
section Ends
variable {p : Program} {l : Launch} {e : Env} {R : Room} {s : State} {m : MethodId} {args : Array Value} {below : List Frame} {meth : Method} {c : Code} {H : Heap} {locs : List Loc} {cells slots : Nat} {Q : State → Prop}
variable {mc ms : Nat} {free : Addr → Prop} {A0 A1 : Nat → Prop} {H0 : Heap} {a : Array Value} {ls : Array Slot} {st0 rest : List Value}
variable {Qc : Array Value → State → Outcome → State → Prop} {XC : String → State → State → Prop}
/-- what a body that may throw owes at its end -/
def vx_MQ (below : List Frame) (Qc : Array Value → State → Outcome → State → Prop) (XC : String → State → State → Prop) (a : Array Value) (s : State) (mc ms : Nat) (free : Addr → Prop) : State → Prop := fun t =>
  ∃ o, t.status = .running ∧ Ended t below o ∧ vx_Q Qc XC mc ms free a s o t
theorem vx_ret {g : JFrame} {mc ms : Nat} (k : W p l e R s m args below meth c H locs cells slots (MQ below Qc args s mc ms free) g) : W p l e R s m args below meth c H locs cells slots (vx_MQ below Qc XC args s mc ms free) g := by
  intro T hT X
  obtain ⟨t, a1, o, b1, b2, b3, b4⟩ := k T hT X
  exact ⟨t, a1, o, b1, b2, Or.inl ⟨b3, b4⟩⟩
/-- not caught here: it goes on to the caller -/
theorem vx_widen {g : JFrame} {q : Addr} {k n : Nat} (h1 : cells ≤ k) (h2 : slots ≤ n) (kk : vx_W p l e R s m args below meth c H locs k n Q g q) : vx_W p l e R s m args below meth c H locs cells slots Q g q := fun T hT X => kk T hT (stand_widen X h1 h2)
theorem vx_out {pc : Nat} {E : String} {ce : Cell} {q : Addr} {mc ms : Nat} (hout : ∀ x ∈ c.exceptionTable.toList, covers x pc = false) (hlocks : meth.locks = false) (hcell : H[q]? = some ce) (hv : ce.vm = .none) (hcl : s.vm.findClass E = some ce.cls)
    (hx : ∀ t : State, t.heap = H → s.vm.Alike t.vm → XC E s t) (hf : ∀ z ∈ locs, free z.base) (hc : cells ≤ mc) (hs : slots ≤ ms) :
    vx_W p l e R s m args below meth c H locs cells slots (vx_MQ below Qc XC args s mc ms free) (F0 m pc ls rest) q := by
  intro T hT X
  obtain ⟨st1, hrun, hend, hW, hsm⟩ := X.leaveThrown q (g := F0 m pc ls rest) rfl rfl rfl hout hlocks
  have hcell9 : (T.setFrames (.throwing q :: below)).heap[q]? = some ce := by
    show T.heap[q]? = some ce
    rw [hT]; exact hcell
  exact ⟨_, st1, .threw q, hrun, hend, Or.inr ⟨q, rfl, E, ce, locs, hx _ hT hW.alike, hcell9, hv, hcl, hW, hsm.mono hc hs, hf⟩⟩
theorem vx_frame {U : State} {k n : Nat} (h : s.sameButNew ({ U with vm := s.vm } : State) locs k n) : s.heap.size ≤ U.heap.size ∧ ∀ q : Nat, q < s.heap.size → (∀ z ∈ locs, z.base ≠ q) → U.heap[q]? = s.heap[q]? := by
  obtain ⟨-, h2, -, -, -, h6⟩ := h
  refine ⟨h2, fun q hq hz => ?_⟩
  obtain ⟨c9, e1, e2, e3, e4⟩ := h6 q _ (Array.getElem?_eq_getElem hq)
  have hs : c9.slots = (s.heap[q]).slots := Array.ext_getElem? fun i => e4 i fun hm => hz _ hm rfl
  have h9 : c9 = s.heap[q] := by
    rw [hs] at e2
    exact e2
  have e5 : U.heap[q]? = some c9 := e1
  rw [e5, h9, Array.getElem?_eq_getElem hq]
/-- the words of a throw but the four that speak of the heap -/
def vx_no (w : Cond) : Bool := decide (w ≠ .isRef (.static Bundle.tN "UNASSIGNED_STACK" Bundle.steD)) && decide (w ≠ .isRef (.static Bundle.tN "SUPPRESSED_SENTINEL" Bundle.listD)) && decide (w ≠ .laysStatic Bundle.tN "UNASSIGNED_STACK" Bundle.steD) && decide (w ≠ .laysStatic Bundle.tN "SUPPRESSED_SENTINEL" Bundle.listD)
def vx_at0 (own : String) (ic : Nat) (X : String) (names : List String) : List Cond := (Bundle.ownAtoms0 own ic X names).filter vx_no
def vx_atS (own : String) (ic : Nat) (X : String) (names : List String) : List Cond := (Bundle.ownAtoms own ic X names).filter vx_no
/-- a word that the tables alone decide, or a good one -/
def vx_ot (w : Cond) : Bool := w.onTables || goodWord w
theorem vx_ot_at {args a' : Array Value} {s U : State} {w : Cond} (hW : s.WarmedH U.vm) (hvm : s.vm = U.vm) (hg : vx_ot w = true) (h : w.before args s = true) : w.before a' U = true := by
  simp only [vx_ot, Bool.or_eq_true] at hg
  rcases hg with hg | hg
  · exact va_tabs hg hvm h
  · exact word_at hW (good_of_word hg) h
/-- a list's words: the good ones out of the method's own list, the others by premises of their own -/
theorem vx_hat {args : Array Value} {s : State} {L B : List Cond} (h1 : ∀ w ∈ L.filter goodWord, w.before args s = true) (h2 : ∀ w ∈ L.filter (fun w => !goodWord w), w ∈ B) (h3 : ∀ w ∈ B, w.before args s = true) : ∀ w ∈ L, w.before args s = true := by
  intro w hw
  by_cases g : goodWord w = true
  · exact h1 w (List.mem_filter.mpr ⟨hw, g⟩)
  · refine h3 w (h2 w (List.mem_filter.mpr ⟨hw, ?_⟩))
    show (!goodWord w) = true
    cases hgw : goodWord w
    · rfl
    · exact absurd hgw g
theorem vx_c {args : Array Value} {s : State} {w : Cond} {B : List Cond} (h : w.before args s = true) (t : ∀ w ∈ B, w.before args s = true) : ∀ w' ∈ w :: B, w'.before args s = true := fun w' h' => (List.mem_cons.mp h').elim (fun e => by rw [e]; exact h) (t w')
theorem vx_n {args : Array Value} {s : State} : ∀ w ∈ ([] : List Cond), w.before args s = true := fun _ h => nomatch h
theorem vx_own {args : Array Value} {s : State} {L : List Cond} (h1 : ∀ w ∈ L.filter vx_no, w.before args s = true)
    (hU : (Cond.isRef (.static Bundle.tN "UNASSIGNED_STACK" Bundle.steD)).before args s = true) (hN : (Cond.isRef (.static Bundle.tN "SUPPRESSED_SENTINEL" Bundle.listD)).before args s = true)
    (lU : (Cond.laysStatic Bundle.tN "UNASSIGNED_STACK" Bundle.steD).before args s = true) (lN : (Cond.laysStatic Bundle.tN "SUPPRESSED_SENTINEL" Bundle.listD).before args s = true) : ∀ w ∈ L, w.before args s = true := by
  intro w hw
  by_cases e1 : w = .isRef (.static Bundle.tN "UNASSIGNED_STACK" Bundle.steD)
  · rw [e1]; exact hU
  · by_cases e2 : w = .isRef (.static Bundle.tN "SUPPRESSED_SENTINEL" Bundle.listD)
    · rw [e2]; exact hN
    · by_cases e3 : w = .laysStatic Bundle.tN "UNASSIGNED_STACK" Bundle.steD
      · rw [e3]; exact lU
      · by_cases e4 : w = .laysStatic Bundle.tN "SUPPRESSED_SENTINEL" Bundle.listD
        · rw [e4]; exact lN
        · exact h1 w (List.mem_filter.mpr ⟨hw, by unfold vx_no; rw [decide_eq_true e1, decide_eq_true e2, decide_eq_true e3, decide_eq_true e4]; rfl⟩)
/-- where a static field lies, its class's statics cell in H -/
def vx_L (C n d : String) (A : Nat → Prop) (U : State) (H : Heap) : Prop := ∃ (c : ClassId) (k : Class) (i : Nat) (f : Field) (a : Nat) (cell : Cell), U.vm.findClass C = some c ∧ U.fieldFound? C n d = some (c, k, i, f) ∧ f.isStatic = true ∧ k.statics = some a ∧ H[a]? = some cell ∧ cell.vm.isStatics = true ∧ cell.cls = c ∧ f.slot < cell.slots.size ∧ k.staticTypes[f.slot]? = some f.type ∧ ¬ A a
theorem vx_L.moved {C n d : String} {A : Nat → Prop} {u U : State} {H : Heap} (hvm : u.vm.Alike U.vm) (h : vx_L C n d A u H) : vx_L C n d A U H := by
  obtain ⟨c, k, i, f, a, cell, h1, h2, h3, h4, h5, h6, h7, h8, h9, h10⟩ := h
  obtain ⟨k', hi', he⟩ := State.fieldFound?_setVm hvm h2
  exact ⟨c, k', i, f, a, cell, by rw [hvm.findClass]; exact h1, hi', h3, by rw [he]; exact h4, h5, h6, h7, h8, by rw [he]; exact h9, h10⟩
theorem vx_L.kept {C n d : String} {A : Nat → Prop} {U : State} {H H1 : Heap} (h : vx_L C n d A U H) (hq : ∀ a : Nat, a < H.size → ¬ A a → H1[a]? = H[a]?) : vx_L C n d A U H1 := by
  obtain ⟨c, k, i, f, a, cell, h1, h2, h3, h4, h5, h6, h7, h8, h9, h10⟩ := h
  exact ⟨c, k, i, f, a, cell, h1, h2, h3, h4, by rw [hq a (Array.getElem?_eq_some_iff.mp h5).1 h10]; exact h5, h6, h7, h8, h9, h10⟩
theorem vx_L.narrow {C n d : String} {A B : Nat → Prop} {U : State} {H : Heap} (h : vx_L C n d A U H) (hAB : ∀ q, B q → A q) : vx_L C n d B U H := by
  obtain ⟨c, k, i, f, a, cell, h1, h2, h3, h4, h5, h6, h7, h8, h9, h10⟩ := h
  exact ⟨c, k, i, f, a, cell, h1, h2, h3, h4, h5, h6, h7, h8, h9, fun z => h10 (hAB _ z)⟩
theorem vx_L.word {C n d : String} {A : Nat → Prop} {s : State} {args : Array Value} (h : vx_L C n d A s s.heap) : (Cond.laysStatic C n d).before args s = true := by
  obtain ⟨c, k, i, f, a, cell, h1, h2, h3, h4, h5, h6, h7, h8, h9, -⟩ := h
  show (Cond.laysStatic C n d).holds args s none s [] = true
  exact Cond.laysStatic_of h1 h2 h3 h4 h5 h6 h7 h8 h9
/-- .. and what it holds: null or some reference -/
def vx_Zq (C n d : String) (A : Nat → Prop) (U : State) (H : Heap) : Prop := va_Zq C n d A U H ∧ vx_L C n d A U H
theorem vx_Zq.moved {C n d : String} {A : Nat → Prop} {u U : State} {H : Heap} (hvm : u.vm.Alike U.vm) (h : vx_Zq C n d A u H) : vx_Zq C n d A U H := ⟨va_Zq.moved hvm h.1, vx_L.moved hvm h.2⟩
theorem vx_Zq.kept {C n d : String} {A : Nat → Prop} {U : State} {H H1 : Heap} (h : vx_Zq C n d A U H) (hq : ∀ a : Nat, a < H.size → ¬ A a → H1[a]? = H[a]?) : vx_Zq C n d A U H1 := ⟨va_Zq.kept h.1 hq, vx_L.kept h.2 hq⟩
theorem vx_Zq.narrow {C n d : String} {A B : Nat → Prop} {U : State} {H : Heap} (h : vx_Zq C n d A U H) (hAB : ∀ q, B q → A q) : vx_Zq C n d B U H := ⟨va_Zq.narrow h.1 hAB, vx_L.narrow h.2 hAB⟩
theorem vx_Zqof {args : Array Value} {s : State} {C n d : String} {A : Nat → Prop} (hl : (Cond.laysStatic C n d).before args s = true) (hini : (Cond.initialized C).before args s = true) (h : (Cond.isRef (.static C n d)).before args s = true) (hA : ∀ a : Nat, a < s.heap.size → ¬ A a) : vx_Zq C n d A s s.heap := by
  refine ⟨va_Zqof hl hini h hA, ?_⟩
  obtain ⟨c, k, i, f, a, cell, h1, h2, h3, h4, h5, h6, h7, h8, h9⟩ := Cond.laysStatic_spec hl
  exact ⟨c, k, i, f, a, cell, h1, h2, h3, h4, h5, h6, h7, h8, h9, hA a (Array.getElem?_eq_some_iff.mp h5).1⟩
theorem vx_isRef {C n d : String} {v : Value} {A : Nat → Prop} {s : State} {args : Array Value} (h : va_Z C n d v A s s.heap) (hv : v.isRef = true) : (Cond.isRef (.static C n d)).before args s = true := by
  obtain ⟨cf, kf, fi, f, a, cell, h1, h2, h3, h4, h5, h6, h7, -⟩ := h
  have he : (Term.static C n d).eval args s none [] s = some v := by
    simp [Term.eval, State.fieldNamed?, h1, h2, h4, h5, h6, h7]
  simp only [Cond.before, Cond.holds, Cond.value, he]
  cases v <;> simp_all [Value.isRef]
theorem vx_isRefq {C n d : String} {A : Nat → Prop} {s : State} {args : Array Value} (h : va_Zq C n d A s s.heap) : (Cond.isRef (.static C n d)).before args s = true := by
  rcases h with h | ⟨t, h⟩
  · exact vx_isRef h rfl
  · exact vx_isRef h rfl
/-- the same frame, seen from here: as if the method were called anew in this heap -/
theorem vx_rebase {T : State} (X : Stand p l e R s m args below meth c T locs cells slots) {R' : Room} (hf : R'.frames ≤ R.frames) (hl : R'.locals ≤ R.locals) (hc : cells + R'.cells ≤ R.cells) (hs : slots + R'.slots ≤ R.slots) :
    Stand p l e R' ((T.setVm s.vm).setFrames (.invoking m args :: below)) m args below meth c T [] 0 0 := by
  have htop : (T.setVm s.vm).topJava?.isSome := X.here.top
  have hF : ((T.setVm s.vm).setFrames (.invoking m args :: below)).frames = .invoking m args :: below := State.frames_setFrames _ (State.cur_lt_of_top htop)
  obtain ⟨g₀, hg0⟩ := Option.isSome_iff_exists.mp htop
  obtain ⟨r, hr⟩ := State.topJava?_eq_some.mp hg0
  have hl9 : e.platform.stackLimits (T.setVm s.vm).me = e.platform.stackLimits s.me := X.limits
  have hb9 : (T.setVm s.vm).me.stackBytes = s.me.stackBytes := X.bytes
  refine ⟨X.admits, X.cas, X.clock, hF, ?_, X.hears, X.method, X.code, X.here, X.tail, X.warmed, ?_, ?_, ?_⟩
  · have h := X.room
    have hU : ((T.setVm s.vm).setFrames (.invoking m args :: below)).localsInUse = s.localsInUse := by
      rw [State.localsInUse_invoking hF (meth := meth) (c := c) X.method X.code, State.localsInUse_invoking X.frames X.method X.code]
    simp only [State.hasRoom, Bool.and_eq_true, decide_eq_true_eq] at h ⊢
    obtain ⟨⟨⟨⟨h1, h2, h3, h4, h5, h6⟩, h7⟩, h8⟩, h9⟩ := h
    rw [X.frames, List.length_cons] at h2 h3
    have q1 := X.heapSize
    have q2 := X.used
    simp only [hF, hU, List.length_cons, State.stackLimits_setFrames, State.stackBytes_setFrames, hl9, hb9]
    refine ⟨⟨⟨⟨by omega, by omega, by omega, by omega, by omega, h6⟩, ?_⟩, ?_⟩, X.book⟩
    · show T.heap.size + R'.cells ≤ e.platform.maxCells
      omega
    · show T.slotsUsed + R'.slots ≤ e.platform.maxSlots
      omega
  · rw [State.stackLimits_setFrames]; rfl
  · rw [State.stackBytes_setFrames]; rfl
  · refine ⟨?_, Nat.le_refl _, Nat.le_refl _, ?_, ?_, fun a c9 h9 => ⟨c9, h9, rfl, rfl, fun _ _ => rfl⟩⟩
    · obtain ⟨t, ht, -⟩ := State.frames_cons hr
      show T.setVm s.vm = { ((T.setVm s.vm).setFrames (.invoking m args :: below)).setFrames (T.setVm s.vm).frames with heap := T.heap, slotsUsed := T.slotsUsed }
      rw [State.setFrames_setFrames, State.setFrames_self ht]
      rfl
    · show T.slotsUsed = T.slotsUsed + ((T.heap.toList.drop T.heap.size).map (·.slots.size)).sum
      rw [List.drop_eq_nil_of_le (Nat.le_of_eq Array.length_toList)]
      rfl
    · show ((T.heap.toList.drop T.heap.size).map (·.slots.size)).sum ≤ 0
      rw [List.drop_eq_nil_of_le (Nat.le_of_eq Array.length_toList)]
      exact Nat.le_refl _
/-- 'throw new E()': new; dup; invokespecial; athrow -/
theorem vx_throw0 {cc : ByteArray} {pc : Nat} (hexec : p.tables.exec = Jvm.exec) (hb : c.code = cc) (hl : l.stackTraces = false) {own cls : String} {names : List String} {ik ic mc ms : Nat} {A : Nat → Prop}
    (hown : s.vm.findClass own = some m.cls) (hcls : Bundle.fit cls = true) (hnames : ∀ n ∈ names, Bundle.fit n = true)
    (hk : (Cond.classLink own ik cls).before args s = true) (hini : (Cond.initialized cls).before args s = true) (hat : ∀ w ∈ vx_at0 own ic cls names, w.before args s = true)
    (hgood : ∀ w ∈ Cond.classLink own ik cls :: Cond.initialized cls :: vx_at0 own ic cls names, vx_ot w = true)
    (hU : vx_Zq Bundle.tN "UNASSIGNED_STACK" Bundle.steD A s s.heap) (hN : vx_Zq Bundle.tN "SUPPRESSED_SENTINEL" Bundle.listD A s s.heap) (hS : va_S A s.heap H locs) (hsize : ls.size = c.maxLocals)
    (d0 : decode cc pc = .ok (.new ik, 3)) (d3 : decode cc (pc + 3) = .ok (.dup, 1)) (d4 : decode cc (pc + 4) = .ok (.invokespecial ic, 3)) (d7 : decode cc (pc + 7) = .ok (.athrow, 1))
    (hout : ∀ x ∈ c.exceptionTable.toList, covers x (pc + 7) = false)
    (hRframes : names.length + 3 < R.frames) (hRlocals : (rest.map fun v => v.category).sum + (13 * (names.length + 1) + 42) ≤ R.locals) (hRcells : cells + 1 ≤ R.cells) (hRslots : slots + 6 ≤ R.slots) (hlocks : meth.locks = false)
    (hx : ∀ t : State, s.vm.Alike t.vm → H.size ≤ t.heap.size → (∀ q : Nat, q < H.size → t.heap[q]? = H[q]?) → XC cls s t)
    (hf : ∀ z ∈ locs, free z.base) (hc : cells + 1 ≤ mc) (hs : slots + 6 ≤ ms) :
    W p l e R s m args below meth c H locs cells slots (vx_MQ below Qc XC args s mc ms free) (F0 m pc ls rest) := by
  intro T hT X
  have htr : e.platform.stackTraces = false := (show e.platform.stackTraces = l.stackTraces by rw [X.admits.platform]).trans hl
  have Y := vx_rebase X (R' := { frames := R.frames, locals := R.locals, cells := 1, slots := 6 }) (Nat.le_refl _) (Nat.le_refl _) hRcells hRslots
  obtain ⟨s', hA⟩ : ∃ z, z = (T.setVm s.vm).setFrames (.invoking m args :: below) := ⟨_, rfl⟩
  rw [← hA] at Y
  have hvm : s'.vm = s.vm := by rw [hA]; rfl
  have hhp : s'.heap = H := by rw [hA]; exact hT
  have hW0 : s.WarmedH s'.vm := by rw [hvm]; exact State.WarmedH.refl s
  have hat' : ∀ w ∈ vx_at0 own ic cls names, w.before args s' = true := fun w hw => vx_ot_at hW0 hvm.symm (hgood w (List.mem_cons_of_mem _ (List.mem_cons_of_mem _ hw))) (hat w hw)
  have hk' : (Cond.classLink own ik cls).before args s' = true := vx_ot_at hW0 hvm.symm (hgood _ List.mem_cons_self) hk
  have hini' : (Cond.initialized cls).before args s' = true := vx_ot_at hW0 hvm.symm (hgood _ (List.mem_cons_of_mem _ List.mem_cons_self)) hini
  have hU' : vx_Zq Bundle.tN "UNASSIGNED_STACK" Bundle.steD A s' s'.heap := by rw [hhp]; exact vx_Zq.moved hW0.alike (hU.kept hS.2.1)
  have hN' : vx_Zq Bundle.tN "SUPPRESSED_SENTINEL" Bundle.listD A s' s'.heap := by rw [hhp]; exact vx_Zq.moved hW0.alike (hN.kept hS.2.1)
  have h : ∀ w ∈ Bundle.ownAtoms0 own ic cls names, w.before args s' = true := vx_own hat' (vx_isRefq hU'.1) (vx_isRefq hN'.1) hU'.2.word hN'.2.word
  have hown' : s'.vm.findClass own = some m.cls := by rw [hvm]; exact hown
  have hins : (Cond.instantiable cls 6).before args s' = true := h _ (by simp [Bundle.ownAtoms0])
  obtain ⟨vm₁, cX, kX, hfX, hkX, -, -, X₁, st1⟩ := Y.newCold hexec (own := own) (C := cls) (index := ik) (n := 6) hown' hk' hins hini'
    (g := F0 m pc ls rest) rfl (by rw [hb]; exact d0) (Nat.le_refl _) (Nat.le_refl _)
  generalize hT1 : (T.setVm vm₁).pushCell { cls := cX, slots := kX.instanceTypes.map defaultValue, vm := .none } = T1 at X₁ st1
  have hcat : (Value.ref T.heap.size).category = 1 := rfl
  have hcellA : T1.heap[T.heap.size]? = some (freshCell cX kX) := by rw [← hT1]; exact State.heap_pushCell_size _ _
  have d3' : decode c.code (pc + 3) = .ok (.dup, 1) := by rw [hb]; exact d3
  obtain ⟨U, hsteps, hrun, hend, hW, hsame, ce, hce, hO⟩ := X₁.ctorThrow0 hexec htr (own := own) (cls := cls) (names := names) (ic := ic) hown' hcls hnames h (fun x hx => nomatch hx) hfX hkX hcellA (by rw [hhp, hT]; exact Nat.le_refl _)
    (g := { method := m, pc := pc + 4, locals := ls, stack := .ref T.heap.size :: .ref T.heap.size :: rest, locked := none }) rfl hsize rfl rfl (rest := rest) rfl
    (by rw [hb]; exact d4) (by rw [hb]; exact d7) hout hRframes (by simp only [List.map_cons, List.sum_cons, hcat]; omega) hlocks
  obtain ⟨f1, f2⟩ := vx_frame hsame
  rw [hhp] at f1 f2
  have hWs : s.WarmedH U.vm := State.WarmedH.trans hW0 hW
  have hcl : s.vm.findClass cls = some ce.cls := by
    have h9 := hO.cls
    rw [hvm] at h9
    exact h9
  have hall : s.sameButNew ({ U with vm := s.vm } : State) locs mc ms := by
    subst hA
    obtain ⟨e1, e2⟩ := hsame
    rw [State.setFrames_setFrames] at e1
    have h2 : (T.setVm s.vm).sameButNew ({ U with vm := s.vm } : State) [] (0 + 1) (0 + 6) := ⟨e1, e2⟩
    have h3 := X.same.trans h2
    rw [List.append_nil] at h3
    exact h3.mono hc hs
  refine ⟨U, ?_, .threw T.heap.size, hrun, hend, Or.inr ⟨T.heap.size, rfl, cls, ce, locs, hx U hWs.alike f1 (fun q hq => f2 q hq (fun z hz => nomatch hz)), hce, hO.vm, hcl, hWs, hall, hf⟩⟩
  refine st1 _ ?_
  show Steps p.tables e below (T1.setTop { method := m, pc := pc + 3, locals := ls, stack := .ref T.heap.size :: rest, locked := none }) _
  jvm_step X₁.here [X₁.here.top, hexec, d3', Value.category]
  exact hsteps
/-- 'throw new E("text")': new; dup; ldc; invokespecial; athrow -/
theorem vx_throwS {cc : ByteArray} {pc : Nat} (hexec : p.tables.exec = Jvm.exec) (hb : c.code = cc) (hl : l.stackTraces = false) {own cls text : String} {names : List String} {ik is ic mc ms sa : Nat} {A : Nat → Prop}
    (hown : s.vm.findClass own = some m.cls) (hcls : Bundle.fit cls = true) (hnames : ∀ n ∈ names, Bundle.fit n = true)
    (hk : (Cond.classLink own ik cls).before args s = true) (hini : (Cond.initialized cls).before args s = true) (hstr : vk_R own is text sa s) (hat : ∀ w ∈ vx_atS own ic cls names, w.before args s = true)
    (hgood : ∀ w ∈ Cond.classLink own ik cls :: Cond.initialized cls :: vx_atS own ic cls names, vx_ot w = true)
    (hU : vx_Zq Bundle.tN "UNASSIGNED_STACK" Bundle.steD A s s.heap) (hN : vx_Zq Bundle.tN "SUPPRESSED_SENTINEL" Bundle.listD A s s.heap) (hS : va_S A s.heap H locs) (hsize : ls.size = c.maxLocals)
    (d0 : decode cc pc = .ok (.new ik, 3)) (d3 : decode cc (pc + 3) = .ok (.dup, 1)) (d4 : decode cc (pc + 4) = .ok (.ldc is, 2)) (d6 : decode cc (pc + 6) = .ok (.invokespecial ic, 3)) (d9 : decode cc (pc + 9) = .ok (.athrow, 1))
    (hout : ∀ x ∈ c.exceptionTable.toList, covers x (pc + 9) = false)
    (hRframes : names.length + 3 < R.frames) (hRlocals : (rest.map fun v => v.category).sum + (13 * (names.length + 1) + 43) ≤ R.locals) (hRcells : cells + 1 ≤ R.cells) (hRslots : slots + 6 ≤ R.slots) (hlocks : meth.locks = false)
    (hx : ∀ t : State, s.vm.Alike t.vm → H.size ≤ t.heap.size → (∀ q : Nat, q < H.size → t.heap[q]? = H[q]?) → XC cls s t)
    (hf : ∀ z ∈ locs, free z.base) (hc : cells + 1 ≤ mc) (hs : slots + 6 ≤ ms) :
    W p l e R s m args below meth c H locs cells slots (vx_MQ below Qc XC args s mc ms free) (F0 m pc ls rest) := by
  intro T hT X
  have htr : e.platform.stackTraces = false := (show e.platform.stackTraces = l.stackTraces by rw [X.admits.platform]).trans hl
  have Y := vx_rebase X (R' := { frames := R.frames, locals := R.locals, cells := 1, slots := 6 }) (Nat.le_refl _) (Nat.le_refl _) hRcells hRslots
  obtain ⟨s', hA⟩ : ∃ z, z = (T.setVm s.vm).setFrames (.invoking m args :: below) := ⟨_, rfl⟩
  rw [← hA] at Y
  have hvm : s'.vm = s.vm := by rw [hA]; rfl
  have hhp : s'.heap = H := by rw [hA]; exact hT
  have hW0 : s.WarmedH s'.vm := by rw [hvm]; exact State.WarmedH.refl s
  have hat' : ∀ w ∈ vx_atS own ic cls names, w.before args s' = true := fun w hw => vx_ot_at hW0 hvm.symm (hgood w (List.mem_cons_of_mem _ (List.mem_cons_of_mem _ hw))) (hat w hw)
  have hk' : (Cond.classLink own ik cls).before args s' = true := vx_ot_at hW0 hvm.symm (hgood _ List.mem_cons_self) hk
  have hini' : (Cond.initialized cls).before args s' = true := vx_ot_at hW0 hvm.symm (hgood _ (List.mem_cons_of_mem _ List.mem_cons_self)) hini
  have hU' : vx_Zq Bundle.tN "UNASSIGNED_STACK" Bundle.steD A s' s'.heap := by rw [hhp]; exact vx_Zq.moved hW0.alike (hU.kept hS.2.1)
  have hN' : vx_Zq Bundle.tN "SUPPRESSED_SENTINEL" Bundle.listD A s' s'.heap := by rw [hhp]; exact vx_Zq.moved hW0.alike (hN.kept hS.2.1)
  have h : ∀ w ∈ Bundle.ownAtoms own ic cls names, w.before args s' = true := vx_own hat' (vx_isRefq hU'.1) (vx_isRefq hN'.1) hU'.2.word hN'.2.word
  have hown' : s'.vm.findClass own = some m.cls := by rw [hvm]; exact hown
  have hins : (Cond.instantiable cls 6).before args s' = true := h _ (by simp [Bundle.ownAtoms])
  obtain ⟨vm₁, cX, kX, hfX, hkX, -, -, X₁, st1⟩ := Y.newCold hexec (own := own) (C := cls) (index := ik) (n := 6) hown' hk' hins hini'
    (g := F0 m pc ls rest) rfl (by rw [hb]; exact d0) (Nat.le_refl _) (Nat.le_refl _)
  generalize hT1 : (T.setVm vm₁).pushCell { cls := cX, slots := kX.instanceTypes.map defaultValue, vm := .none } = T1 at X₁ st1
  have hcat : (Value.ref T.heap.size).category = 1 := rfl
  have hcellA : T1.heap[T.heap.size]? = some (freshCell cX kX) := by rw [← hT1]; exact State.heap_pushCell_size _ _
  have d3' : decode c.code (pc + 3) = .ok (.dup, 1) := by rw [hb]; exact d3
  have d4' : decode c.code (pc + 4) = .ok (.ldc is, 2) := by rw [hb]; exact d4
  have hstr' : vk_R own is text sa s' := vk_R.warm hW0 hstr
  obtain ⟨U, hsteps, hrun, hend, hW, hsame, ce, hce, hO⟩ := X₁.ctorThrowS hexec htr (own := own) (cls := cls) (names := names) (ic := ic) hown' hcls hnames h (fun x hx => nomatch hx) hfX hkX hcellA (by rw [hhp, hT]; exact Nat.le_refl _) (msg := .ref sa) rfl
    (g := { method := m, pc := pc + 6, locals := ls, stack := .ref sa :: .ref T.heap.size :: .ref T.heap.size :: rest, locked := none }) rfl hsize rfl rfl (rest := rest) rfl
    (by rw [hb]; exact d6) (by rw [hb]; exact d9) hout hRframes (by simp only [List.map_cons, List.sum_cons, hcat]; omega) hlocks
  obtain ⟨f1, f2⟩ := vx_frame hsame
  rw [hhp] at f1 f2
  have hWs : s.WarmedH U.vm := State.WarmedH.trans hW0 hW
  have hcl : s.vm.findClass cls = some ce.cls := by
    have h9 := hO.cls
    rw [hvm] at h9
    exact h9
  have hall : s.sameButNew ({ U with vm := s.vm } : State) locs mc ms := by
    subst hA
    obtain ⟨e1, e2⟩ := hsame
    rw [State.setFrames_setFrames] at e1
    have h2 : (T.setVm s.vm).sameButNew ({ U with vm := s.vm } : State) [] (0 + 1) (0 + 6) := ⟨e1, e2⟩
    have h3 := X.same.trans h2
    rw [List.append_nil] at h3
    exact h3.mono hc hs
  refine ⟨U, ?_, .threw T.heap.size, hrun, hend, Or.inr ⟨T.heap.size, rfl, cls, ce, locs, hx U hWs.alike f1 (fun q hq => f2 q hq (fun z hz => nomatch hz)), hce, hO.vm, hcl, hWs, hall, hf⟩⟩
  refine st1 _ ?_
  show Steps p.tables e below (T1.setTop { method := m, pc := pc + 3, locals := ls, stack := .ref T.heap.size :: rest, locked := none }) _
  jvm_step X₁.here [X₁.here.top, hexec, d3', Value.category]
  exact X₁.ldcString hexec (own := own) (text := text) (index := is) (a := sa) hown' hstr'.1 hstr'.2
    (g := { method := m, pc := pc + 4, locals := ls, stack := .ref T.heap.size :: .ref T.heap.size :: rest, locked := none }) rfl d4' _ hsteps
/-- 'throw new E("text")', the text by a wide index -/
theorem vx_throwSW {cc : ByteArray} {pc : Nat} (hexec : p.tables.exec = Jvm.exec) (hb : c.code = cc) (hl : l.stackTraces = false) {own cls text : String} {names : List String} {ik is ic mc ms sa : Nat} {A : Nat → Prop}
    (hown : s.vm.findClass own = some m.cls) (hcls : Bundle.fit cls = true) (hnames : ∀ n ∈ names, Bundle.fit n = true)
    (hk : (Cond.classLink own ik cls).before args s = true) (hini : (Cond.initialized cls).before args s = true) (hstr : vk_R own is text sa s) (hat : ∀ w ∈ vx_atS own ic cls names, w.before args s = true)
    (hgood : ∀ w ∈ Cond.classLink own ik cls :: Cond.initialized cls :: vx_atS own ic cls names, vx_ot w = true)
    (hU : vx_Zq Bundle.tN "UNASSIGNED_STACK" Bundle.steD A s s.heap) (hN : vx_Zq Bundle.tN "SUPPRESSED_SENTINEL" Bundle.listD A s s.heap) (hS : va_S A s.heap H locs) (hsize : ls.size = c.maxLocals)
    (d0 : decode cc pc = .ok (.new ik, 3)) (d3 : decode cc (pc + 3) = .ok (.dup, 1)) (d4 : decode cc (pc + 4) = .ok (.ldc_w is, 3)) (d7 : decode cc (pc + 7) = .ok (.invokespecial ic, 3)) (d10 : decode cc (pc + 10) = .ok (.athrow, 1))
    (hout : ∀ x ∈ c.exceptionTable.toList, covers x (pc + 10) = false)
    (hRframes : names.length + 3 < R.frames) (hRlocals : (rest.map fun v => v.category).sum + (13 * (names.length + 1) + 43) ≤ R.locals) (hRcells : cells + 1 ≤ R.cells) (hRslots : slots + 6 ≤ R.slots) (hlocks : meth.locks = false)
    (hx : ∀ t : State, s.vm.Alike t.vm → H.size ≤ t.heap.size → (∀ q : Nat, q < H.size → t.heap[q]? = H[q]?) → XC cls s t)
    (hf : ∀ z ∈ locs, free z.base) (hc : cells + 1 ≤ mc) (hs : slots + 6 ≤ ms) :
    W p l e R s m args below meth c H locs cells slots (vx_MQ below Qc XC args s mc ms free) (F0 m pc ls rest) := by
  intro T hT X
  have htr : e.platform.stackTraces = false := (show e.platform.stackTraces = l.stackTraces by rw [X.admits.platform]).trans hl
  have Y := vx_rebase X (R' := { frames := R.frames, locals := R.locals, cells := 1, slots := 6 }) (Nat.le_refl _) (Nat.le_refl _) hRcells hRslots
  obtain ⟨s', hA⟩ : ∃ z, z = (T.setVm s.vm).setFrames (.invoking m args :: below) := ⟨_, rfl⟩
  rw [← hA] at Y
  have hvm : s'.vm = s.vm := by rw [hA]; rfl
  have hhp : s'.heap = H := by rw [hA]; exact hT
  have hW0 : s.WarmedH s'.vm := by rw [hvm]; exact State.WarmedH.refl s
  have hat' : ∀ w ∈ vx_atS own ic cls names, w.before args s' = true := fun w hw => vx_ot_at hW0 hvm.symm (hgood w (List.mem_cons_of_mem _ (List.mem_cons_of_mem _ hw))) (hat w hw)
  have hk' : (Cond.classLink own ik cls).before args s' = true := vx_ot_at hW0 hvm.symm (hgood _ List.mem_cons_self) hk
  have hini' : (Cond.initialized cls).before args s' = true := vx_ot_at hW0 hvm.symm (hgood _ (List.mem_cons_of_mem _ List.mem_cons_self)) hini
  have hU' : vx_Zq Bundle.tN "UNASSIGNED_STACK" Bundle.steD A s' s'.heap := by rw [hhp]; exact vx_Zq.moved hW0.alike (hU.kept hS.2.1)
  have hN' : vx_Zq Bundle.tN "SUPPRESSED_SENTINEL" Bundle.listD A s' s'.heap := by rw [hhp]; exact vx_Zq.moved hW0.alike (hN.kept hS.2.1)
  have h : ∀ w ∈ Bundle.ownAtoms own ic cls names, w.before args s' = true := vx_own hat' (vx_isRefq hU'.1) (vx_isRefq hN'.1) hU'.2.word hN'.2.word
  have hown' : s'.vm.findClass own = some m.cls := by rw [hvm]; exact hown
  have hins : (Cond.instantiable cls 6).before args s' = true := h _ (by simp [Bundle.ownAtoms])
  obtain ⟨vm₁, cX, kX, hfX, hkX, -, -, X₁, st1⟩ := Y.newCold hexec (own := own) (C := cls) (index := ik) (n := 6) hown' hk' hins hini'
    (g := F0 m pc ls rest) rfl (by rw [hb]; exact d0) (Nat.le_refl _) (Nat.le_refl _)
  generalize hT1 : (T.setVm vm₁).pushCell { cls := cX, slots := kX.instanceTypes.map defaultValue, vm := .none } = T1 at X₁ st1
  have hcat : (Value.ref T.heap.size).category = 1 := rfl
  have hcellA : T1.heap[T.heap.size]? = some (freshCell cX kX) := by rw [← hT1]; exact State.heap_pushCell_size _ _
  have d3' : decode c.code (pc + 3) = .ok (.dup, 1) := by rw [hb]; exact d3
  have d4' : decode c.code (pc + 4) = .ok (.ldc_w is, 3) := by rw [hb]; exact d4
  have hstr' : vk_R own is text sa s' := vk_R.warm hW0 hstr
  obtain ⟨U, hsteps, hrun, hend, hW, hsame, ce, hce, hO⟩ := X₁.ctorThrowS hexec htr (own := own) (cls := cls) (names := names) (ic := ic) hown' hcls hnames h (fun x hx => nomatch hx) hfX hkX hcellA (by rw [hhp, hT]; exact Nat.le_refl _) (msg := .ref sa) rfl
    (g := { method := m, pc := pc + 7, locals := ls, stack := .ref sa :: .ref T.heap.size :: .ref T.heap.size :: rest, locked := none }) rfl hsize rfl rfl (rest := rest) rfl
    (by rw [hb]; exact d7) (by rw [hb]; exact d10) hout hRframes (by simp only [List.map_cons, List.sum_cons, hcat]; omega) hlocks
  obtain ⟨f1, f2⟩ := vx_frame hsame
  rw [hhp] at f1 f2
  have hWs : s.WarmedH U.vm := State.WarmedH.trans hW0 hW
  have hcl : s.vm.findClass cls = some ce.cls := by
    have h9 := hO.cls
    rw [hvm] at h9
    exact h9
  have hall : s.sameButNew ({ U with vm := s.vm } : State) locs mc ms := by
    subst hA
    obtain ⟨e1, e2⟩ := hsame
    rw [State.setFrames_setFrames] at e1
    have h2 : (T.setVm s.vm).sameButNew ({ U with vm := s.vm } : State) [] (0 + 1) (0 + 6) := ⟨e1, e2⟩
    have h3 := X.same.trans h2
    rw [List.append_nil] at h3
    exact h3.mono hc hs
  refine ⟨U, ?_, .threw T.heap.size, hrun, hend, Or.inr ⟨T.heap.size, rfl, cls, ce, locs, hx U hWs.alike f1 (fun q hq => f2 q hq (fun z hz => nomatch hz)), hce, hO.vm, hcl, hWs, hall, hf⟩⟩
  refine st1 _ ?_
  show Steps p.tables e below (T1.setTop { method := m, pc := pc + 3, locals := ls, stack := .ref T.heap.size :: rest, locked := none }) _
  jvm_step X₁.here [X₁.here.top, hexec, d3', Value.category]
  exact X₁.ldcStringW hexec (own := own) (text := text) (index := is) (a := sa) hown' hstr'.1 hstr'.2
    (g := { method := m, pc := pc + 4, locals := ls, stack := .ref T.heap.size :: .ref T.heap.size :: rest, locked := none }) rfl d4' _ hsteps
end Ends
section Bodies
variable {l : Launch}
theorem vx_ofW {y : MethodName} {ws ws' : List Cond} {rm : Room} {Pc : Array Value → State → Prop} {Qc : Array Value → State → Outcome → State → Prop} {XC : String → State → State → Prop} {mc ms : Nat} {free : Addr → Prop} {cc : ByteArray} {maxL : Nat} {ret : Option FieldType}
    (hy : plainName y.cls = true) (hw : ws = Cond.code y cc maxL ret :: ws')
    (body : ∀ p e s m args below meth c s₁, BodyLoose p l y (headSpec ws rm) cc maxL ret e s m args below meth c s₁ → c.maxLocals = maxL → (∀ x ∈ c.exceptionTable.toList, False) → Pc args s →
      W p l e (headSpec ws rm).room s m args below meth c s.heap [] 0 0 (vx_MQ below Qc XC args s mc ms free) (entryFrame m args maxL)) : vx_Met l y ws rm Pc Qc XC mc ms free := by
  refine MetFree.of_bodyS (code := cc) (maxLocals := maxL) (ret := ret) hy ?_ ?_
  · intro args s m h hn
    obtain ⟨meth, c, h1, h2, h3, h4, h5, h6, -, -⟩ := Cond.code_spec hn (atoms_spec (ws := ws) h _ (by rw [hw]; exact List.mem_cons_self))
    exact ⟨meth, c, h1, h2, h3, h4, h5, h6⟩
  · intro p e s m args below meth c s₁ B hml hP _
    have hh0 : s₁.heap = s.heap := by rw [B.state]; rfl
    have ht : ∀ x ∈ c.exceptionTable.toList, False := by
      obtain ⟨meth9, c9, h1, h2, -, -, -, -, h7, -⟩ := Cond.code_spec B.named (atoms_spec (ws := ws) B.pre _ (by rw [hw]; exact List.mem_cons_self))
      cases Option.some.inj (h1.symm.trans B.method)
      cases Option.some.inj (h2.symm.trans (Stand.of_body B).code)
      intro x hx
      rw [Array.isEmpty_iff.mp h7] at hx
      cases hx
    obtain ⟨t, a1, o, b1, b2, b3⟩ := body p e s m args below meth c s₁ B hml ht hP s₁ hh0 (Stand.of_body B)
    exact ⟨t, o, a1, b1, b2, b3⟩
/-- the table of a body with handlers -/
theorem vx_table {p : Program} {x y : MethodName} {S : Spec} {cc bytes : ByteArray} {maxL maxL' : Nat} {ret ret' : Option FieldType} {e : Env} {s s₁ : State} {m : MethodId} {args : Array Value} {below : List Frame} {meth : Method} {c : Code} {hh : List (Nat × Nat × Nat × Nat)}
    (B : BodyLoose p l y S cc maxL ret e s m args below meth c s₁) (h : (Cond.codeWith y bytes maxL' ret' hh).before args s = true) : c.exceptionTable.toList = tableOf hh := by
  obtain ⟨m9, meth9, c9, hn9, h1, h2, -, -, h6, -⟩ := Cond.codeWith_spec h
  cases Option.some.inj (hn9.symm.trans B.named)
  cases Option.some.inj (h1.symm.trans B.method)
  cases Option.some.inj (h2.symm.trans (Stand.of_body B).code)
  rw [← h6, table_eq]
end Bodies
end VXA
/-! ===== END ===== -/
/-! ===== BEGIN a static call of a method with an exception table ===== -/
section VXS
variable {p : Program} {l : Launch} {e : Env} {R : Room} {s : State} {m : MethodId} {args : Array Value} {below : List Frame} {meth : Method} {c : Code} {T : State} {H : Heap} {locs : List Loc} {cells slots : Nat}
abbrev vx_CSW (R : Room) (s : State) (args : Array Value) (own : String) (index : Nat) (y : MethodName) (bytes : ByteArray) (maxL : Nat) (ret : Option FieldType) (hh : List (Nat × Nat × Nat × Nat)) (ws : List Cond) (rm : Room) (mc ms n : Nat) : Prop :=
  (rm.cells = mc ∧ rm.slots = ms ∧ rm.frames + 1 ≤ R.frames ∧ 8 + (maxL + 11) + rm.locals ≤ R.locals ∧ (∀ w ∈ ws, ∀ (a' : Array Value) (U : State), s.WarmedH U.vm → w.before a' U = true) ∧ Cond.codeWith y bytes maxL ret hh ∈ ws) ∧
  (Cond.codeWith y bytes maxL ret hh).before args s = true ∧ (Cond.initialized y.cls).before args s = true ∧ (y.cls ≠ "java/lang/invoke/MethodHandle" ∧ y.cls ≠ "java/lang/invoke/VarHandle") ∧
  (∀ sig, parseMethodDescriptor y.desc = some sig → n = sig.parameters.length) ∧ (Cond.methodLink own index y).before args s = true ∧ (Cond.static y).before args s = true
theorem vx_cwSW {own : String} {index maxL mc ms : Nat} {y : MethodName} {bytes : ByteArray} {ret : Option FieldType} {hh : List (Nat × Nat × Nat × Nat)} {Ts ws ws' : List Cond} {rm : Room} (n : Nat) (ht : ∀ w ∈ Ts, w.before args s = true) (hT : GoodIn Ts (va_wsS own index y ws)) (hw : ws = Cond.codeWith y bytes maxL ret hh :: ws') (hrc : rm.cells = mc) (hrs : rm.slots = ms)
    (hd : y.cls ≠ "java/lang/invoke/MethodHandle" ∧ y.cls ≠ "java/lang/invoke/VarHandle" ∧ (parseMethodDescriptor y.desc).map (fun d => d.parameters.length) = some n) (hR : rm.frames + 1 ≤ R.frames ∧ 8 + (maxL + 11) + rm.locals ≤ R.locals) :
    vx_CSW R s args own index y bytes maxL ret hh ws rm mc ms n := by
  have ok : ∀ w ∈ va_wsS own index y ws, w.before args s = true := fun w h => ht w (hT w h).1
  have hG : GoodIn Ts ws := fun w h => hT w (by unfold va_wsS; exact List.mem_append_right _ h)
  have hc : Cond.codeWith y bytes maxL ret hh ∈ ws := by rw [hw]; exact List.mem_cons_self
  refine ⟨⟨hrc, hrs, hR.1, hR.2, pay_in ht hG, hc⟩, ht _ (hG _ hc).1, ok _ (by simp [va_wsS]), ⟨hd.1, hd.2.1⟩, fun sig h => ?_, ok _ (by simp [va_wsS]), ok _ (by simp [va_wsS])⟩
  have h2 := hd.2.2
  rw [h] at h2
  exact (Option.some.inj h2).symm
theorem vx_callSW (X : Stand p l e R s m args below meth c T locs cells slots) (hexec : p.tables.exec = Jvm.exec) {own : String} {index : Nat} {y : MethodName} {bytes : ByteArray} {maxL : Nat} {ret : Option FieldType} {hh : List (Nat × Nat × Nat × Nat)}
    (hown : s.vm.findClass own = some m.cls) (hlink : (Cond.methodLink own index y).before args s = true) (hstat : (Cond.static y).before args s = true) (hinit : (Cond.initialized y.cls).before args s = true)
    (hcode : (Cond.codeWith y bytes maxL ret hh).before args s = true) (hy : y.cls ≠ "java/lang/invoke/MethodHandle" ∧ y.cls ≠ "java/lang/invoke/VarHandle")
    {W9 : Nat} {Pre : Pt → Array Value → Prop} {Post : Pt → Array Value → Option Value → Pt → Prop} (hK : Back l R p e below s args y 3 W9 Pre Post)
    {g : JFrame} (hg : g.method = m) (hsize : g.locals.size = c.maxLocals) {argsL rest : List Value} (hlen : ∀ sig, parseMethodDescriptor y.desc = some sig → argsL.length = sig.parameters.length)
    (hstack : g.stack = argsL.reverse ++ rest) (hW : 2 * g.monitorRoom + (rest.map fun v => v.category).sum ≤ W9) (hdg : decode c.code g.pc = .ok (.invokestatic index, 3))
    (hpre : ∀ vm₁, s.WarmedH vm₁ → Pre ⟨T.setVm vm₁, locs, cells, slots⟩ argsL.toArray) :
    ∃ (v : Option Value) (vm₁ : Vm) (B : Pt), s.WarmedH vm₁ ∧ Stand p l e R s m args below meth c B.U B.locs B.cells B.slots ∧ Post ⟨T.setVm vm₁, locs, cells, slots⟩ argsL.toArray v B ∧
      ∀ target, Steps p.tables e below (B.U.setTop { g with pc := g.pc + 3, stack := v.toList ++ rest }) target → Steps p.tables e below (T.setTop g) target := by
  obtain ⟨mk, methM, cM, hnamed, hmethM, -, -, -, -, -, -, hsigM⟩ := Cond.codeWith_spec hcode
  have hstatic : methM.isStatic = true := Cond.static_spec hnamed hmethM hstat
  obtain ⟨kP, hkP, -⟩ := className_of_methodNamed hnamed
  have hinitP : kP.init = .initialized := Cond.initialized_spec (findClass_of_methodNamed hnamed) hkP hinit
  obtain ⟨vm₁, X₁, hstep₁⟩ := X.invokestatic hexec hown hlink hnamed hmethM hstatic hkP hinitP hy (g := g) hg (argsL := argsL) (rest := rest) (hlen _ hsigM) hstack hdg
  obtain ⟨v, B, X', hpost, hsteps⟩ := hK m meth c ⟨T.setVm vm₁, locs, cells, slots⟩ { g with stack := rest } (.invokestatic index) mk argsL.toArray X₁ hg hsize hdg hW (X₁.named hnamed) (hpre vm₁ X₁.warmed)
  exact ⟨v, vm₁, B, X₁.warmed, X', hpost, fun target h => hstep₁ _ fun acts => by rw [doInvoke_state]; exact hsteps.trans h⟩
theorem vx_runSW {y : MethodName} {bytes cc : ByteArray} {maxL nL mc ms n index : Nat} {ret : Option FieldType} {hh : List (Nat × Nat × Nat × Nat)} {ws : List Cond} {rm : Room} {Pc : Array Value → State → Prop} {Qc : Array Value → State → Outcome → State → Prop} {free : Addr → Prop} {Ts : List Cond} {own : String} {As rest : List Value} {g : JFrame}
    (S : CallFix p m c cc nL s args Ts own) (hM : Met l y ws rm Pc Qc mc ms free) (cw : vx_CSW R s args own index y bytes maxL ret hh ws rm mc ms n) (hp : PreS s H Pc As)
    (hg : g.method = m) (hn : As.length = n) (hsize : g.locals.size = nL) (hstack : g.stack = As.reverse ++ rest) (hW : 2 * g.monitorRoom + (rest.map fun v => v.category).sum ≤ 8) (hdg : decode cc g.pc = .ok (.invokestatic index, 3)) (hf : cells + mc ≤ R.cells ∧ slots + ms ≤ R.slots) :
    va_Run p l e R s m args below meth c H locs cells slots mc ms g rest (Qc As.toArray) (free) := by
  obtain ⟨⟨hrc, hrs, hfr, hlo, hws, hcw⟩, hcode, hini, hy, hlen, hl, hstt⟩ := cw
  have hK : Back l R p e below s args y 3 8 (PreOf R mc ms Pc) (PostOf Qc mc ms free) := va_backW (hh := hh) (bytes := bytes) (maxL := maxL) (ret := ret) hM hp.1 hrc hrs hfr hlo hws hcw (fun a' U hW => word_at hW (Or.inl (by first | rfl | simp [Cond.onTables, Cond.keeps, Cond.steady])) hini)
  obtain ⟨hx, hb, hml, ho, -⟩ := S
  intro T hT X
  obtain ⟨v, vm₁, ⟨U', l2, c2, s2⟩, hW₁, X', ⟨g', mk, t, L, e1, e2, hq, h1, hL, h2, h3⟩, st⟩ := vx_callSW X hx (hh := hh) (bytes := bytes) (maxL := maxL) (ret := ret) ho hl hstt hini hcode hy hK hg (hsize.trans hml.symm) (argsL := As) (rest := rest) (fun sig h => hn.trans (hlen sig h)) hstack hW (by rw [hb]; exact hdg)
    (fun vm₁ hW₁ => ⟨hf.1, hf.2, hp.2 (T.setVm vm₁) hT hW₁⟩)
  dsimp only [Pt.U, Pt.locs, Pt.cells, Pt.slots] at X' e1 e2 h1 h2 h3 st
  subst h1; subst h2; subst h3
  exact ⟨v, (T.setVm vm₁).calling g' mk As.toArray, t, U', L, hT, X', hL, e1, e2, hq, st⟩
/-- not caught here, past rows that name other classes: it goes on to the caller -/
theorem vx_outP {p : Program} {l : Launch} {e : Env} {R : Room} {s : State} {m : MethodId} {args : Array Value} {below : List Frame} {meth : Method} {c : Code} {H : Heap} {locs : List Loc} {cells slots : Nat} {free : Addr → Prop} {ls : Array Slot} {rest : List Value} {Qc : Array Value → State → Outcome → State → Prop} {XC : String → State → State → Prop}
    {pc : Nat} {own E : String} {ce : Cell} {q : Addr} {mc ms : Nat} (hown : s.vm.findClass own = some m.cls) (hlocks : meth.locks = false)
    (hpass : ∀ z ∈ c.exceptionTable.toList, covers z pc = false ∨ (z.catchType ≠ 0 ∧ ∃ nm : String, (Cond.classLink own z.catchType nm).before args s = true ∧ va_Nc E nm s)) (hcell : H[q]? = some ce) (hv : ce.vm = .none) (hcl : s.vm.findClass E = some ce.cls)
    (hx : ∀ t : State, t.heap = H → s.vm.Alike t.vm → XC E s t) (hf : ∀ z ∈ locs, free z.base) (hc : cells ≤ mc) (hs : slots ≤ ms) :
    vx_W p l e R s m args below meth c H locs cells slots (vx_MQ below Qc XC args s mc ms free) (F0 m pc ls rest) q := by
  intro T hT X
  have hpl : e.platform.magicAccessors = ({} : Platform).magicAccessors := by rw [X.admits.platform]
  obtain ⟨vm', hW', X', st⟩ := X.outThrough hlocks q (g := F0 m pc ls rest) rfl rfl rfl (cell := ce) (by rw [hT]; exact hcell) (by rw [hv]; rfl)
    (by obtain ⟨k9, h9, -⟩ := Vm.findClass_spec hcl; exact ⟨k9, h9⟩) (fun z hz => by
      rcases hpass z hz with h | ⟨hz0, nm, hl1, hn1⟩
      · exact Or.inl h
      · obtain ⟨c6, hc6, hcl6⟩ := Cond.classLink_spec hown hl1 e.platform hpl
        obtain ⟨a8, b8, h1, h2, h3⟩ := hn1
        cases Option.some.inj (h1.symm.trans hcl)
        cases Option.some.inj (h2.symm.trans hc6)
        exact Or.inr ⟨hz0, _, hcl6, h3⟩)
  obtain ⟨g₀, hfr⟩ := X'.frames_eq
  have hcell9 : ((T.setVm vm').setFrames (.throwing q :: below)).heap[q]? = some ce := by
    show T.heap[q]? = some ce
    rw [hT]; exact hcell
  have hend : Ended ((T.setVm vm').setFrames (.throwing q :: below)) below (.threw q) := State.frames_setFrames _ (State.cur_lt_of_frames hfr)
  refine ⟨(T.setVm vm').setFrames (.throwing q :: below), ?_, .threw q, X'.here.running, hend, Or.inr ⟨q, rfl, E, ce, locs, hx _ hT (X'.ends _).1.alike, hcell9, hv, hcl, (X'.ends _).1, (X'.ends _).2.mono hc hs, hf⟩⟩
  rw [X.pushThrowing_eq]
  exact st
/-- a thing of a world lies in the heap -/
theorem vx_lt {D : va_G} {cl : List vw_C} {ws : va_W} {H1 : Heap} (h : va_P D cl ws H1) {k : Nat} {q : Nat × va_E} (hk : ws[k]? = some q) : q.1 < H1.size := (h k q hk).lt
end VXS
/-! ===== END ===== -/
/-! ===== BEGIN methods with a table of their own: called by a name, returning or throwing ===== -/
section VXH
/-! vx_backW, vx_callVX, vx_callSX, vx_callVW, vx_runVW, vx_runVX, vx_runSX, vx_ofWH follow the same proofs as their sisters above (Free/Laws.lean, Shelf42/LK1.lean); vx_outP calls Shelf42/NT130.lean (outThrough). -/
section
variable {l : Launch} {R : Room} {p : Program} {e : Env} {below : List Frame} {s : State} {sargs : Array Value} {y : MethodName} {len W9 : Nat}
theorem vx_backW {ws : List Cond} {rm : Room} {Pc : Array Value → State → Prop} {Qc : Array Value → State → Outcome → State → Prop} {XC : String → State → State → Prop} {mc ms : Nat} {free : Addr → Prop} {bytes : ByteArray} {maxL : Nat} {ret : Option FieldType} {hh : List (Nat × Nat × Nat × Nat)}
    (hM : vx_Met l y ws rm Pc Qc XC mc ms free) (hblind : FrameBlind Pc) (hrc : rm.cells = mc) (hrs : rm.slots = ms)
    (hframes : rm.frames + 1 ≤ R.frames) (hlocals : W9 + (maxL + 11) + rm.locals ≤ R.locals)
    (hws : ∀ w ∈ ws, ∀ a' U, s.WarmedH U.vm → w.before a' U = true) (hcode : Cond.codeWith y bytes maxL ret hh ∈ ws) (hinit : ∀ a' U, s.WarmedH U.vm → (Cond.initialized y.cls).before a' U = true) :
    vx_Back l R p e below s sargs y len W9 (PreOf R mc ms Pc) (PostOf Qc mc ms free) (vx_Post XC mc ms free) := by
  intro m meth c A g ig mk a X hg hsize hdg hW hn hp
  have h1 : (headSpec ws rm).pre.before a A.U = true := atoms_intro fun w hw => hws w hw _ _ X.warmed
  have h2 : (Cond.codeWith y bytes maxL ret hh).before a A.U = true := hws _ hcode _ _ X.warmed
  have h3 : (Cond.initialized y.cls).before a A.U = true := hinit _ _ X.warmed
  have h4 : A.cells + (headSpec ws rm).room.cells ≤ R.cells := by rw [show (headSpec ws rm).room.cells = mc from hrc]; exact hp.1
  have h5 : A.slots + (headSpec ws rm).room.slots ≤ R.slots := by rw [show (headSpec ws rm).room.slots = ms from hrs]; exact hp.2.1
  have hPc : Pc a (A.U.calling g mk a) := hblind _ _ _ _ hp.2.2
  obtain ⟨U, Ls, c0, s0⟩ := A
  dsimp only [Pt.U, Pt.locs, Pt.cells, Pt.slots] at h1 h2 h3 h4 h5 X hn hPc ⊢
  obtain ⟨m9, methY, cY, hn9, hmY, hcY, -, hlY, -⟩ := Cond.codeWith_spec h2
  cases Option.some.inj (hn9.symm.trans hn)
  obtain ⟨kY, hkY, -⟩ := className_of_methodNamed hn
  have hinitY : kY.init = .initialized := Cond.initialized_spec (findClass_of_methodNamed hn) hkY h3
  have h : At U g.method c below := by rw [hg]; exact X.here
  have hlocals9 : W9 + (maxL + 11) + (headSpec ws rm).room.locals ≤ R.locals := hlocals
  have happ : (headSpec ws rm).appliesLoose y e.platform (U.calling g mk a) = true :=
    Spec.appliesLoose_calling (g := g) h hdg hn hkY hinitY
      (X.room_calling (g := g) (R' := (headSpec ws rm).room) hsize hmY hcY hframes (by rw [hlY]; omega) h4 h5) h1
  obtain ⟨mid, hmid⟩ := h.above
  have hfr : (U.setTop g).frames = (.java g :: mid) ++ below := by rw [State.frames_setTop' g h.top, hmid]; rfl
  obtain ⟨o, s₂, hsteps, -, hend, hq⟩ := Steps.callFree hM p X.admits X.cas X.clock (acts := []) hfr happ hPc trivial
  have hq' : vx_Q Qc XC mc ms free a (U.calling g mk a) o s₂ := hq
  rw [State.frames_setTop' g h.top] at hend
  obtain ⟨g₀, hg0⟩ := Option.isSome_iff_exists.mp h.top
  obtain ⟨r, hr⟩ := State.topJava?_eq_some.mp hg0
  have hr' : (({ U with heap := s₂.heap, slotsUsed := s₂.slotsUsed } : State).setVm s₂.vm).frames = .java g₀ :: r := hr
  rcases hq' with ⟨hqc, L, hfe, hL⟩ | ⟨q, rfl, E, ce, L, hx, hce, hcv, hcl, hW₂, hsm, hL⟩
  · obtain ⟨⟨v, rfl⟩, hW₂, e2, q2, q3, q4, q5, q6⟩ := id hfe
    have e3 : s₂ = ({ (U.calling g mk a).setFrames s₂.frames with heap := s₂.heap, slotsUsed := s₂.slotsUsed } : State).setVm s₂.vm := by
      have : s₂ = ({ s₂ with vm := (U.calling g mk a).vm } : State).setVm s₂.vm := rfl
      rw [e2] at this
      exact this
    obtain ⟨c₂, i₂, len₂, hc₂, hd₂, hf₂⟩ := hend
    have hW' : U.WarmedH s₂.vm := hW₂
    have hcc : c₂ = c := by
      have h1 : s₂.code? g.method = U.code? g.method := by
        rw [State.code?_eq, State.code?_eq, hW'.alike.method?]
      exact Option.some.inj (hc₂.symm.trans (h1.trans h.code))
    subst hcc
    have hlen : len₂ = len := by rw [hdg] at hd₂; cases hd₂; rfl
    subst hlen
    have hs₂ : s₂ = (({ U with heap := s₂.heap, slotsUsed := s₂.slotsUsed } : State).setVm s₂.vm).setTop { g with pc := g.pc + len₂, stack := v.toList ++ g.stack } := by
      refine e3.trans ?_
      rw [hf₂, State.calling_eq h.top, State.setFrames_setFrames, State.setTop_of_frames _ hr', hr]
      rfl
    have hsame : U.sameButNew ({ U with heap := s₂.heap, slotsUsed := s₂.slotsUsed } : State) L mc ms := by
      refine ⟨?_, q2, q3, q4, q5, q6⟩
      obtain ⟨t, ht, -⟩ := State.frames_cons hr
      show ({ U with heap := s₂.heap, slotsUsed := s₂.slotsUsed } : State) = { U.setFrames U.frames with heap := s₂.heap, slotsUsed := s₂.slotsUsed }
      rw [State.setFrames_self ht]
    subst hg
    refine Or.inl ⟨v, ⟨(({ U with heap := s₂.heap, slotsUsed := s₂.slotsUsed } : State).setVm s₂.vm), Ls ++ L, c0 + mc, s0 + ms⟩,
      ⟨X.admits, X.cas, X.clock, X.frames, X.room, X.hears, X.method, X.code, (X.here.setHeapUsed s₂.heap s₂.slotsUsed).setVm hW'.alike, X.tail, State.WarmedH.trans X.warmed hW', X.limits, X.bytes, X.same.trans (hsame.setVm s.vm)⟩,
      ⟨g, mk, s₂, L, rfl, rfl, hqc, rfl, hL, rfl, rfl⟩, ?_⟩
    show Steps p.tables e below _ ((({ U with heap := s₂.heap, slotsUsed := s₂.slotsUsed } : State).setVm s₂.vm).setTop { g with pc := g.pc + len₂, stack := v.toList ++ g.stack })
    rw [← hs₂]
    exact hsteps
  · obtain ⟨e2, q2, q3, q4, q5, q6⟩ := id hsm
    have e3 : s₂ = ({ (U.calling g mk a).setFrames s₂.frames with heap := s₂.heap, slotsUsed := s₂.slotsUsed } : State).setVm s₂.vm := by
      have : s₂ = ({ s₂ with vm := (U.calling g mk a).vm } : State).setVm s₂.vm := rfl
      rw [e2] at this
      exact this
    have hf₂ : s₂.frames = .throwing q :: .java g :: U.frames.tail := hend
    have hW' : U.WarmedH s₂.vm := hW₂
    have hs₂ : s₂ = ((({ U with heap := s₂.heap, slotsUsed := s₂.slotsUsed } : State).setVm s₂.vm).setTop g).pushFrame (.throwing q) := by
      refine e3.trans ?_
      rw [hf₂, State.calling_eq h.top, State.setFrames_setFrames, State.pushFrame, State.frames_setTop _ hr', State.setTop_of_frames _ hr', State.setFrames_setFrames, hr]
      rfl
    have hsame : U.sameButNew ({ U with heap := s₂.heap, slotsUsed := s₂.slotsUsed } : State) L mc ms := by
      refine ⟨?_, q2, q3, q4, q5, q6⟩
      obtain ⟨t, ht, -⟩ := State.frames_cons hr
      show ({ U with heap := s₂.heap, slotsUsed := s₂.slotsUsed } : State) = { U.setFrames U.frames with heap := s₂.heap, slotsUsed := s₂.slotsUsed }
      rw [State.setFrames_self ht]
    subst hg
    refine Or.inr ⟨q, ⟨(({ U with heap := s₂.heap, slotsUsed := s₂.slotsUsed } : State).setVm s₂.vm), Ls ++ L, c0 + mc, s0 + ms⟩,
      ⟨X.admits, X.cas, X.clock, X.frames, X.room, X.hears, X.method, X.code, (X.here.setHeapUsed s₂.heap s₂.slotsUsed).setVm hW'.alike, X.tail, State.WarmedH.trans X.warmed hW', X.limits, X.bytes, X.same.trans (hsame.setVm s.vm)⟩,
      ⟨g, mk, s₂, L, E, ce, rfl, rfl, hx, hce, hcv, hcl, rfl, hL, rfl, rfl⟩, ?_⟩
    show Steps p.tables e below _ (((({ U with heap := s₂.heap, slotsUsed := s₂.slotsUsed } : State).setVm s₂.vm).setTop g).pushFrame (.throwing q))
    rw [← hs₂]
    exact hsteps
end
variable {p : Program} {l : Launch} {e : Env} {R : Room} {s : State} {m : MethodId} {args : Array Value} {below : List Frame} {meth : Method} {c : Code} {T : State} {H : Heap} {locs : List Loc} {cells slots : Nat}
theorem vx_callVX (X : Stand p l e R s m args below meth c T locs cells slots) (hexec : p.tables.exec = Jvm.exec) {own C : String} {index : Nat} {y : MethodName} {bytes : ByteArray} {maxL : Nat} {ret : Option FieldType} {hh : List (Nat × Nat × Nat × Nat)}
    (hown : s.vm.findClass own = some m.cls) (hlink : (Cond.methodLink own index y).before args s = true) (hinst : (Cond.instanceMethod y).before args s = true) (hsel : (Cond.selects C y y).before args s = true)
    (hcode : (Cond.codeWith y bytes maxL ret hh).before args s = true) (hy : y.cls ≠ "java/lang/invoke/MethodHandle" ∧ y.cls ≠ "java/lang/invoke/VarHandle")
    {W9 : Nat} {Pre : Pt → Array Value → Prop} {Post : Pt → Array Value → Option Value → Pt → Prop} {PostX : Pt → Array Value → Addr → Pt → Prop} (hK : vx_Back l R p e below s args y 3 W9 Pre Post PostX)
    {b : Addr} {cellB : Cell} (hcell : T.heap[b]? = some cellB) (hobj : cellB.vm.isStatics = false) (hcls : s.vm.findClass C = some cellB.cls)
    {g : JFrame} (hg : g.method = m) (hsize : g.locals.size = c.maxLocals) {argsL rest : List Value} (hlen : ∀ sig, parseMethodDescriptor y.desc = some sig → argsL.length = sig.parameters.length)
    (hstack : g.stack = argsL.reverse ++ .ref b :: rest) (hW : 2 * g.monitorRoom + (rest.map fun v => v.category).sum ≤ W9) (hdg : decode c.code g.pc = .ok (.invokevirtual index, 3))
    (hpre : ∀ vm₁, s.WarmedH vm₁ → Pre ⟨T.setVm vm₁, locs, cells, slots⟩ (Value.ref b :: argsL).toArray) :
    (∃ (v : Option Value) (vm₁ : Vm) (B : Pt), s.WarmedH vm₁ ∧ Stand p l e R s m args below meth c B.U B.locs B.cells B.slots ∧ Post ⟨T.setVm vm₁, locs, cells, slots⟩ (Value.ref b :: argsL).toArray v B ∧
      ∀ target, Steps p.tables e below (B.U.setTop { g with pc := g.pc + 3, stack := v.toList ++ rest }) target → Steps p.tables e below (T.setTop g) target) ∨
    (∃ (q : Addr) (vm₁ : Vm) (B : Pt), s.WarmedH vm₁ ∧ Stand p l e R s m args below meth c B.U B.locs B.cells B.slots ∧ PostX ⟨T.setVm vm₁, locs, cells, slots⟩ (Value.ref b :: argsL).toArray q B ∧
      Steps p.tables e below (T.setTop g) ((B.U.setTop { g with stack := rest }).pushFrame (.throwing q))) := by
  obtain ⟨mk, methM, hnamed, hmethM, hstM, habM⟩ := Cond.instanceMethod_spec hinst
  obtain ⟨m8, methM', cM, hn8, hmethM', -, -, -, -, -, -, hsigM⟩ := Cond.codeWith_spec hcode
  cases Option.some.inj (hn8.symm.trans hnamed)
  cases hmethM.symm.trans hmethM'
  obtain ⟨c2, r2, m2, q1, q2, q3, q4, kP, hkP, hkPi⟩ := Cond.selects_spec hsel
  cases hcls.symm.trans q1
  cases (State.methodFound?_of_named hnamed hy).symm.trans q2
  cases hnamed.symm.trans q3
  have hselP : selectMethod e.platform s.vm cellB.cls mk = .method mk := by rw [Launch.admits_selectMethod X.admits]; exact q4
  obtain ⟨vm₁, X₁, hstep₁⟩ := X.invokevirtual hexec hown hlink hnamed hmethM hstM hkP hkPi hy (a := b) (cell := cellB) hcell
    (fun z h => by rw [h] at hobj; cases hobj) hselP hmethM habM hkP hkPi (g := g) hg (argsL := argsL) (rest := rest) (hlen _ hsigM) hstack hdg
  rcases hK m meth c ⟨T.setVm vm₁, locs, cells, slots⟩ { g with stack := rest } (.invokevirtual index) mk (Value.ref b :: argsL).toArray X₁ hg hsize hdg hW (X₁.named hnamed) (hpre vm₁ X₁.warmed) with ⟨v, B, X', hpost, hsteps⟩ | ⟨q, B, X', hpost, hsteps⟩
  · exact Or.inl ⟨v, vm₁, B, X₁.warmed, X', hpost, fun target h => hstep₁ _ fun acts => by rw [doInvoke_state]; exact hsteps.trans h⟩
  · exact Or.inr ⟨q, vm₁, B, X₁.warmed, X', hpost, hstep₁ _ fun acts => by rw [doInvoke_state]; exact hsteps⟩
theorem vx_callSX (X : Stand p l e R s m args below meth c T locs cells slots) (hexec : p.tables.exec = Jvm.exec) {own : String} {index : Nat} {y : MethodName} {bytes : ByteArray} {maxL : Nat} {ret : Option FieldType} {hh : List (Nat × Nat × Nat × Nat)}
    (hown : s.vm.findClass own = some m.cls) (hlink : (Cond.methodLink own index y).before args s = true) (hstat : (Cond.static y).before args s = true) (hinit : (Cond.initialized y.cls).before args s = true)
    (hcode : (Cond.codeWith y bytes maxL ret hh).before args s = true) (hy : y.cls ≠ "java/lang/invoke/MethodHandle" ∧ y.cls ≠ "java/lang/invoke/VarHandle")
    {W9 : Nat} {Pre : Pt → Array Value → Prop} {Post : Pt → Array Value → Option Value → Pt → Prop} {PostX : Pt → Array Value → Addr → Pt → Prop} (hK : vx_Back l R p e below s args y 3 W9 Pre Post PostX)
    {g : JFrame} (hg : g.method = m) (hsize : g.locals.size = c.maxLocals) {argsL rest : List Value} (hlen : ∀ sig, parseMethodDescriptor y.desc = some sig → argsL.length = sig.parameters.length)
    (hstack : g.stack = argsL.reverse ++ rest) (hW : 2 * g.monitorRoom + (rest.map fun v => v.category).sum ≤ W9) (hdg : decode c.code g.pc = .ok (.invokestatic index, 3))
    (hpre : ∀ vm₁, s.WarmedH vm₁ → Pre ⟨T.setVm vm₁, locs, cells, slots⟩ argsL.toArray) :
    (∃ (v : Option Value) (vm₁ : Vm) (B : Pt), s.WarmedH vm₁ ∧ Stand p l e R s m args below meth c B.U B.locs B.cells B.slots ∧ Post ⟨T.setVm vm₁, locs, cells, slots⟩ argsL.toArray v B ∧
      ∀ target, Steps p.tables e below (B.U.setTop { g with pc := g.pc + 3, stack := v.toList ++ rest }) target → Steps p.tables e below (T.setTop g) target) ∨
    (∃ (q : Addr) (vm₁ : Vm) (B : Pt), s.WarmedH vm₁ ∧ Stand p l e R s m args below meth c B.U B.locs B.cells B.slots ∧ PostX ⟨T.setVm vm₁, locs, cells, slots⟩ argsL.toArray q B ∧
      Steps p.tables e below (T.setTop g) ((B.U.setTop { g with stack := rest }).pushFrame (.throwing q))) := by
  obtain ⟨mk, methM, cM, hnamed, hmethM, -, -, -, -, -, -, hsigM⟩ := Cond.codeWith_spec hcode
  have hstatic : methM.isStatic = true := Cond.static_spec hnamed hmethM hstat
  obtain ⟨kP, hkP, -⟩ := className_of_methodNamed hnamed
  have hinitP : kP.init = .initialized := Cond.initialized_spec (findClass_of_methodNamed hnamed) hkP hinit
  obtain ⟨vm₁, X₁, hstep₁⟩ := X.invokestatic hexec hown hlink hnamed hmethM hstatic hkP hinitP hy (g := g) hg (argsL := argsL) (rest := rest) (hlen _ hsigM) hstack hdg
  rcases hK m meth c ⟨T.setVm vm₁, locs, cells, slots⟩ { g with stack := rest } (.invokestatic index) mk argsL.toArray X₁ hg hsize hdg hW (X₁.named hnamed) (hpre vm₁ X₁.warmed) with ⟨v, B, X', hpost, hsteps⟩ | ⟨q, B, X', hpost, hsteps⟩
  · exact Or.inl ⟨v, vm₁, B, X₁.warmed, X', hpost, fun target h => hstep₁ _ fun acts => by rw [doInvoke_state]; exact hsteps.trans h⟩
  · exact Or.inr ⟨q, vm₁, B, X₁.warmed, X', hpost, hstep₁ _ fun acts => by rw [doInvoke_state]; exact hsteps⟩
theorem vx_callVW (X : Stand p l e R s m args below meth c T locs cells slots) (hexec : p.tables.exec = Jvm.exec) {own C : String} {index : Nat} {y : MethodName} {bytes : ByteArray} {maxL : Nat} {ret : Option FieldType} {hh : List (Nat × Nat × Nat × Nat)}
    (hown : s.vm.findClass own = some m.cls) (hlink : (Cond.methodLink own index y).before args s = true) (hinst : (Cond.instanceMethod y).before args s = true) (hsel : (Cond.selects C y y).before args s = true)
    (hcode : (Cond.codeWith y bytes maxL ret hh).before args s = true) (hy : y.cls ≠ "java/lang/invoke/MethodHandle" ∧ y.cls ≠ "java/lang/invoke/VarHandle")
    {W9 : Nat} {Pre : Pt → Array Value → Prop} {Post : Pt → Array Value → Option Value → Pt → Prop} (hK : Back l R p e below s args y 3 W9 Pre Post)
    {b : Addr} {cellB : Cell} (hcell : T.heap[b]? = some cellB) (hobj : cellB.vm.isStatics = false) (hcls : s.vm.findClass C = some cellB.cls)
    {g : JFrame} (hg : g.method = m) (hsize : g.locals.size = c.maxLocals) {argsL rest : List Value} (hlen : ∀ sig, parseMethodDescriptor y.desc = some sig → argsL.length = sig.parameters.length)
    (hstack : g.stack = argsL.reverse ++ .ref b :: rest) (hW : 2 * g.monitorRoom + (rest.map fun v => v.category).sum ≤ W9) (hdg : decode c.code g.pc = .ok (.invokevirtual index, 3))
    (hpre : ∀ vm₁, s.WarmedH vm₁ → Pre ⟨T.setVm vm₁, locs, cells, slots⟩ (Value.ref b :: argsL).toArray) :
    ∃ (v : Option Value) (vm₁ : Vm) (B : Pt), s.WarmedH vm₁ ∧ Stand p l e R s m args below meth c B.U B.locs B.cells B.slots ∧ Post ⟨T.setVm vm₁, locs, cells, slots⟩ (Value.ref b :: argsL).toArray v B ∧
      ∀ target, Steps p.tables e below (B.U.setTop { g with pc := g.pc + 3, stack := v.toList ++ rest }) target → Steps p.tables e below (T.setTop g) target := by
  obtain ⟨mk, methM, hnamed, hmethM, hstM, habM⟩ := Cond.instanceMethod_spec hinst
  obtain ⟨m8, methM', cM, hn8, hmethM', -, -, -, -, -, -, hsigM⟩ := Cond.codeWith_spec hcode
  cases Option.some.inj (hn8.symm.trans hnamed)
  cases hmethM.symm.trans hmethM'
  obtain ⟨c2, r2, m2, q1, q2, q3, q4, kP, hkP, hkPi⟩ := Cond.selects_spec hsel
  cases hcls.symm.trans q1
  cases (State.methodFound?_of_named hnamed hy).symm.trans q2
  cases hnamed.symm.trans q3
  have hselP : selectMethod e.platform s.vm cellB.cls mk = .method mk := by rw [Launch.admits_selectMethod X.admits]; exact q4
  obtain ⟨vm₁, X₁, hstep₁⟩ := X.invokevirtual hexec hown hlink hnamed hmethM hstM hkP hkPi hy (a := b) (cell := cellB) hcell
    (fun z h => by rw [h] at hobj; cases hobj) hselP hmethM habM hkP hkPi (g := g) hg (argsL := argsL) (rest := rest) (hlen _ hsigM) hstack hdg
  obtain ⟨v, B, X', hpost, hsteps⟩ := hK m meth c ⟨T.setVm vm₁, locs, cells, slots⟩ { g with stack := rest } (.invokevirtual index) mk (Value.ref b :: argsL).toArray X₁ hg hsize hdg hW (X₁.named hnamed) (hpre vm₁ X₁.warmed)
  exact ⟨v, vm₁, B, X₁.warmed, X', hpost, fun target h => hstep₁ _ fun acts => by rw [doInvoke_state]; exact hsteps.trans h⟩
abbrev vx_CVW (R : Room) (s : State) (args : Array Value) (own C : String) (index : Nat) (y : MethodName) (bytes : ByteArray) (maxL : Nat) (ret : Option FieldType) (hh : List (Nat × Nat × Nat × Nat)) (ws : List Cond) (rm : Room) (mc ms n : Nat) : Prop :=
  (rm.cells = mc ∧ rm.slots = ms ∧ rm.frames + 1 ≤ R.frames ∧ 8 + (maxL + 11) + rm.locals ≤ R.locals ∧ (∀ w ∈ ws, ∀ (a' : Array Value) (U : State), s.WarmedH U.vm → w.before a' U = true) ∧ Cond.codeWith y bytes maxL ret hh ∈ ws) ∧
  (Cond.codeWith y bytes maxL ret hh).before args s = true ∧ (Cond.initialized y.cls).before args s = true ∧ (y.cls ≠ "java/lang/invoke/MethodHandle" ∧ y.cls ≠ "java/lang/invoke/VarHandle") ∧
  (∀ sig, parseMethodDescriptor y.desc = some sig → n = sig.parameters.length) ∧ (Cond.methodLink own index y).before args s = true ∧ (Cond.instanceMethod y).before args s = true ∧ (Cond.selects C y y).before args s = true
theorem vx_cwVW {own C : String} {index maxL mc ms : Nat} {y : MethodName} {bytes : ByteArray} {ret : Option FieldType} {hh : List (Nat × Nat × Nat × Nat)} {Ts ws ws' : List Cond} {rm : Room} (n : Nat) (ht : ∀ w ∈ Ts, w.before args s = true) (hT : GoodIn Ts (wsV own index C y ws)) (hw : ws = Cond.codeWith y bytes maxL ret hh :: ws') (hrc : rm.cells = mc) (hrs : rm.slots = ms)
    (hd : y.cls = C ∧ y.cls ≠ "java/lang/invoke/MethodHandle" ∧ y.cls ≠ "java/lang/invoke/VarHandle" ∧ (parseMethodDescriptor y.desc).map (fun d => d.parameters.length) = some n) (hR : rm.frames + 1 ≤ R.frames ∧ 8 + (maxL + 11) + rm.locals ≤ R.locals) :
    vx_CVW R s args own C index y bytes maxL ret hh ws rm mc ms n := by
  obtain ⟨hC, hd⟩ := hd
  subst hC
  have ok : ∀ w ∈ wsV own index y.cls y ws, w.before args s = true := fun w h => ht w (hT w h).1
  have hG : GoodIn Ts ws := fun w h => hT w (by unfold wsV; exact List.mem_append_right _ h)
  have hc : Cond.codeWith y bytes maxL ret hh ∈ ws := by rw [hw]; exact List.mem_cons_self
  refine ⟨⟨hrc, hrs, hR.1, hR.2, pay_in ht hG, hc⟩, ht _ (hG _ hc).1, ok _ (by simp [wsV]), ⟨hd.1, hd.2.1⟩, fun sig h => ?_, ok _ (by simp [wsV]), ok _ (by simp [wsV]), ok _ (by simp [wsV])⟩
  have h2 := hd.2.2
  rw [h] at h2
  exact (Option.some.inj h2).symm
theorem vx_runVW {y : MethodName} {bytes cc : ByteArray} {maxL nL mc ms n index : Nat} {ret : Option FieldType} {hh : List (Nat × Nat × Nat × Nat)} {ws : List Cond} {rm : Room} {Pc : Array Value → State → Prop} {Qc : Array Value → State → Outcome → State → Prop} {free : Addr → Prop} {Ts : List Cond} {own C : String} {b : Addr} {As rest : List Value} {g : JFrame}
    (S : CallFix p m c cc nL s args Ts own) (hM : Met l y ws rm Pc Qc mc ms free) (cw : vx_CVW R s args own C index y bytes maxL ret hh ws rm mc ms n) (hp : PreV s H C b Pc As)
    (hg : g.method = m) (hn : As.length = n) (hsize : g.locals.size = nL) (hstack : g.stack = As.reverse ++ .ref b :: rest) (hW : 2 * g.monitorRoom + (rest.map fun v => v.category).sum ≤ 8) (hdg : decode cc g.pc = .ok (.invokevirtual index, 3)) (hf : cells + mc ≤ R.cells ∧ slots + ms ≤ R.slots) :
    va_Run p l e R s m args below meth c H locs cells slots mc ms g rest (Qc (Value.ref b :: As).toArray) free := by
  obtain ⟨⟨hrc, hrs, hfr, hlo, hws, hcw⟩, hcode, hini, hy, hlen, hl, hin, hse⟩ := cw
  have hK : Back l R p e below s args y 3 8 (PreOf R mc ms Pc) (PostOf Qc mc ms free) := va_backW (hh := hh) (bytes := bytes) (maxL := maxL) (ret := ret) hM hp.1 hrc hrs hfr hlo hws hcw (fun a' U hW => word_at hW (Or.inl (by first | rfl | simp [Cond.onTables, Cond.keeps, Cond.steady])) hini)
  obtain ⟨hx, hb, hml, ho, -⟩ := S
  obtain ⟨-, ⟨cellB, hcB, hoB, hclB⟩, hPc⟩ := hp
  intro T hT X
  obtain ⟨v, vm₁, ⟨U', l2, c2, s2⟩, hW₁, X', ⟨g', mk, t, L, e1, e2, hq, h1, hL, h2, h3⟩, st⟩ := vx_callVW X hx (C := C) (hh := hh) (bytes := bytes) (maxL := maxL) (ret := ret) ho hl hin hse hcode hy hK (by rw [hT]; exact hcB) hoB hclB hg (hsize.trans hml.symm) (argsL := As) (rest := rest) (fun sig h => hn.trans (hlen sig h)) hstack hW (by rw [hb]; exact hdg)
    (fun vm₁ hW₁ => ⟨hf.1, hf.2, hPc (T.setVm vm₁) hT hW₁⟩)
  dsimp only [Pt.U, Pt.locs, Pt.cells, Pt.slots] at X' e1 e2 h1 h2 h3 st
  subst h1; subst h2; subst h3
  exact ⟨v, (T.setVm vm₁).calling g' mk (Value.ref b :: As).toArray, t, U', L, hT, X', hL, e1, e2, hq, st⟩
section
variable {y : MethodName} {bytes cc : ByteArray} {maxL nL mc ms n index : Nat} {ret : Option FieldType} {ws : List Cond} {rm : Room} {Pc : Array Value → State → Prop} {Qc : Array Value → State → Outcome → State → Prop} {XC : String → State → State → Prop} {free : Addr → Prop} {Ts : List Cond} {own C : String} {b : Addr} {As rest : List Value} {g : JFrame}
theorem vx_runVX {hh : List (Nat × Nat × Nat × Nat)} (S : CallFix p m c cc nL s args Ts own) (hM : vx_Met l y ws rm Pc Qc XC mc ms free) (cw : vx_CVW R s args own C index y bytes maxL ret hh ws rm mc ms n) (hp : PreV s H C b Pc As)
    (hg : g.method = m) (hn : As.length = n) (hsize : g.locals.size = nL) (hstack : g.stack = As.reverse ++ .ref b :: rest) (hW : 2 * g.monitorRoom + (rest.map fun v => v.category).sum ≤ 8) (hdg : decode cc g.pc = .ok (.invokevirtual index, 3)) (hf : cells + mc ≤ R.cells ∧ slots + ms ≤ R.slots) :
    vx_Run p l e R s m args below meth c H locs cells slots mc ms g rest (Qc (Value.ref b :: As).toArray) XC free := by
  obtain ⟨⟨hrc, hrs, hfr, hlo, hws, hcw⟩, hcode, hini, hy, hlen, hl, hin, hse⟩ := cw
  have hK : vx_Back l R p e below s args y 3 8 (PreOf R mc ms Pc) (PostOf Qc mc ms free) (vx_Post XC mc ms free) := vx_backW (hh := hh) (bytes := bytes) (maxL := maxL) (ret := ret) hM hp.1 hrc hrs hfr hlo hws hcw (fun a' U hW => word_at hW (Or.inl (by first | rfl | simp [Cond.onTables, Cond.keeps, Cond.steady])) hini)
  obtain ⟨hx, hb, hml, ho, -⟩ := S
  obtain ⟨-, ⟨cellB, hcB, hoB, hclB⟩, hPc⟩ := hp
  intro T hT X
  rcases vx_callVX X hx (C := C) (hh := hh) (bytes := bytes) (maxL := maxL) (ret := ret) ho hl hin hse hcode hy hK (by rw [hT]; exact hcB) hoB hclB hg (hsize.trans hml.symm) (argsL := As) (rest := rest) (fun sig h => hn.trans (hlen sig h)) hstack hW (by rw [hb]; exact hdg)
    (fun vm₁ hW₁ => ⟨hf.1, hf.2, hPc (T.setVm vm₁) hT hW₁⟩) with ⟨v, vm₁, ⟨U', l2, c2, s2⟩, hW₁, X', ⟨g', mk, t, L, e1, e2, hq, h1, hL, h2, h3⟩, st⟩ | ⟨q, vm₁, ⟨U', l2, c2, s2⟩, hW₁, X', ⟨g', mk, t, L, E, ce, e1, e2, hq, hce, hcv, hcl, h1, hL, h2, h3⟩, st⟩
  · dsimp only [Pt.U, Pt.locs, Pt.cells, Pt.slots] at X' e1 e2 h1 h2 h3 st
    subst h1; subst h2; subst h3
    exact Or.inl ⟨v, (T.setVm vm₁).calling g' mk (Value.ref b :: As).toArray, t, U', L, hT, X', hL, e1, e2, hq, st⟩
  · dsimp only [Pt.U, Pt.locs, Pt.cells, Pt.slots] at X' e1 e2 h1 h2 h3 st hcl
    subst h1; subst h2; subst h3
    exact Or.inr ⟨q, (T.setVm vm₁).calling g' mk (Value.ref b :: As).toArray, t, U', L, E, ce, hT, X', hL, e1, e2, hq, hce, hcv, vx_cls hW₁ hcl, st⟩
theorem vx_runSX {hh : List (Nat × Nat × Nat × Nat)} (S : CallFix p m c cc nL s args Ts own) (hM : vx_Met l y ws rm Pc Qc XC mc ms free) (cw : vx_CSW R s args own index y bytes maxL ret hh ws rm mc ms n) (hp : PreS s H Pc As)
    (hg : g.method = m) (hn : As.length = n) (hsize : g.locals.size = nL) (hstack : g.stack = As.reverse ++ rest) (hW : 2 * g.monitorRoom + (rest.map fun v => v.category).sum ≤ 8) (hdg : decode cc g.pc = .ok (.invokestatic index, 3)) (hf : cells + mc ≤ R.cells ∧ slots + ms ≤ R.slots) :
    vx_Run p l e R s m args below meth c H locs cells slots mc ms g rest (Qc As.toArray) XC free := by
  obtain ⟨⟨hrc, hrs, hfr, hlo, hws, hcw⟩, hcode, hini, hy, hlen, hl, hstt⟩ := cw
  have hK : vx_Back l R p e below s args y 3 8 (PreOf R mc ms Pc) (PostOf Qc mc ms free) (vx_Post XC mc ms free) := vx_backW (hh := hh) (bytes := bytes) (maxL := maxL) (ret := ret) hM hp.1 hrc hrs hfr hlo hws hcw (fun a' U hW => word_at hW (Or.inl (by first | rfl | simp [Cond.onTables, Cond.keeps, Cond.steady])) hini)
  obtain ⟨hx, hb, hml, ho, -⟩ := S
  intro T hT X
  rcases vx_callSX X hx (hh := hh) (bytes := bytes) (maxL := maxL) (ret := ret) ho hl hstt hini hcode hy hK hg (hsize.trans hml.symm) (argsL := As) (rest := rest) (fun sig h => hn.trans (hlen sig h)) hstack hW (by rw [hb]; exact hdg)
    (fun vm₁ hW₁ => ⟨hf.1, hf.2, hp.2 (T.setVm vm₁) hT hW₁⟩) with ⟨v, vm₁, ⟨U', l2, c2, s2⟩, hW₁, X', ⟨g', mk, t, L, e1, e2, hq, h1, hL, h2, h3⟩, st⟩ | ⟨q, vm₁, ⟨U', l2, c2, s2⟩, hW₁, X', ⟨g', mk, t, L, E, ce, e1, e2, hq, hce, hcv, hcl, h1, hL, h2, h3⟩, st⟩
  · dsimp only [Pt.U, Pt.locs, Pt.cells, Pt.slots] at X' e1 e2 h1 h2 h3 st
    subst h1; subst h2; subst h3
    exact Or.inl ⟨v, (T.setVm vm₁).calling g' mk As.toArray, t, U', L, hT, X', hL, e1, e2, hq, st⟩
  · dsimp only [Pt.U, Pt.locs, Pt.cells, Pt.slots] at X' e1 e2 h1 h2 h3 st hcl
    subst h1; subst h2; subst h3
    exact Or.inr ⟨q, (T.setVm vm₁).calling g' mk As.toArray, t, U', L, E, ce, hT, X', hL, e1, e2, hq, hce, hcv, vx_cls hW₁ hcl, st⟩
end
end VXH
theorem vx_ofWH {l : Launch} {y : MethodName} {ws ws' : List Cond} {rm : Room} {Pc : Array Value → State → Prop} {Qc : Array Value → State → Outcome → State → Prop} {XC : String → State → State → Prop} {mc ms : Nat} {free : Addr → Prop} {cc : ByteArray} {maxL : Nat} {ret : Option FieldType} {hh : List (Nat × Nat × Nat × Nat)}
    (hy : plainName y.cls = true) (hw : ws = Cond.codeWith y cc maxL ret hh :: ws')
    (body : ∀ p e s m args below meth c s₁, BodyLoose p l y (headSpec ws rm) cc maxL ret e s m args below meth c s₁ → c.maxLocals = maxL → Pc args s →
      W p l e (headSpec ws rm).room s m args below meth c s.heap [] 0 0 (vx_MQ below Qc XC args s mc ms free) (entryFrame m args maxL)) : vx_Met l y ws rm Pc Qc XC mc ms free := by
  refine MetFree.of_bodyS (code := cc) (maxLocals := maxL) (ret := ret) hy ?_ ?_
  · intro args s m h hn
    obtain ⟨m9, meth, c, hn9, h1, h2, h3, h4, -, h5, h6, -⟩ := Cond.codeWith_spec (atoms_spec (ws := ws) h _ (by rw [hw]; exact List.mem_cons_self))
    cases hn.symm.trans hn9
    exact ⟨meth, c, h1, h2, h3, h4, h5, h6⟩
  · intro p e s m args below meth c s₁ B hml hP _
    have hh0 : s₁.heap = s.heap := by rw [B.state]; rfl
    obtain ⟨t, a1, o, b1, b2, b3⟩ := body p e s m args below meth c s₁ B hml hP s₁ hh0 (Stand.of_body B)
    exact ⟨t, o, a1, b1, b2, b3⟩
/-! ===== END ===== -/
end
section
def rn_N : String := "SerialBus$Node"
def ft_N : u_T := fun k => match k with
  | 0 => ("SerialBus$Node", "words", "[I", true)
  | 1 => ("SerialBus$Node", "queue", "LSerialBus$Queue;", true)
  | 2 => ("SerialBus$Node", "labels", "[LSerialBus$Request;", true)
  | 3 => ("SerialBus$Node", "bits", "I", false)
  | 4 => ("SerialBus$Node", "place", "I", false)
  | 5 => ("SerialBus$Node", "hold", "Z", false)
  | 6 => ("SerialBus$Node", "contender", "Z", false)
  | 7 => ("SerialBus$Node", "channel", "I", false)
  | 8 => ("SerialBus$Node", "bandwidth", "I", false)
  | 9 => ("SerialBus$Node", "heard", "I", false)
  | 10 => ("SerialBus$Node", "used", "Z", false)
  | 11 => ("SerialBus$Node", "dirty", "Z", false)
  | 12 => ("SerialBus$Node", "looped", "Z", false)
  | 13 => ("SerialBus$Node", "number", "I", false)
  | 14 => ("SerialBus$Node", "parent", "I", false)
  | 15 => ("SerialBus$Node", "root", "I", false)
  | _ => ("SerialBus$Node", "manager", "I", false)
def tt_N : Nat → FieldType := fun k => match k with
  | 0 => .array .int
  | 1 => .object "SerialBus$Queue"
  | 2 => .array (.object "SerialBus$Request")
  | 3 => .int
  | 4 => .int
  | 5 => .boolean
  | 6 => .boolean
  | 7 => .int
  | 8 => .int
  | 9 => .int
  | 10 => .boolean
  | 11 => .boolean
  | 12 => .boolean
  | 13 => .int
  | 14 => .int
  | 15 => .int
  | _ => .int
theorem nm_N : ∀ a, a < 17 → ∀ b, b < 17 → a ≠ b → (ft_N a).2.1 ≠ (ft_N b).2.1 := by decide +kernel
theorem ty_N : ∀ k, k < 17 → parseFieldDescriptor (ft_N k).2.2.1 = some (tt_N k) := by decide +kernel
theorem in_N : ∀ w ∈ u_ws rn_N ft_N 17, w ∈ lw_tbl := by decide +kernel
def rn_Q : String := "SerialBus$Queue"
def ft_Q : u_T := fun k => match k with
  | 0 => ("SerialBus$Queue", "packets", "[LSerialBus$Request;", true)
  | _ => ("SerialBus$Queue", "size", "I", false)
def tt_Q : Nat → FieldType := fun k => match k with
  | 0 => .array (.object "SerialBus$Request")
  | _ => .int
theorem nm_Q : ∀ a, a < 2 → ∀ b, b < 2 → a ≠ b → (ft_Q a).2.1 ≠ (ft_Q b).2.1 := by decide +kernel
theorem ty_Q : ∀ k, k < 2 → parseFieldDescriptor (ft_Q k).2.2.1 = some (tt_Q k) := by decide +kernel
theorem in_Q : ∀ w ∈ u_ws rn_Q ft_Q 2, w ∈ lw_tbl := by decide +kernel
def rn_R : String := "SerialBus$Request"
def ft_R : u_T := fun k => match k with
  | 0 => ("SerialBus$Request", "target", "I", true)
  | 1 => ("SerialBus$Request", "work", "I", true)
  | 2 => ("SerialBus$Request", "wordNumber", "I", true)
  | 3 => ("SerialBus$Request", "expected", "I", true)
  | 4 => ("SerialBus$Request", "given", "I", true)
  | 5 => ("SerialBus$Request", "lateAt", "I", true)
  | 6 => ("SerialBus$Request", "end", "I", false)
  | 7 => ("SerialBus$Request", "sendings", "I", false)
  | 8 => ("SerialBus$Request", "answered", "Z", false)
  | _ => ("SerialBus$Request", "answer", "I", false)
def tt_R : Nat → FieldType := fun k => match k with
  | 0 => .int
  | 1 => .int
  | 2 => .int
  | 3 => .int
  | 4 => .int
  | 5 => .int
  | 6 => .int
  | 7 => .int
  | 8 => .boolean
  | _ => .int
theorem nm_R : ∀ a, a < 10 → ∀ b, b < 10 → a ≠ b → (ft_R a).2.1 ≠ (ft_R b).2.1 := by decide +kernel
theorem ty_R : ∀ k, k < 10 → parseFieldDescriptor (ft_R k).2.2.1 = some (tt_R k) := by decide +kernel
theorem in_R : ∀ w ∈ u_ws rn_R ft_R 10, w ∈ lw_tbl := by decide +kernel
def rn_T : String := "SerialBus$Tree"
def ft_T : u_T := fun k => match k with
  | 0 => ("SerialBus$Tree", "open", "[Z", true)
  | _ => ("SerialBus$Tree", "askedSocket", "[I", true)
def tt_T : Nat → FieldType := fun k => match k with
  | 0 => .array .boolean
  | _ => .array .int
theorem nm_T : ∀ a, a < 2 → ∀ b, b < 2 → a ≠ b → (ft_T a).2.1 ≠ (ft_T b).2.1 := by decide +kernel
theorem ty_T : ∀ k, k < 2 → parseFieldDescriptor (ft_T k).2.2.1 = some (tt_T k) := by decide +kernel
theorem in_T : ∀ w ∈ u_ws rn_T ft_T 2, w ∈ lw_tbl := by decide +kernel
def rn_W : String := "SerialBus$Wiring"
def ft_W : u_T := fun k => match k with
  | 0 => ("SerialBus$Wiring", "farSocket", "[I", true)
  | 1 => ("SerialBus$Wiring", "busOfNode", "[I", true)
  | _ => ("SerialBus$Wiring", "cables", "I", false)
def tt_W : Nat → FieldType := fun k => match k with
  | 0 => .array .int
  | 1 => .array .int
  | _ => .int
theorem nm_W : ∀ a, a < 3 → ∀ b, b < 3 → a ≠ b → (ft_W a).2.1 ≠ (ft_W b).2.1 := by decide +kernel
theorem ty_W : ∀ k, k < 3 → parseFieldDescriptor (ft_W k).2.2.1 = some (tt_W k) := by decide +kernel
theorem in_W : ∀ w ∈ u_ws rn_W ft_W 3, w ∈ lw_tbl := by decide +kernel
def rn_S : String := "SerialBus"
def ft_S : u_T := fun k => match k with
  | 0 => ("SerialBus", "wiring", "LSerialBus$Wiring;", true)
  | 1 => ("SerialBus", "tree", "LSerialBus$Tree;", true)
  | 2 => ("SerialBus", "nodes", "[LSerialBus$Node;", true)
  | 3 => ("SerialBus", "clock", "I", false)
  | 4 => ("SerialBus", "timeToWait", "I", false)
  | 5 => ("SerialBus", "resets", "I", false)
  | 6 => ("SerialBus", "slotPackets", "I", false)
  | 7 => ("SerialBus", "cyclePackets", "I", false)
  | _ => ("SerialBus", "usedTaken", "I", false)
def tt_S : Nat → FieldType := fun k => match k with
  | 0 => .object "SerialBus$Wiring"
  | 1 => .object "SerialBus$Tree"
  | 2 => .array (.object "SerialBus$Node")
  | 3 => .int
  | 4 => .int
  | 5 => .int
  | 6 => .int
  | 7 => .int
  | _ => .int
theorem nm_S : ∀ a, a < 9 → ∀ b, b < 9 → a ≠ b → (ft_S a).2.1 ≠ (ft_S b).2.1 := by decide +kernel
theorem ty_S : ∀ k, k < 9 → parseFieldDescriptor (ft_S k).2.2.1 = some (tt_S k) := by decide +kernel
theorem in_S : ∀ w ∈ u_ws rn_S ft_S 9, w ∈ lw_tbl := by decide +kernel
def rn_M : String := "SerialBusModel"
def ft_M : u_T := fun k => match k with
  | 0 => ("SerialBusModel", "thrown", "I", false)
  | 1 => ("SerialBusModel", "other", "[I", true)
  | 2 => ("SerialBusModel", "open", "[Z", true)
  | 3 => ("SerialBusModel", "bits", "[I", true)
  | 4 => ("SerialBusModel", "place", "[I", true)
  | 5 => ("SerialBusModel", "heard", "[I", true)
  | 6 => ("SerialBusModel", "channel", "[I", true)
  | 7 => ("SerialBusModel", "bandwidth", "[I", true)
  | 8 => ("SerialBusModel", "hold", "[Z", true)
  | 9 => ("SerialBusModel", "contender", "[Z", true)
  | 10 => ("SerialBusModel", "used", "[Z", true)
  | 11 => ("SerialBusModel", "dirty", "[Z", true)
  | 12 => ("SerialBusModel", "looped", "[Z", true)
  | 13 => ("SerialBusModel", "words", "[I", true)
  | 14 => ("SerialBusModel", "parent", "[I", true)
  | 15 => ("SerialBusModel", "number", "[I", true)
  | 16 => ("SerialBusModel", "root", "[I", true)
  | 17 => ("SerialBusModel", "manager", "[I", true)
  | 18 => ("SerialBusModel", "bus", "[I", true)
  | 19 => ("SerialBusModel", "asks", "[Z", true)
  | 20 => ("SerialBusModel", "state", "[I", true)
  | 21 => ("SerialBusModel", "to", "[I", true)
  | 22 => ("SerialBusModel", "work", "[I", true)
  | 23 => ("SerialBusModel", "word", "[I", true)
  | 24 => ("SerialBusModel", "oldValue", "[I", true)
  | 25 => ("SerialBusModel", "newValue", "[I", true)
  | 26 => ("SerialBusModel", "result", "[I", true)
  | 27 => ("SerialBusModel", "due", "[I", true)
  | 28 => ("SerialBusModel", "serial", "[I", true)
  | 29 => ("SerialBusModel", "serials", "I", false)
  | 30 => ("SerialBusModel", "label", "[I", true)
  | 31 => ("SerialBusModel", "of", "[I", true)
  | 32 => ("SerialBusModel", "sent", "[I", true)
  | 33 => ("SerialBusModel", "answer", "[I", true)
  | 34 => ("SerialBusModel", "isAnswer", "[Z", true)
  | 35 => ("SerialBusModel", "queue", "[I", true)
  | 36 => ("SerialBusModel", "clock", "I", false)
  | 37 => ("SerialBusModel", "patience", "I", false)
  | 38 => ("SerialBusModel", "resets", "I", false)
  | 39 => ("SerialBusModel", "packets", "I", false)
  | 40 => ("SerialBusModel", "talks", "I", false)
  | _ => ("SerialBusModel", "turns", "I", false)
def tt_M : Nat → FieldType := fun k => match k with
  | 0 => .int
  | 1 => .array .int
  | 2 => .array .boolean
  | 3 => .array .int
  | 4 => .array .int
  | 5 => .array .int
  | 6 => .array .int
  | 7 => .array .int
  | 8 => .array .boolean
  | 9 => .array .boolean
  | 10 => .array .boolean
  | 11 => .array .boolean
  | 12 => .array .boolean
  | 13 => .array .int
  | 14 => .array .int
  | 15 => .array .int
  | 16 => .array .int
  | 17 => .array .int
  | 18 => .array .int
  | 19 => .array .boolean
  | 20 => .array .int
  | 21 => .array .int
  | 22 => .array .int
  | 23 => .array .int
  | 24 => .array .int
  | 25 => .array .int
  | 26 => .array .int
  | 27 => .array .int
  | 28 => .array .int
  | 29 => .int
  | 30 => .array .int
  | 31 => .array .int
  | 32 => .array .int
  | 33 => .array .int
  | 34 => .array .boolean
  | 35 => .array .int
  | 36 => .int
  | 37 => .int
  | 38 => .int
  | 39 => .int
  | 40 => .int
  | _ => .int
theorem nm_M : ∀ a, a < 42 → ∀ b, b < 42 → a ≠ b → (ft_M a).2.1 ≠ (ft_M b).2.1 := by decide +kernel
theorem ty_M : ∀ k, k < 42 → parseFieldDescriptor (ft_M k).2.2.1 = some (tt_M k) := by decide +kernel
theorem in_M : ∀ w ∈ u_ws rn_M ft_M 42, w ∈ lw_tbl := by decide +kernel
def rn_L : String := "SerialBusLaw"
abbrev clz : List vw_C := [(rn_N, ft_N, 17), (rn_Q, ft_Q, 2), (rn_R, ft_R, 10), (rn_T, ft_T, 2), (rn_W, ft_W, 3), (rn_S, ft_S, 9), (rn_M, ft_M, 42)]
abbrev cd_N_init : ByteArray := prog_2_method_1_code
def my_N_init : MethodName := ⟨rn_N, "<init>", "()V"⟩
abbrev cd_N_startAnew : ByteArray := prog_2_method_2_code
def my_N_startAnew : MethodName := ⟨rn_N, "startAnew", "()V"⟩
abbrev cd_N_learn : ByteArray := prog_2_method_3_code
def my_N_learn : MethodName := ⟨rn_N, "learn", "(ZII)V"⟩
abbrev cd_N_takeBit : ByteArray := prog_2_method_4_code
def my_N_takeBit : MethodName := ⟨rn_N, "takeBit", "()I"⟩
abbrev cd_N_leastLabelThatDoesNotWait : ByteArray := prog_2_method_5_code
def my_N_leastLabelThatDoesNotWait : MethodName := ⟨rn_N, "leastLabelThatDoesNotWait", "()I"⟩
abbrev cd_N_waitingRequests : ByteArray := prog_2_method_6_code
def my_N_waitingRequests : MethodName := ⟨rn_N, "waitingRequests", "()I"⟩
abbrev cd_N_endLateRequests : ByteArray := prog_2_method_7_code
def my_N_endLateRequests : MethodName := ⟨rn_N, "endLateRequests", "(I)V"⟩
abbrev cd_N_waits : ByteArray := prog_2_method_8_code
def my_N_waits : MethodName := ⟨rn_N, "waits", "(I)Z"⟩
abbrev cd_Q_init : ByteArray := prog_3_method_1_code
def my_Q_init : MethodName := ⟨rn_Q, "<init>", "()V"⟩
abbrev cd_Q_isEmpty : ByteArray := prog_3_method_2_code
def my_Q_isEmpty : MethodName := ⟨rn_Q, "isEmpty", "()Z"⟩
abbrev cd_Q_isFull : ByteArray := prog_3_method_3_code
def my_Q_isFull : MethodName := ⟨rn_Q, "isFull", "()Z"⟩
abbrev cd_Q_append : ByteArray := prog_3_method_4_code
def my_Q_append : MethodName := ⟨rn_Q, "append", "(LSerialBus$Request;)V"⟩
abbrev cd_Q_takeFirst : ByteArray := prog_3_method_5_code
def my_Q_takeFirst : MethodName := ⟨rn_Q, "takeFirst", "()LSerialBus$Request;"⟩
abbrev cd_Q_drop : ByteArray := prog_3_method_6_code
def my_Q_drop : MethodName := ⟨rn_Q, "drop", "(LSerialBus$Request;)V"⟩
abbrev cd_Q_empty : ByteArray := prog_3_method_7_code
def my_Q_empty : MethodName := ⟨rn_Q, "empty", "()V"⟩
abbrev cd_Q_removeAt : ByteArray := prog_3_method_8_code
def my_Q_removeAt : MethodName := ⟨rn_Q, "removeAt", "(I)V"⟩
abbrev cd_R_init : ByteArray := prog_4_method_1_code
def my_R_init : MethodName := ⟨rn_R, "<init>", "(IIIIII)V"⟩
abbrev cd_R_endIfItWaits : ByteArray := prog_4_method_2_code
def my_R_endIfItWaits : MethodName := ⟨rn_R, "endIfItWaits", "(I)V"⟩
abbrev cd_R_workOn : ByteArray := prog_4_method_3_code
def my_R_workOn : MethodName := ⟨rn_R, "workOn", "([I)V"⟩
abbrev cd_T_init : ByteArray := prog_5_method_1_code
def my_T_init : MethodName := ⟨rn_T, "<init>", "()V"⟩
abbrev cd_T_findParents : ByteArray := prog_5_method_2_code
def my_T_findParents : MethodName := ⟨rn_T, "findParents", "(LSerialBus$Wiring;[LSerialBus$Node;I)Z"⟩
abbrev cd_T_settle : ByteArray := prog_5_method_3_code
def my_T_settle : MethodName := ⟨rn_T, "settle", "(LSerialBus$Wiring;[LSerialBus$Node;IZ)V"⟩
abbrev cd_T_openCables : ByteArray := prog_5_method_4_code
def my_T_openCables : MethodName := ⟨rn_T, "openCables", "(LSerialBus$Wiring;I)V"⟩
abbrev cd_T_someCableIsOpen : ByteArray := prog_5_method_5_code
def my_T_someCableIsOpen : MethodName := ⟨rn_T, "someCableIsOpen", "()Z"⟩
abbrev cd_T_chooseAskers : ByteArray := prog_5_method_6_code
def my_T_chooseAskers : MethodName := ⟨rn_T, "chooseAskers", "([LSerialBus$Node;I)V"⟩
abbrev cd_T_onlyOpenSocket : ByteArray := prog_5_method_7_code
def my_T_onlyOpenSocket : MethodName := ⟨rn_T, "onlyOpenSocket", "(I)I"⟩
abbrev cd_T_closeAskedCables : ByteArray := prog_5_method_8_code
def my_T_closeAskedCables : MethodName := ⟨rn_T, "closeAskedCables", "(LSerialBus$Wiring;[LSerialBus$Node;)V"⟩
abbrev cd_T_contend : ByteArray := prog_5_method_9_code
def my_T_contend : MethodName := ⟨rn_T, "contend", "([LSerialBus$Node;II)V"⟩
abbrev cd_T_close : ByteArray := prog_5_method_10_code
def my_T_close : MethodName := ⟨rn_T, "close", "(LSerialBus$Node;III)V"⟩
abbrev cd_T_findRoot : ByteArray := prog_5_method_11_code
def my_T_findRoot : MethodName := ⟨rn_T, "findRoot", "(LSerialBus$Wiring;[LSerialBus$Node;I)I"⟩
abbrev cd_T_giveNumbers : ByteArray := prog_5_method_12_code
def my_T_giveNumbers : MethodName := ⟨rn_T, "giveNumbers", "(LSerialBus$Wiring;[LSerialBus$Node;III)I"⟩
abbrev cd_T_findManager : ByteArray := prog_5_method_13_code
def my_T_findManager : MethodName := ⟨rn_T, "findManager", "(LSerialBus$Wiring;[LSerialBus$Node;I)I"⟩
abbrev cd_W_init : ByteArray := prog_6_method_1_code
def my_W_init : MethodName := ⟨rn_W, "<init>", "()V"⟩
abbrev cd_W_join : ByteArray := prog_6_method_2_code
def my_W_join : MethodName := ⟨rn_W, "join", "(IIII)V"⟩
abbrev cd_W_part : ByteArray := prog_6_method_3_code
def my_W_part : MethodName := ⟨rn_W, "part", "(II)V"⟩
abbrev cd_W_farNode : ByteArray := prog_6_method_4_code
def my_W_farNode : MethodName := ⟨rn_W, "farNode", "(II)I"⟩
abbrev cd_W_busOf : ByteArray := prog_6_method_5_code
def my_W_busOf : MethodName := ⟨rn_W, "busOf", "(I)I"⟩
abbrev cd_W_isBus : ByteArray := prog_6_method_6_code
def my_W_isBus : MethodName := ⟨rn_W, "isBus", "(I)Z"⟩
abbrev cd_W_buses : ByteArray := prog_6_method_7_code
def my_W_buses : MethodName := ⟨rn_W, "buses", "()I"⟩
abbrev cd_W_findBuses : ByteArray := prog_6_method_8_code
def my_W_findBuses : MethodName := ⟨rn_W, "findBuses", "()V"⟩
abbrev cd_S_init : ByteArray := prog_1_method_1_code
def my_S_init : MethodName := ⟨rn_S, "<init>", "()V"⟩
abbrev cd_S_plug : ByteArray := prog_1_method_2_code
def my_S_plug : MethodName := ⟨rn_S, "plug", "(IIII)I"⟩
abbrev cd_S_unplug : ByteArray := prog_1_method_3_code
def my_S_unplug : MethodName := ⟨rn_S, "unplug", "(II)I"⟩
abbrev cd_S_reset : ByteArray := prog_1_method_4_code
def my_S_reset : MethodName := ⟨rn_S, "reset", "(IIZZ)V"⟩
abbrev cd_S_ask : ByteArray := prog_1_method_5_code
def my_S_ask : MethodName := ⟨rn_S, "ask", "(IIIIII)I"⟩
abbrev cd_S_talk : ByteArray := prog_1_method_6_code
def my_S_talk : MethodName := ⟨rn_S, "talk", "(III)V"⟩
abbrev cd_S_time : ByteArray := prog_1_method_7_code
def my_S_time : MethodName := ⟨rn_S, "time", "(I)V"⟩
abbrev cd_S_tick : ByteArray := prog_1_method_8_code
def my_S_tick : MethodName := ⟨rn_S, "tick", "(I)I"⟩
abbrev cd_S_ended : ByteArray := prog_1_method_9_code
def my_S_ended : MethodName := ⟨rn_S, "ended", "(II)I"⟩
abbrev cd_S_value : ByteArray := prog_1_method_10_code
def my_S_value : MethodName := ⟨rn_S, "value", "(II)I"⟩
abbrev cd_S_about : ByteArray := prog_1_method_11_code
def my_S_about : MethodName := ⟨rn_S, "about", "(II)I"⟩
abbrev cd_S_word : ByteArray := prog_1_method_12_code
def my_S_word : MethodName := ⟨rn_S, "word", "(II)I"⟩
abbrev cd_S_count : ByteArray := prog_1_method_13_code
def my_S_count : MethodName := ⟨rn_S, "count", "(I)I"⟩
abbrev cd_S_checkNode : ByteArray := prog_1_method_14_code
def my_S_checkNode : MethodName := ⟨rn_S, "checkNode", "(I)V"⟩
abbrev cd_S_checkPort : ByteArray := prog_1_method_15_code
def my_S_checkPort : MethodName := ⟨rn_S, "checkPort", "(I)V"⟩
abbrev cd_S_checkLabel : ByteArray := prog_1_method_16_code
def my_S_checkLabel : MethodName := ⟨rn_S, "checkLabel", "(I)V"⟩
abbrev cd_S_checkWord : ByteArray := prog_1_method_17_code
def my_S_checkWord : MethodName := ⟨rn_S, "checkWord", "(I)V"⟩
abbrev cd_S_isDirty : ByteArray := prog_1_method_18_code
def my_S_isDirty : MethodName := ⟨rn_S, "isDirty", "(I)Z"⟩
abbrev cd_S_loopedBuses : ByteArray := prog_1_method_19_code
def my_S_loopedBuses : MethodName := ⟨rn_S, "loopedBuses", "()I"⟩
abbrev cd_S_runBus : ByteArray := prog_1_method_20_code
def my_S_runBus : MethodName := ⟨rn_S, "runBus", "(I)V"⟩
abbrev cd_S_resetBus : ByteArray := prog_1_method_21_code
def my_S_resetBus : MethodName := ⟨rn_S, "resetBus", "(I)V"⟩
abbrev cd_S_runSlot : ByteArray := prog_1_method_22_code
def my_S_runSlot : MethodName := ⟨rn_S, "runSlot", "(I)V"⟩
abbrev cd_S_takeUsedFromAll : ByteArray := prog_1_method_23_code
def my_S_takeUsedFromAll : MethodName := ⟨rn_S, "takeUsedFromAll", "(I)V"⟩
abbrev cd_S_sendFirstPacket : ByteArray := prog_1_method_24_code
def my_S_sendFirstPacket : MethodName := ⟨rn_S, "sendFirstPacket", "(LSerialBus$Node;I)V"⟩
abbrev cd_S_sendRequest : ByteArray := prog_1_method_25_code
def my_S_sendRequest : MethodName := ⟨rn_S, "sendRequest", "(LSerialBus$Request;LSerialBus$Node;I)V"⟩
abbrev cd_S_runCycle : ByteArray := prog_1_method_26_code
def my_S_runCycle : MethodName := ⟨rn_S, "runCycle", "(ILSerialBus$Node;)V"⟩
abbrev cd_S_nodeWithNumber : ByteArray := prog_1_method_27_code
def my_S_nodeWithNumber : MethodName := ⟨rn_S, "nodeWithNumber", "(II)I"⟩
abbrev cd_S_letOthersHear : ByteArray := prog_1_method_28_code
def my_S_letOthersHear : MethodName := ⟨rn_S, "letOthersHear", "(II)V"⟩
abbrev cd_S_endLateRequests : ByteArray := prog_1_method_29_code
def my_S_endLateRequests : MethodName := ⟨rn_S, "endLateRequests", "()V"⟩
abbrev cd_M_init : ByteArray := prog_8_method_1_code
def my_M_init : MethodName := ⟨rn_M, "<init>", "()V"⟩
abbrev cd_M_thrown : ByteArray := prog_8_method_2_code
def my_M_thrown : MethodName := ⟨rn_M, "thrown", "()I"⟩
abbrev cd_M_fail : ByteArray := prog_8_method_3_code
def my_M_fail : MethodName := ⟨rn_M, "fail", "(I)I"⟩
abbrev cd_M_out : ByteArray := prog_8_method_4_code
def my_M_out : MethodName := ⟨rn_M, "out", "(II)Z"⟩
abbrev cd_M_plug : ByteArray := prog_8_method_5_code
def my_M_plug : MethodName := ⟨rn_M, "plug", "(IIII)I"⟩
abbrev cd_M_unplug : ByteArray := prog_8_method_6_code
def my_M_unplug : MethodName := ⟨rn_M, "unplug", "(II)I"⟩
abbrev cd_M_cables : ByteArray := prog_8_method_7_code
def my_M_cables : MethodName := ⟨rn_M, "cables", "()I"⟩
abbrev cd_M_findBuses : ByteArray := prog_8_method_8_code
def my_M_findBuses : MethodName := ⟨rn_M, "findBuses", "()V"⟩
abbrev cd_M_busDirty : ByteArray := prog_8_method_9_code
def my_M_busDirty : MethodName := ⟨rn_M, "busDirty", "(I)Z"⟩
abbrev cd_M_reset : ByteArray := prog_8_method_10_code
def my_M_reset : MethodName := ⟨rn_M, "reset", "(IIZZ)V"⟩
abbrev cd_M_ask : ByteArray := prog_8_method_11_code
def my_M_ask : MethodName := ⟨rn_M, "ask", "(IIIIII)I"⟩
abbrev cd_M_put : ByteArray := prog_8_method_12_code
def my_M_put : MethodName := ⟨rn_M, "put", "(IIIIZI)V"⟩
abbrev cd_M_take : ByteArray := prog_8_method_13_code
def my_M_take : MethodName := ⟨rn_M, "take", "(II)V"⟩
abbrev cd_M_done : ByteArray := prog_8_method_14_code
def my_M_done : MethodName := ⟨rn_M, "done", "(I)I"⟩
abbrev cd_M_sendRequest : ByteArray := prog_8_method_15_code
def my_M_sendRequest : MethodName := ⟨rn_M, "sendRequest", "(IIII)V"⟩
abbrev cd_M_send : ByteArray := prog_8_method_16_code
def my_M_send : MethodName := ⟨rn_M, "send", "(I)V"⟩
abbrev cd_M_openAt : ByteArray := prog_8_method_17_code
def my_M_openAt : MethodName := ⟨rn_M, "openAt", "(I)I"⟩
abbrev cd_M_nextBit : ByteArray := prog_8_method_18_code
def my_M_nextBit : MethodName := ⟨rn_M, "nextBit", "(I)I"⟩
abbrev cd_M_close : ByteArray := prog_8_method_19_code
def my_M_close : MethodName := ⟨rn_M, "close", "(II)V"⟩
abbrev cd_M_round : ByteArray := prog_8_method_20_code
def my_M_round : MethodName := ⟨rn_M, "round", "(II)V"⟩
abbrev cd_M_anyOpen : ByteArray := prog_8_method_21_code
def my_M_anyOpen : MethodName := ⟨rn_M, "anyOpen", "(I)Z"⟩
abbrev cd_M_clean : ByteArray := prog_8_method_22_code
def my_M_clean : MethodName := ⟨rn_M, "clean", "(I)V"⟩
abbrev cd_M_child : ByteArray := prog_8_method_23_code
def my_M_child : MethodName := ⟨rn_M, "child", "(II)I"⟩
abbrev cd_M_giveNumbers : ByteArray := prog_8_method_24_code
def my_M_giveNumbers : MethodName := ⟨rn_M, "giveNumbers", "(I)V"⟩
abbrev cd_M_settle : ByteArray := prog_8_method_25_code
def my_M_settle : MethodName := ⟨rn_M, "settle", "(IZ)V"⟩
abbrev cd_M_resetBus : ByteArray := prog_8_method_26_code
def my_M_resetBus : MethodName := ⟨rn_M, "resetBus", "(I)V"⟩
abbrev cd_M_sender : ByteArray := prog_8_method_27_code
def my_M_sender : MethodName := ⟨rn_M, "sender", "(IZ)I"⟩
abbrev cd_M_slot : ByteArray := prog_8_method_28_code
def my_M_slot : MethodName := ⟨rn_M, "slot", "(I)V"⟩
abbrev cd_M_numbered : ByteArray := prog_8_method_29_code
def my_M_numbered : MethodName := ⟨rn_M, "numbered", "(II)I"⟩
abbrev cd_M_cycle : ByteArray := prog_8_method_30_code
def my_M_cycle : MethodName := ⟨rn_M, "cycle", "(I)V"⟩
abbrev cd_M_tickBus : ByteArray := prog_8_method_31_code
def my_M_tickBus : MethodName := ⟨rn_M, "tickBus", "(I)V"⟩
abbrev cd_M_comeLate : ByteArray := prog_8_method_32_code
def my_M_comeLate : MethodName := ⟨rn_M, "comeLate", "()V"⟩
abbrev cd_M_tick : ByteArray := prog_8_method_33_code
def my_M_tick : MethodName := ⟨rn_M, "tick", "(I)I"⟩
abbrev cd_M_talk : ByteArray := prog_8_method_34_code
def my_M_talk : MethodName := ⟨rn_M, "talk", "(III)V"⟩
abbrev cd_M_time : ByteArray := prog_8_method_35_code
def my_M_time : MethodName := ⟨rn_M, "time", "(I)V"⟩
abbrev cd_M_ended : ByteArray := prog_8_method_36_code
def my_M_ended : MethodName := ⟨rn_M, "ended", "(II)I"⟩
abbrev cd_M_value : ByteArray := prog_8_method_37_code
def my_M_value : MethodName := ⟨rn_M, "value", "(II)I"⟩
abbrev cd_M_waiting : ByteArray := prog_8_method_38_code
def my_M_waiting : MethodName := ⟨rn_M, "waiting", "(I)I"⟩
abbrev cd_M_about : ByteArray := prog_8_method_39_code
def my_M_about : MethodName := ⟨rn_M, "about", "(II)I"⟩
abbrev cd_M_word : ByteArray := prog_8_method_40_code
def my_M_word : MethodName := ⟨rn_M, "word", "(II)I"⟩
abbrev cd_M_count : ByteArray := prog_8_method_41_code
def my_M_count : MethodName := ⟨rn_M, "count", "(I)I"⟩
abbrev cd_L_plug : ByteArray := method_3_code
def my_L_plug : MethodName := ⟨rn_L, "plug", "(LSerialBus;IIII[J)I"⟩
abbrev cd_L_unplug : ByteArray := method_4_code
def my_L_unplug : MethodName := ⟨rn_L, "unplug", "(LSerialBus;II[J)I"⟩
abbrev cd_L_reset : ByteArray := method_5_code
def my_L_reset : MethodName := ⟨rn_L, "reset", "(LSerialBus;IIZZ)I"⟩
abbrev cd_L_ask : ByteArray := method_6_code
def my_L_ask : MethodName := ⟨rn_L, "ask", "(LSerialBus;IIIIII[J)I"⟩
abbrev cd_L_talk : ByteArray := method_7_code
def my_L_talk : MethodName := ⟨rn_L, "talk", "(LSerialBus;III)I"⟩
abbrev cd_L_time : ByteArray := method_8_code
def my_L_time : MethodName := ⟨rn_L, "time", "(LSerialBus;I)I"⟩
abbrev cd_L_tick : ByteArray := method_9_code
def my_L_tick : MethodName := ⟨rn_L, "tick", "(LSerialBus;I[J)I"⟩
abbrev cd_L_ended : ByteArray := method_10_code
def my_L_ended : MethodName := ⟨rn_L, "ended", "(LSerialBus;II[J)I"⟩
abbrev cd_L_value : ByteArray := method_11_code
def my_L_value : MethodName := ⟨rn_L, "value", "(LSerialBus;II[J)I"⟩
abbrev cd_L_about : ByteArray := method_12_code
def my_L_about : MethodName := ⟨rn_L, "about", "(LSerialBus;II[J)I"⟩
abbrev cd_L_word : ByteArray := method_13_code
def my_L_word : MethodName := ⟨rn_L, "word", "(LSerialBus;II[J)I"⟩
abbrev cd_L_law : ByteArray := code
def my_L_law : MethodName := ⟨rn_L, "law", "([I)Z"⟩
end
section
theorem dc_N_init_0 : decode cd_N_init 0 = .ok (.aload_n 0, 1) := by decide +kernel
theorem dc_N_init_1 : decode cd_N_init 1 = .ok (.invokespecial 3, 3) := by decide +kernel
theorem dc_N_init_4 : decode cd_N_init 4 = .ok (.aload_n 0, 1) := by decide +kernel
theorem dc_N_init_5 : decode cd_N_init 5 = .ok (.bipush 8, 2) := by decide +kernel
theorem dc_N_init_7 : decode cd_N_init 7 = .ok (.newarray .int, 2) := by decide +kernel
theorem dc_N_init_9 : decode cd_N_init 9 = .ok (.putfield 9, 3) := by decide +kernel
theorem dc_N_init_12 : decode cd_N_init 12 = .ok (.aload_n 0, 1) := by decide +kernel
theorem dc_N_init_13 : decode cd_N_init 13 = .ok (.new 15, 3) := by decide +kernel
theorem dc_N_init_16 : decode cd_N_init 16 = .ok (.dup, 1) := by decide +kernel
theorem dc_N_init_17 : decode cd_N_init 17 = .ok (.invokespecial 17, 3) := by decide +kernel
theorem dc_N_init_20 : decode cd_N_init 20 = .ok (.putfield 18, 3) := by decide +kernel
theorem dc_N_init_23 : decode cd_N_init 23 = .ok (.aload_n 0, 1) := by decide +kernel
theorem dc_N_init_24 : decode cd_N_init 24 = .ok (.iconst 4, 1) := by decide +kernel
theorem dc_N_init_25 : decode cd_N_init 25 = .ok (.anewarray 22, 3) := by decide +kernel
theorem dc_N_init_28 : decode cd_N_init 28 = .ok (.putfield 24, 3) := by decide +kernel
theorem dc_N_init_31 : decode cd_N_init 31 = .ok (.aload_n 0, 1) := by decide +kernel
theorem dc_N_init_32 : decode cd_N_init 32 = .ok (.iconst 1, 1) := by decide +kernel
theorem dc_N_init_33 : decode cd_N_init 33 = .ok (.putfield 28, 3) := by decide +kernel
theorem dc_N_init_36 : decode cd_N_init 36 = .ok (.aload_n 0, 1) := by decide +kernel
theorem dc_N_init_37 : decode cd_N_init 37 = .ok (.iconst (-1), 1) := by decide +kernel
theorem dc_N_init_38 : decode cd_N_init 38 = .ok (.putfield 32, 3) := by decide +kernel
theorem dc_N_init_41 : decode cd_N_init 41 = .ok (.aload_n 0, 1) := by decide +kernel
theorem dc_N_init_42 : decode cd_N_init 42 = .ok (.iconst (-1), 1) := by decide +kernel
theorem dc_N_init_43 : decode cd_N_init 43 = .ok (.putfield 36, 3) := by decide +kernel
theorem dc_N_init_46 : decode cd_N_init 46 = .ok (.aload_n 0, 1) := by decide +kernel
theorem dc_N_init_47 : decode cd_N_init 47 = .ok (.iconst (-1), 1) := by decide +kernel
theorem dc_N_init_48 : decode cd_N_init 48 = .ok (.putfield 39, 3) := by decide +kernel
theorem dc_N_init_51 : decode cd_N_init 51 = .ok (.aload_n 0, 1) := by decide +kernel
theorem dc_N_init_52 : decode cd_N_init 52 = .ok (.iconst (-1), 1) := by decide +kernel
theorem dc_N_init_53 : decode cd_N_init 53 = .ok (.putfield 42, 3) := by decide +kernel
theorem dc_N_init_56 : decode cd_N_init 56 = .ok (.aload_n 0, 1) := by decide +kernel
theorem dc_N_init_57 : decode cd_N_init 57 = .ok (.getfield 9, 3) := by decide +kernel
theorem dc_N_init_60 : decode cd_N_init 60 = .ok (.bipush 6, 2) := by decide +kernel
theorem dc_N_init_62 : decode cd_N_init 62 = .ok (.bipush 100, 2) := by decide +kernel
theorem dc_N_init_64 : decode cd_N_init 64 = .ok (.iastore, 1) := by decide +kernel
theorem dc_N_init_65 : decode cd_N_init 65 = .ok (.aload_n 0, 1) := by decide +kernel
theorem dc_N_init_66 : decode cd_N_init 66 = .ok (.getfield 9, 3) := by decide +kernel
theorem dc_N_init_69 : decode cd_N_init 69 = .ok (.bipush 7, 2) := by decide +kernel
theorem dc_N_init_71 : decode cd_N_init 71 = .ok (.iconst (-1), 1) := by decide +kernel
theorem dc_N_init_72 : decode cd_N_init 72 = .ok (.iastore, 1) := by decide +kernel
theorem dc_N_init_73 : decode cd_N_init 73 = .ok (.return_, 1) := by decide +kernel
theorem dc_N_startAnew_0 : decode cd_N_startAnew 0 = .ok (.iconst 0, 1) := by decide +kernel
theorem dc_N_startAnew_1 : decode cd_N_startAnew 1 = .ok (.istore_n 1, 1) := by decide +kernel
theorem dc_N_startAnew_2 : decode cd_N_startAnew 2 = .ok (.iload_n 1, 1) := by decide +kernel
theorem dc_N_startAnew_3 : decode cd_N_startAnew 3 = .ok (.iconst 4, 1) := by decide +kernel
theorem dc_N_startAnew_4 : decode cd_N_startAnew 4 = .ok (.if_icmp .ge 28, 3) := by decide +kernel
theorem dc_N_startAnew_7 : decode cd_N_startAnew 7 = .ok (.aload_n 0, 1) := by decide +kernel
theorem dc_N_startAnew_8 : decode cd_N_startAnew 8 = .ok (.getfield 24, 3) := by decide +kernel
theorem dc_N_startAnew_11 : decode cd_N_startAnew 11 = .ok (.iload_n 1, 1) := by decide +kernel
theorem dc_N_startAnew_12 : decode cd_N_startAnew 12 = .ok (.aaload, 1) := by decide +kernel
theorem dc_N_startAnew_13 : decode cd_N_startAnew 13 = .ok (.ifnull 13, 3) := by decide +kernel
theorem dc_N_startAnew_16 : decode cd_N_startAnew 16 = .ok (.aload_n 0, 1) := by decide +kernel
theorem dc_N_startAnew_17 : decode cd_N_startAnew 17 = .ok (.getfield 24, 3) := by decide +kernel
theorem dc_N_startAnew_20 : decode cd_N_startAnew 20 = .ok (.iload_n 1, 1) := by decide +kernel
theorem dc_N_startAnew_21 : decode cd_N_startAnew 21 = .ok (.aaload, 1) := by decide +kernel
theorem dc_N_startAnew_22 : decode cd_N_startAnew 22 = .ok (.iconst 1, 1) := by decide +kernel
theorem dc_N_startAnew_23 : decode cd_N_startAnew 23 = .ok (.invokevirtual 45, 3) := by decide +kernel
theorem dc_N_startAnew_26 : decode cd_N_startAnew 26 = .ok (.iinc 1 1, 3) := by decide +kernel
theorem dc_N_startAnew_29 : decode cd_N_startAnew 29 = .ok (.goto (-27), 3) := by decide +kernel
theorem dc_N_startAnew_32 : decode cd_N_startAnew 32 = .ok (.aload_n 0, 1) := by decide +kernel
theorem dc_N_startAnew_33 : decode cd_N_startAnew 33 = .ok (.getfield 18, 3) := by decide +kernel
theorem dc_N_startAnew_36 : decode cd_N_startAnew 36 = .ok (.invokevirtual 49, 3) := by decide +kernel
theorem dc_N_startAnew_39 : decode cd_N_startAnew 39 = .ok (.aload_n 0, 1) := by decide +kernel
theorem dc_N_startAnew_40 : decode cd_N_startAnew 40 = .ok (.iconst 0, 1) := by decide +kernel
theorem dc_N_startAnew_41 : decode cd_N_startAnew 41 = .ok (.putfield 52, 3) := by decide +kernel
theorem dc_N_startAnew_44 : decode cd_N_startAnew 44 = .ok (.aload_n 0, 1) := by decide +kernel
theorem dc_N_startAnew_45 : decode cd_N_startAnew 45 = .ok (.getfield 9, 3) := by decide +kernel
theorem dc_N_startAnew_48 : decode cd_N_startAnew 48 = .ok (.bipush 6, 2) := by decide +kernel
theorem dc_N_startAnew_50 : decode cd_N_startAnew 50 = .ok (.bipush 100, 2) := by decide +kernel
theorem dc_N_startAnew_52 : decode cd_N_startAnew 52 = .ok (.iastore, 1) := by decide +kernel
theorem dc_N_startAnew_53 : decode cd_N_startAnew 53 = .ok (.aload_n 0, 1) := by decide +kernel
theorem dc_N_startAnew_54 : decode cd_N_startAnew 54 = .ok (.getfield 9, 3) := by decide +kernel
theorem dc_N_startAnew_57 : decode cd_N_startAnew 57 = .ok (.bipush 7, 2) := by decide +kernel
theorem dc_N_startAnew_59 : decode cd_N_startAnew 59 = .ok (.iconst (-1), 1) := by decide +kernel
theorem dc_N_startAnew_60 : decode cd_N_startAnew 60 = .ok (.iastore, 1) := by decide +kernel
theorem dc_N_startAnew_61 : decode cd_N_startAnew 61 = .ok (.aload_n 0, 1) := by decide +kernel
theorem dc_N_startAnew_62 : decode cd_N_startAnew 62 = .ok (.iconst (-1), 1) := by decide +kernel
theorem dc_N_startAnew_63 : decode cd_N_startAnew 63 = .ok (.putfield 32, 3) := by decide +kernel
theorem dc_N_startAnew_66 : decode cd_N_startAnew 66 = .ok (.aload_n 0, 1) := by decide +kernel
theorem dc_N_startAnew_67 : decode cd_N_startAnew 67 = .ok (.iconst (-1), 1) := by decide +kernel
theorem dc_N_startAnew_68 : decode cd_N_startAnew 68 = .ok (.putfield 36, 3) := by decide +kernel
theorem dc_N_startAnew_71 : decode cd_N_startAnew 71 = .ok (.aload_n 0, 1) := by decide +kernel
theorem dc_N_startAnew_72 : decode cd_N_startAnew 72 = .ok (.iconst 0, 1) := by decide +kernel
theorem dc_N_startAnew_73 : decode cd_N_startAnew 73 = .ok (.putfield 28, 3) := by decide +kernel
theorem dc_N_startAnew_76 : decode cd_N_startAnew 76 = .ok (.return_, 1) := by decide +kernel
theorem dc_N_learn_0 : decode cd_N_learn 0 = .ok (.aload_n 0, 1) := by decide +kernel
theorem dc_N_learn_1 : decode cd_N_learn 1 = .ok (.iload_n 1, 1) := by decide +kernel
theorem dc_N_learn_2 : decode cd_N_learn 2 = .ok (.putfield 55, 3) := by decide +kernel
theorem dc_N_learn_5 : decode cd_N_learn 5 = .ok (.aload_n 0, 1) := by decide +kernel
theorem dc_N_learn_6 : decode cd_N_learn 6 = .ok (.iload_n 2, 1) := by decide +kernel
theorem dc_N_learn_7 : decode cd_N_learn 7 = .ok (.putfield 39, 3) := by decide +kernel
theorem dc_N_learn_10 : decode cd_N_learn 10 = .ok (.aload_n 0, 1) := by decide +kernel
theorem dc_N_learn_11 : decode cd_N_learn 11 = .ok (.iload_n 3, 1) := by decide +kernel
theorem dc_N_learn_12 : decode cd_N_learn 12 = .ok (.putfield 42, 3) := by decide +kernel
theorem dc_N_learn_15 : decode cd_N_learn 15 = .ok (.iload_n 1, 1) := by decide +kernel
theorem dc_N_learn_16 : decode cd_N_learn 16 = .ok (.ifCond .eq 8, 3) := by decide +kernel
theorem dc_N_learn_19 : decode cd_N_learn 19 = .ok (.aload_n 0, 1) := by decide +kernel
theorem dc_N_learn_20 : decode cd_N_learn 20 = .ok (.iconst (-1), 1) := by decide +kernel
theorem dc_N_learn_21 : decode cd_N_learn 21 = .ok (.putfield 36, 3) := by decide +kernel
theorem dc_N_learn_24 : decode cd_N_learn 24 = .ok (.return_, 1) := by decide +kernel
theorem dc_N_takeBit_0 : decode cd_N_takeBit 0 = .ok (.aload_n 0, 1) := by decide +kernel
theorem dc_N_takeBit_1 : decode cd_N_takeBit 1 = .ok (.getfield 58, 3) := by decide +kernel
theorem dc_N_takeBit_4 : decode cd_N_takeBit 4 = .ok (.aload_n 0, 1) := by decide +kernel
theorem dc_N_takeBit_5 : decode cd_N_takeBit 5 = .ok (.getfield 61, 3) := by decide +kernel
theorem dc_N_takeBit_8 : decode cd_N_takeBit 8 = .ok (.ishr, 1) := by decide +kernel
theorem dc_N_takeBit_9 : decode cd_N_takeBit 9 = .ok (.iconst 1, 1) := by decide +kernel
theorem dc_N_takeBit_10 : decode cd_N_takeBit 10 = .ok (.iand, 1) := by decide +kernel
theorem dc_N_takeBit_11 : decode cd_N_takeBit 11 = .ok (.istore_n 1, 1) := by decide +kernel
theorem dc_N_takeBit_12 : decode cd_N_takeBit 12 = .ok (.aload_n 0, 1) := by decide +kernel
theorem dc_N_takeBit_13 : decode cd_N_takeBit 13 = .ok (.aload_n 0, 1) := by decide +kernel
theorem dc_N_takeBit_14 : decode cd_N_takeBit 14 = .ok (.getfield 61, 3) := by decide +kernel
theorem dc_N_takeBit_17 : decode cd_N_takeBit 17 = .ok (.iconst 1, 1) := by decide +kernel
theorem dc_N_takeBit_18 : decode cd_N_takeBit 18 = .ok (.iadd, 1) := by decide +kernel
theorem dc_N_takeBit_19 : decode cd_N_takeBit 19 = .ok (.bipush 16, 2) := by decide +kernel
theorem dc_N_takeBit_21 : decode cd_N_takeBit 21 = .ok (.irem, 1) := by decide +kernel
theorem dc_N_takeBit_22 : decode cd_N_takeBit 22 = .ok (.putfield 61, 3) := by decide +kernel
theorem dc_N_takeBit_25 : decode cd_N_takeBit 25 = .ok (.iload_n 1, 1) := by decide +kernel
theorem dc_N_takeBit_26 : decode cd_N_takeBit 26 = .ok (.ireturn, 1) := by decide +kernel
theorem dc_N_leastLabelThatDoesNotWait_0 : decode cd_N_leastLabelThatDoesNotWait 0 = .ok (.iconst 0, 1) := by decide +kernel
theorem dc_N_leastLabelThatDoesNotWait_1 : decode cd_N_leastLabelThatDoesNotWait 1 = .ok (.istore_n 1, 1) := by decide +kernel
theorem dc_N_leastLabelThatDoesNotWait_2 : decode cd_N_leastLabelThatDoesNotWait 2 = .ok (.iload_n 1, 1) := by decide +kernel
theorem dc_N_leastLabelThatDoesNotWait_3 : decode cd_N_leastLabelThatDoesNotWait 3 = .ok (.iconst 4, 1) := by decide +kernel
theorem dc_N_leastLabelThatDoesNotWait_4 : decode cd_N_leastLabelThatDoesNotWait 4 = .ok (.if_icmp .ge 19, 3) := by decide +kernel
theorem dc_N_leastLabelThatDoesNotWait_7 : decode cd_N_leastLabelThatDoesNotWait 7 = .ok (.aload_n 0, 1) := by decide +kernel
theorem dc_N_leastLabelThatDoesNotWait_8 : decode cd_N_leastLabelThatDoesNotWait 8 = .ok (.iload_n 1, 1) := by decide +kernel
theorem dc_N_leastLabelThatDoesNotWait_9 : decode cd_N_leastLabelThatDoesNotWait 9 = .ok (.invokevirtual 64, 3) := by decide +kernel
theorem dc_N_leastLabelThatDoesNotWait_12 : decode cd_N_leastLabelThatDoesNotWait 12 = .ok (.ifCond .ne 5, 3) := by decide +kernel
theorem dc_N_leastLabelThatDoesNotWait_15 : decode cd_N_leastLabelThatDoesNotWait 15 = .ok (.iload_n 1, 1) := by decide +kernel
theorem dc_N_leastLabelThatDoesNotWait_16 : decode cd_N_leastLabelThatDoesNotWait 16 = .ok (.ireturn, 1) := by decide +kernel
theorem dc_N_leastLabelThatDoesNotWait_17 : decode cd_N_leastLabelThatDoesNotWait 17 = .ok (.iinc 1 1, 3) := by decide +kernel
theorem dc_N_leastLabelThatDoesNotWait_20 : decode cd_N_leastLabelThatDoesNotWait 20 = .ok (.goto (-18), 3) := by decide +kernel
theorem dc_N_leastLabelThatDoesNotWait_23 : decode cd_N_leastLabelThatDoesNotWait 23 = .ok (.iconst (-1), 1) := by decide +kernel
theorem dc_N_leastLabelThatDoesNotWait_24 : decode cd_N_leastLabelThatDoesNotWait 24 = .ok (.ireturn, 1) := by decide +kernel
theorem dc_N_waitingRequests_0 : decode cd_N_waitingRequests 0 = .ok (.iconst 0, 1) := by decide +kernel
theorem dc_N_waitingRequests_1 : decode cd_N_waitingRequests 1 = .ok (.istore_n 1, 1) := by decide +kernel
theorem dc_N_waitingRequests_2 : decode cd_N_waitingRequests 2 = .ok (.iconst 0, 1) := by decide +kernel
theorem dc_N_waitingRequests_3 : decode cd_N_waitingRequests 3 = .ok (.istore_n 2, 1) := by decide +kernel
theorem dc_N_waitingRequests_4 : decode cd_N_waitingRequests 4 = .ok (.iload_n 2, 1) := by decide +kernel
theorem dc_N_waitingRequests_5 : decode cd_N_waitingRequests 5 = .ok (.iconst 4, 1) := by decide +kernel
theorem dc_N_waitingRequests_6 : decode cd_N_waitingRequests 6 = .ok (.if_icmp .ge 20, 3) := by decide +kernel
theorem dc_N_waitingRequests_9 : decode cd_N_waitingRequests 9 = .ok (.aload_n 0, 1) := by decide +kernel
theorem dc_N_waitingRequests_10 : decode cd_N_waitingRequests 10 = .ok (.iload_n 2, 1) := by decide +kernel
theorem dc_N_waitingRequests_11 : decode cd_N_waitingRequests 11 = .ok (.invokevirtual 64, 3) := by decide +kernel
theorem dc_N_waitingRequests_14 : decode cd_N_waitingRequests 14 = .ok (.ifCond .eq 6, 3) := by decide +kernel
theorem dc_N_waitingRequests_17 : decode cd_N_waitingRequests 17 = .ok (.iinc 1 1, 3) := by decide +kernel
theorem dc_N_waitingRequests_20 : decode cd_N_waitingRequests 20 = .ok (.iinc 2 1, 3) := by decide +kernel
theorem dc_N_waitingRequests_23 : decode cd_N_waitingRequests 23 = .ok (.goto (-19), 3) := by decide +kernel
theorem dc_N_waitingRequests_26 : decode cd_N_waitingRequests 26 = .ok (.iload_n 1, 1) := by decide +kernel
theorem dc_N_waitingRequests_27 : decode cd_N_waitingRequests 27 = .ok (.ireturn, 1) := by decide +kernel
theorem dc_N_endLateRequests_0 : decode cd_N_endLateRequests 0 = .ok (.iconst 0, 1) := by decide +kernel
theorem dc_N_endLateRequests_1 : decode cd_N_endLateRequests 1 = .ok (.istore_n 2, 1) := by decide +kernel
theorem dc_N_endLateRequests_2 : decode cd_N_endLateRequests 2 = .ok (.iload_n 2, 1) := by decide +kernel
theorem dc_N_endLateRequests_3 : decode cd_N_endLateRequests 3 = .ok (.iconst 4, 1) := by decide +kernel
theorem dc_N_endLateRequests_4 : decode cd_N_endLateRequests 4 = .ok (.if_icmp .ge 56, 3) := by decide +kernel
theorem dc_N_endLateRequests_7 : decode cd_N_endLateRequests 7 = .ok (.aload_n 0, 1) := by decide +kernel
theorem dc_N_endLateRequests_8 : decode cd_N_endLateRequests 8 = .ok (.getfield 24, 3) := by decide +kernel
theorem dc_N_endLateRequests_11 : decode cd_N_endLateRequests 11 = .ok (.iload_n 2, 1) := by decide +kernel
theorem dc_N_endLateRequests_12 : decode cd_N_endLateRequests 12 = .ok (.aaload, 1) := by decide +kernel
theorem dc_N_endLateRequests_13 : decode cd_N_endLateRequests 13 = .ok (.astore_n 3, 1) := by decide +kernel
theorem dc_N_endLateRequests_14 : decode cd_N_endLateRequests 14 = .ok (.aload_n 3, 1) := by decide +kernel
theorem dc_N_endLateRequests_15 : decode cd_N_endLateRequests 15 = .ok (.ifnull 39, 3) := by decide +kernel
theorem dc_N_endLateRequests_18 : decode cd_N_endLateRequests 18 = .ok (.aload_n 3, 1) := by decide +kernel
theorem dc_N_endLateRequests_19 : decode cd_N_endLateRequests 19 = .ok (.getfield 68, 3) := by decide +kernel
theorem dc_N_endLateRequests_22 : decode cd_N_endLateRequests 22 = .ok (.iconst (-1), 1) := by decide +kernel
theorem dc_N_endLateRequests_23 : decode cd_N_endLateRequests 23 = .ok (.if_icmp .ne 31, 3) := by decide +kernel
theorem dc_N_endLateRequests_26 : decode cd_N_endLateRequests 26 = .ok (.aload_n 3, 1) := by decide +kernel
theorem dc_N_endLateRequests_27 : decode cd_N_endLateRequests 27 = .ok (.getfield 71, 3) := by decide +kernel
theorem dc_N_endLateRequests_30 : decode cd_N_endLateRequests 30 = .ok (.iload_n 1, 1) := by decide +kernel
theorem dc_N_endLateRequests_31 : decode cd_N_endLateRequests 31 = .ok (.if_icmp .gt 23, 3) := by decide +kernel
theorem dc_N_endLateRequests_34 : decode cd_N_endLateRequests 34 = .ok (.aload_n 3, 1) := by decide +kernel
theorem dc_N_endLateRequests_35 : decode cd_N_endLateRequests 35 = .ok (.iconst 4, 1) := by decide +kernel
theorem dc_N_endLateRequests_36 : decode cd_N_endLateRequests 36 = .ok (.invokevirtual 45, 3) := by decide +kernel
theorem dc_N_endLateRequests_39 : decode cd_N_endLateRequests 39 = .ok (.aload_n 3, 1) := by decide +kernel
theorem dc_N_endLateRequests_40 : decode cd_N_endLateRequests 40 = .ok (.getfield 74, 3) := by decide +kernel
theorem dc_N_endLateRequests_43 : decode cd_N_endLateRequests 43 = .ok (.ifCond .ne 11, 3) := by decide +kernel
theorem dc_N_endLateRequests_46 : decode cd_N_endLateRequests 46 = .ok (.aload_n 0, 1) := by decide +kernel
theorem dc_N_endLateRequests_47 : decode cd_N_endLateRequests 47 = .ok (.getfield 18, 3) := by decide +kernel
theorem dc_N_endLateRequests_50 : decode cd_N_endLateRequests 50 = .ok (.aload_n 3, 1) := by decide +kernel
theorem dc_N_endLateRequests_51 : decode cd_N_endLateRequests 51 = .ok (.invokevirtual 77, 3) := by decide +kernel
theorem dc_N_endLateRequests_54 : decode cd_N_endLateRequests 54 = .ok (.iinc 2 1, 3) := by decide +kernel
theorem dc_N_endLateRequests_57 : decode cd_N_endLateRequests 57 = .ok (.goto (-55), 3) := by decide +kernel
theorem dc_N_endLateRequests_60 : decode cd_N_endLateRequests 60 = .ok (.return_, 1) := by decide +kernel
theorem dc_N_waits_0 : decode cd_N_waits 0 = .ok (.aload_n 0, 1) := by decide +kernel
theorem dc_N_waits_1 : decode cd_N_waits 1 = .ok (.getfield 24, 3) := by decide +kernel
theorem dc_N_waits_4 : decode cd_N_waits 4 = .ok (.iload_n 1, 1) := by decide +kernel
theorem dc_N_waits_5 : decode cd_N_waits 5 = .ok (.aaload, 1) := by decide +kernel
theorem dc_N_waits_6 : decode cd_N_waits 6 = .ok (.ifnull 20, 3) := by decide +kernel
theorem dc_N_waits_9 : decode cd_N_waits 9 = .ok (.aload_n 0, 1) := by decide +kernel
theorem dc_N_waits_10 : decode cd_N_waits 10 = .ok (.getfield 24, 3) := by decide +kernel
theorem dc_N_waits_13 : decode cd_N_waits 13 = .ok (.iload_n 1, 1) := by decide +kernel
theorem dc_N_waits_14 : decode cd_N_waits 14 = .ok (.aaload, 1) := by decide +kernel
theorem dc_N_waits_15 : decode cd_N_waits 15 = .ok (.getfield 68, 3) := by decide +kernel
theorem dc_N_waits_18 : decode cd_N_waits 18 = .ok (.iconst (-1), 1) := by decide +kernel
theorem dc_N_waits_19 : decode cd_N_waits 19 = .ok (.if_icmp .ne 7, 3) := by decide +kernel
theorem dc_N_waits_22 : decode cd_N_waits 22 = .ok (.iconst 1, 1) := by decide +kernel
theorem dc_N_waits_23 : decode cd_N_waits 23 = .ok (.goto 4, 3) := by decide +kernel
theorem dc_N_waits_26 : decode cd_N_waits 26 = .ok (.iconst 0, 1) := by decide +kernel
theorem dc_N_waits_27 : decode cd_N_waits 27 = .ok (.ireturn, 1) := by decide +kernel
theorem dc_Q_init_0 : decode cd_Q_init 0 = .ok (.aload_n 0, 1) := by decide +kernel
theorem dc_Q_init_1 : decode cd_Q_init 1 = .ok (.invokespecial 3, 3) := by decide +kernel
theorem dc_Q_init_4 : decode cd_Q_init 4 = .ok (.aload_n 0, 1) := by decide +kernel
theorem dc_Q_init_5 : decode cd_Q_init 5 = .ok (.bipush 6, 2) := by decide +kernel
theorem dc_Q_init_7 : decode cd_Q_init 7 = .ok (.anewarray 9, 3) := by decide +kernel
theorem dc_Q_init_10 : decode cd_Q_init 10 = .ok (.putfield 11, 3) := by decide +kernel
theorem dc_Q_init_13 : decode cd_Q_init 13 = .ok (.return_, 1) := by decide +kernel
theorem dc_Q_isEmpty_0 : decode cd_Q_isEmpty 0 = .ok (.aload_n 0, 1) := by decide +kernel
theorem dc_Q_isEmpty_1 : decode cd_Q_isEmpty 1 = .ok (.getfield 17, 3) := by decide +kernel
theorem dc_Q_isEmpty_4 : decode cd_Q_isEmpty 4 = .ok (.ifCond .ne 7, 3) := by decide +kernel
theorem dc_Q_isEmpty_7 : decode cd_Q_isEmpty 7 = .ok (.iconst 1, 1) := by decide +kernel
theorem dc_Q_isEmpty_8 : decode cd_Q_isEmpty 8 = .ok (.goto 4, 3) := by decide +kernel
theorem dc_Q_isEmpty_11 : decode cd_Q_isEmpty 11 = .ok (.iconst 0, 1) := by decide +kernel
theorem dc_Q_isEmpty_12 : decode cd_Q_isEmpty 12 = .ok (.ireturn, 1) := by decide +kernel
theorem dc_Q_isFull_0 : decode cd_Q_isFull 0 = .ok (.aload_n 0, 1) := by decide +kernel
theorem dc_Q_isFull_1 : decode cd_Q_isFull 1 = .ok (.getfield 17, 3) := by decide +kernel
theorem dc_Q_isFull_4 : decode cd_Q_isFull 4 = .ok (.bipush 6, 2) := by decide +kernel
theorem dc_Q_isFull_6 : decode cd_Q_isFull 6 = .ok (.if_icmp .lt 7, 3) := by decide +kernel
theorem dc_Q_isFull_9 : decode cd_Q_isFull 9 = .ok (.iconst 1, 1) := by decide +kernel
theorem dc_Q_isFull_10 : decode cd_Q_isFull 10 = .ok (.goto 4, 3) := by decide +kernel
theorem dc_Q_isFull_13 : decode cd_Q_isFull 13 = .ok (.iconst 0, 1) := by decide +kernel
theorem dc_Q_isFull_14 : decode cd_Q_isFull 14 = .ok (.ireturn, 1) := by decide +kernel
theorem dc_Q_append_0 : decode cd_Q_append 0 = .ok (.aload_n 0, 1) := by decide +kernel
theorem dc_Q_append_1 : decode cd_Q_append 1 = .ok (.invokevirtual 21, 3) := by decide +kernel
theorem dc_Q_append_4 : decode cd_Q_append 4 = .ok (.ifCond .ne 23, 3) := by decide +kernel
theorem dc_Q_append_7 : decode cd_Q_append 7 = .ok (.aload_n 0, 1) := by decide +kernel
theorem dc_Q_append_8 : decode cd_Q_append 8 = .ok (.getfield 11, 3) := by decide +kernel
theorem dc_Q_append_11 : decode cd_Q_append 11 = .ok (.aload_n 0, 1) := by decide +kernel
theorem dc_Q_append_12 : decode cd_Q_append 12 = .ok (.getfield 17, 3) := by decide +kernel
theorem dc_Q_append_15 : decode cd_Q_append 15 = .ok (.aload_n 1, 1) := by decide +kernel
theorem dc_Q_append_16 : decode cd_Q_append 16 = .ok (.aastore, 1) := by decide +kernel
theorem dc_Q_append_17 : decode cd_Q_append 17 = .ok (.aload_n 0, 1) := by decide +kernel
theorem dc_Q_append_18 : decode cd_Q_append 18 = .ok (.dup, 1) := by decide +kernel
theorem dc_Q_append_19 : decode cd_Q_append 19 = .ok (.getfield 17, 3) := by decide +kernel
theorem dc_Q_append_22 : decode cd_Q_append 22 = .ok (.iconst 1, 1) := by decide +kernel
theorem dc_Q_append_23 : decode cd_Q_append 23 = .ok (.iadd, 1) := by decide +kernel
theorem dc_Q_append_24 : decode cd_Q_append 24 = .ok (.putfield 17, 3) := by decide +kernel
theorem dc_Q_append_27 : decode cd_Q_append 27 = .ok (.return_, 1) := by decide +kernel
theorem dc_Q_takeFirst_0 : decode cd_Q_takeFirst 0 = .ok (.aload_n 0, 1) := by decide +kernel
theorem dc_Q_takeFirst_1 : decode cd_Q_takeFirst 1 = .ok (.invokevirtual 25, 3) := by decide +kernel
theorem dc_Q_takeFirst_4 : decode cd_Q_takeFirst 4 = .ok (.ifCond .eq 5, 3) := by decide +kernel
theorem dc_Q_takeFirst_7 : decode cd_Q_takeFirst 7 = .ok (.aconst_null, 1) := by decide +kernel
theorem dc_Q_takeFirst_8 : decode cd_Q_takeFirst 8 = .ok (.areturn, 1) := by decide +kernel
theorem dc_Q_takeFirst_9 : decode cd_Q_takeFirst 9 = .ok (.aload_n 0, 1) := by decide +kernel
theorem dc_Q_takeFirst_10 : decode cd_Q_takeFirst 10 = .ok (.getfield 11, 3) := by decide +kernel
theorem dc_Q_takeFirst_13 : decode cd_Q_takeFirst 13 = .ok (.iconst 0, 1) := by decide +kernel
theorem dc_Q_takeFirst_14 : decode cd_Q_takeFirst 14 = .ok (.aaload, 1) := by decide +kernel
theorem dc_Q_takeFirst_15 : decode cd_Q_takeFirst 15 = .ok (.astore_n 1, 1) := by decide +kernel
theorem dc_Q_takeFirst_16 : decode cd_Q_takeFirst 16 = .ok (.aload_n 0, 1) := by decide +kernel
theorem dc_Q_takeFirst_17 : decode cd_Q_takeFirst 17 = .ok (.iconst 0, 1) := by decide +kernel
theorem dc_Q_takeFirst_18 : decode cd_Q_takeFirst 18 = .ok (.invokevirtual 28, 3) := by decide +kernel
theorem dc_Q_takeFirst_21 : decode cd_Q_takeFirst 21 = .ok (.aload_n 1, 1) := by decide +kernel
theorem dc_Q_takeFirst_22 : decode cd_Q_takeFirst 22 = .ok (.areturn, 1) := by decide +kernel
theorem dc_Q_drop_0 : decode cd_Q_drop 0 = .ok (.iconst 0, 1) := by decide +kernel
theorem dc_Q_drop_1 : decode cd_Q_drop 1 = .ok (.istore_n 2, 1) := by decide +kernel
theorem dc_Q_drop_2 : decode cd_Q_drop 2 = .ok (.iload_n 2, 1) := by decide +kernel
theorem dc_Q_drop_3 : decode cd_Q_drop 3 = .ok (.aload_n 0, 1) := by decide +kernel
theorem dc_Q_drop_4 : decode cd_Q_drop 4 = .ok (.getfield 17, 3) := by decide +kernel
theorem dc_Q_drop_7 : decode cd_Q_drop 7 = .ok (.if_icmp .ge 25, 3) := by decide +kernel
theorem dc_Q_drop_10 : decode cd_Q_drop 10 = .ok (.aload_n 0, 1) := by decide +kernel
theorem dc_Q_drop_11 : decode cd_Q_drop 11 = .ok (.getfield 11, 3) := by decide +kernel
theorem dc_Q_drop_14 : decode cd_Q_drop 14 = .ok (.iload_n 2, 1) := by decide +kernel
theorem dc_Q_drop_15 : decode cd_Q_drop 15 = .ok (.aaload, 1) := by decide +kernel
theorem dc_Q_drop_16 : decode cd_Q_drop 16 = .ok (.aload_n 1, 1) := by decide +kernel
theorem dc_Q_drop_17 : decode cd_Q_drop 17 = .ok (.if_acmp .ne 9, 3) := by decide +kernel
theorem dc_Q_drop_20 : decode cd_Q_drop 20 = .ok (.aload_n 0, 1) := by decide +kernel
theorem dc_Q_drop_21 : decode cd_Q_drop 21 = .ok (.iload_n 2, 1) := by decide +kernel
theorem dc_Q_drop_22 : decode cd_Q_drop 22 = .ok (.invokevirtual 28, 3) := by decide +kernel
theorem dc_Q_drop_25 : decode cd_Q_drop 25 = .ok (.return_, 1) := by decide +kernel
theorem dc_Q_drop_26 : decode cd_Q_drop 26 = .ok (.iinc 2 1, 3) := by decide +kernel
theorem dc_Q_drop_29 : decode cd_Q_drop 29 = .ok (.goto (-27), 3) := by decide +kernel
theorem dc_Q_drop_32 : decode cd_Q_drop 32 = .ok (.return_, 1) := by decide +kernel
theorem dc_Q_empty_0 : decode cd_Q_empty 0 = .ok (.iconst 0, 1) := by decide +kernel
theorem dc_Q_empty_1 : decode cd_Q_empty 1 = .ok (.istore_n 1, 1) := by decide +kernel
theorem dc_Q_empty_2 : decode cd_Q_empty 2 = .ok (.iload_n 1, 1) := by decide +kernel
theorem dc_Q_empty_3 : decode cd_Q_empty 3 = .ok (.bipush 6, 2) := by decide +kernel
theorem dc_Q_empty_5 : decode cd_Q_empty 5 = .ok (.if_icmp .ge 16, 3) := by decide +kernel
theorem dc_Q_empty_8 : decode cd_Q_empty 8 = .ok (.aload_n 0, 1) := by decide +kernel
theorem dc_Q_empty_9 : decode cd_Q_empty 9 = .ok (.getfield 11, 3) := by decide +kernel
theorem dc_Q_empty_12 : decode cd_Q_empty 12 = .ok (.iload_n 1, 1) := by decide +kernel
theorem dc_Q_empty_13 : decode cd_Q_empty 13 = .ok (.aconst_null, 1) := by decide +kernel
theorem dc_Q_empty_14 : decode cd_Q_empty 14 = .ok (.aastore, 1) := by decide +kernel
theorem dc_Q_empty_15 : decode cd_Q_empty 15 = .ok (.iinc 1 1, 3) := by decide +kernel
theorem dc_Q_empty_18 : decode cd_Q_empty 18 = .ok (.goto (-16), 3) := by decide +kernel
theorem dc_Q_empty_21 : decode cd_Q_empty 21 = .ok (.aload_n 0, 1) := by decide +kernel
theorem dc_Q_empty_22 : decode cd_Q_empty 22 = .ok (.iconst 0, 1) := by decide +kernel
theorem dc_Q_empty_23 : decode cd_Q_empty 23 = .ok (.putfield 17, 3) := by decide +kernel
theorem dc_Q_empty_26 : decode cd_Q_empty 26 = .ok (.return_, 1) := by decide +kernel
theorem dc_Q_removeAt_0 : decode cd_Q_removeAt 0 = .ok (.iload_n 1, 1) := by decide +kernel
theorem dc_Q_removeAt_1 : decode cd_Q_removeAt 1 = .ok (.istore_n 2, 1) := by decide +kernel
theorem dc_Q_removeAt_2 : decode cd_Q_removeAt 2 = .ok (.iload_n 2, 1) := by decide +kernel
theorem dc_Q_removeAt_3 : decode cd_Q_removeAt 3 = .ok (.iconst 1, 1) := by decide +kernel
theorem dc_Q_removeAt_4 : decode cd_Q_removeAt 4 = .ok (.iadd, 1) := by decide +kernel
theorem dc_Q_removeAt_5 : decode cd_Q_removeAt 5 = .ok (.aload_n 0, 1) := by decide +kernel
theorem dc_Q_removeAt_6 : decode cd_Q_removeAt 6 = .ok (.getfield 17, 3) := by decide +kernel
theorem dc_Q_removeAt_9 : decode cd_Q_removeAt 9 = .ok (.if_icmp .ge 23, 3) := by decide +kernel
theorem dc_Q_removeAt_12 : decode cd_Q_removeAt 12 = .ok (.aload_n 0, 1) := by decide +kernel
theorem dc_Q_removeAt_13 : decode cd_Q_removeAt 13 = .ok (.getfield 11, 3) := by decide +kernel
theorem dc_Q_removeAt_16 : decode cd_Q_removeAt 16 = .ok (.iload_n 2, 1) := by decide +kernel
theorem dc_Q_removeAt_17 : decode cd_Q_removeAt 17 = .ok (.aload_n 0, 1) := by decide +kernel
theorem dc_Q_removeAt_18 : decode cd_Q_removeAt 18 = .ok (.getfield 11, 3) := by decide +kernel
theorem dc_Q_removeAt_21 : decode cd_Q_removeAt 21 = .ok (.iload_n 2, 1) := by decide +kernel
theorem dc_Q_removeAt_22 : decode cd_Q_removeAt 22 = .ok (.iconst 1, 1) := by decide +kernel
theorem dc_Q_removeAt_23 : decode cd_Q_removeAt 23 = .ok (.iadd, 1) := by decide +kernel
theorem dc_Q_removeAt_24 : decode cd_Q_removeAt 24 = .ok (.aaload, 1) := by decide +kernel
theorem dc_Q_removeAt_25 : decode cd_Q_removeAt 25 = .ok (.aastore, 1) := by decide +kernel
theorem dc_Q_removeAt_26 : decode cd_Q_removeAt 26 = .ok (.iinc 2 1, 3) := by decide +kernel
theorem dc_Q_removeAt_29 : decode cd_Q_removeAt 29 = .ok (.goto (-27), 3) := by decide +kernel
theorem dc_Q_removeAt_32 : decode cd_Q_removeAt 32 = .ok (.aload_n 0, 1) := by decide +kernel
theorem dc_Q_removeAt_33 : decode cd_Q_removeAt 33 = .ok (.dup, 1) := by decide +kernel
theorem dc_Q_removeAt_34 : decode cd_Q_removeAt 34 = .ok (.getfield 17, 3) := by decide +kernel
theorem dc_Q_removeAt_37 : decode cd_Q_removeAt 37 = .ok (.iconst 1, 1) := by decide +kernel
theorem dc_Q_removeAt_38 : decode cd_Q_removeAt 38 = .ok (.isub, 1) := by decide +kernel
theorem dc_Q_removeAt_39 : decode cd_Q_removeAt 39 = .ok (.putfield 17, 3) := by decide +kernel
theorem dc_Q_removeAt_42 : decode cd_Q_removeAt 42 = .ok (.aload_n 0, 1) := by decide +kernel
theorem dc_Q_removeAt_43 : decode cd_Q_removeAt 43 = .ok (.getfield 11, 3) := by decide +kernel
theorem dc_Q_removeAt_46 : decode cd_Q_removeAt 46 = .ok (.aload_n 0, 1) := by decide +kernel
theorem dc_Q_removeAt_47 : decode cd_Q_removeAt 47 = .ok (.getfield 17, 3) := by decide +kernel
theorem dc_Q_removeAt_50 : decode cd_Q_removeAt 50 = .ok (.aconst_null, 1) := by decide +kernel
theorem dc_Q_removeAt_51 : decode cd_Q_removeAt 51 = .ok (.aastore, 1) := by decide +kernel
theorem dc_Q_removeAt_52 : decode cd_Q_removeAt 52 = .ok (.return_, 1) := by decide +kernel
theorem dc_R_init_0 : decode cd_R_init 0 = .ok (.aload_n 0, 1) := by decide +kernel
theorem dc_R_init_1 : decode cd_R_init 1 = .ok (.invokespecial 3, 3) := by decide +kernel
theorem dc_R_init_4 : decode cd_R_init 4 = .ok (.aload_n 0, 1) := by decide +kernel
theorem dc_R_init_5 : decode cd_R_init 5 = .ok (.iconst (-1), 1) := by decide +kernel
theorem dc_R_init_6 : decode cd_R_init 6 = .ok (.putfield 9, 3) := by decide +kernel
theorem dc_R_init_9 : decode cd_R_init 9 = .ok (.aload_n 0, 1) := by decide +kernel
theorem dc_R_init_10 : decode cd_R_init 10 = .ok (.iload_n 1, 1) := by decide +kernel
theorem dc_R_init_11 : decode cd_R_init 11 = .ok (.putfield 15, 3) := by decide +kernel
theorem dc_R_init_14 : decode cd_R_init 14 = .ok (.aload_n 0, 1) := by decide +kernel
theorem dc_R_init_15 : decode cd_R_init 15 = .ok (.iload_n 2, 1) := by decide +kernel
theorem dc_R_init_16 : decode cd_R_init 16 = .ok (.putfield 18, 3) := by decide +kernel
theorem dc_R_init_19 : decode cd_R_init 19 = .ok (.aload_n 0, 1) := by decide +kernel
theorem dc_R_init_20 : decode cd_R_init 20 = .ok (.iload_n 3, 1) := by decide +kernel
theorem dc_R_init_21 : decode cd_R_init 21 = .ok (.putfield 21, 3) := by decide +kernel
theorem dc_R_init_24 : decode cd_R_init 24 = .ok (.aload_n 0, 1) := by decide +kernel
theorem dc_R_init_25 : decode cd_R_init 25 = .ok (.iload 4, 2) := by decide +kernel
theorem dc_R_init_27 : decode cd_R_init 27 = .ok (.putfield 24, 3) := by decide +kernel
theorem dc_R_init_30 : decode cd_R_init 30 = .ok (.aload_n 0, 1) := by decide +kernel
theorem dc_R_init_31 : decode cd_R_init 31 = .ok (.iload 5, 2) := by decide +kernel
theorem dc_R_init_33 : decode cd_R_init 33 = .ok (.putfield 27, 3) := by decide +kernel
theorem dc_R_init_36 : decode cd_R_init 36 = .ok (.aload_n 0, 1) := by decide +kernel
theorem dc_R_init_37 : decode cd_R_init 37 = .ok (.iload 6, 2) := by decide +kernel
theorem dc_R_init_39 : decode cd_R_init 39 = .ok (.putfield 30, 3) := by decide +kernel
theorem dc_R_init_42 : decode cd_R_init 42 = .ok (.return_, 1) := by decide +kernel
theorem dc_R_endIfItWaits_0 : decode cd_R_endIfItWaits 0 = .ok (.aload_n 0, 1) := by decide +kernel
theorem dc_R_endIfItWaits_1 : decode cd_R_endIfItWaits 1 = .ok (.getfield 9, 3) := by decide +kernel
theorem dc_R_endIfItWaits_4 : decode cd_R_endIfItWaits 4 = .ok (.iconst (-1), 1) := by decide +kernel
theorem dc_R_endIfItWaits_5 : decode cd_R_endIfItWaits 5 = .ok (.if_icmp .ne 8, 3) := by decide +kernel
theorem dc_R_endIfItWaits_8 : decode cd_R_endIfItWaits 8 = .ok (.aload_n 0, 1) := by decide +kernel
theorem dc_R_endIfItWaits_9 : decode cd_R_endIfItWaits 9 = .ok (.iload_n 1, 1) := by decide +kernel
theorem dc_R_endIfItWaits_10 : decode cd_R_endIfItWaits 10 = .ok (.putfield 9, 3) := by decide +kernel
theorem dc_R_endIfItWaits_13 : decode cd_R_endIfItWaits 13 = .ok (.return_, 1) := by decide +kernel
theorem dc_R_workOn_0 : decode cd_R_workOn 0 = .ok (.aload_n 1, 1) := by decide +kernel
theorem dc_R_workOn_1 : decode cd_R_workOn 1 = .ok (.aload_n 0, 1) := by decide +kernel
theorem dc_R_workOn_2 : decode cd_R_workOn 2 = .ok (.getfield 21, 3) := by decide +kernel
theorem dc_R_workOn_5 : decode cd_R_workOn 5 = .ok (.iaload, 1) := by decide +kernel
theorem dc_R_workOn_6 : decode cd_R_workOn 6 = .ok (.istore_n 2, 1) := by decide +kernel
theorem dc_R_workOn_7 : decode cd_R_workOn 7 = .ok (.aload_n 0, 1) := by decide +kernel
theorem dc_R_workOn_8 : decode cd_R_workOn 8 = .ok (.aload_n 0, 1) := by decide +kernel
theorem dc_R_workOn_9 : decode cd_R_workOn 9 = .ok (.getfield 18, 3) := by decide +kernel
theorem dc_R_workOn_12 : decode cd_R_workOn 12 = .ok (.iconst 1, 1) := by decide +kernel
theorem dc_R_workOn_13 : decode cd_R_workOn 13 = .ok (.if_icmp .ne 7, 3) := by decide +kernel
theorem dc_R_workOn_16 : decode cd_R_workOn 16 = .ok (.iconst 0, 1) := by decide +kernel
theorem dc_R_workOn_17 : decode cd_R_workOn 17 = .ok (.goto 4, 3) := by decide +kernel
theorem dc_R_workOn_20 : decode cd_R_workOn 20 = .ok (.iload_n 2, 1) := by decide +kernel
theorem dc_R_workOn_21 : decode cd_R_workOn 21 = .ok (.putfield 33, 3) := by decide +kernel
theorem dc_R_workOn_24 : decode cd_R_workOn 24 = .ok (.aload_n 0, 1) := by decide +kernel
theorem dc_R_workOn_25 : decode cd_R_workOn 25 = .ok (.getfield 18, 3) := by decide +kernel
theorem dc_R_workOn_28 : decode cd_R_workOn 28 = .ok (.iconst 1, 1) := by decide +kernel
theorem dc_R_workOn_29 : decode cd_R_workOn 29 = .ok (.if_icmp .eq 19, 3) := by decide +kernel
theorem dc_R_workOn_32 : decode cd_R_workOn 32 = .ok (.aload_n 0, 1) := by decide +kernel
theorem dc_R_workOn_33 : decode cd_R_workOn 33 = .ok (.getfield 18, 3) := by decide +kernel
theorem dc_R_workOn_36 : decode cd_R_workOn 36 = .ok (.iconst 2, 1) := by decide +kernel
theorem dc_R_workOn_37 : decode cd_R_workOn 37 = .ok (.if_icmp .ne 21, 3) := by decide +kernel
theorem dc_R_workOn_40 : decode cd_R_workOn 40 = .ok (.iload_n 2, 1) := by decide +kernel
theorem dc_R_workOn_41 : decode cd_R_workOn 41 = .ok (.aload_n 0, 1) := by decide +kernel
theorem dc_R_workOn_42 : decode cd_R_workOn 42 = .ok (.getfield 24, 3) := by decide +kernel
theorem dc_R_workOn_45 : decode cd_R_workOn 45 = .ok (.if_icmp .ne 13, 3) := by decide +kernel
theorem dc_R_workOn_48 : decode cd_R_workOn 48 = .ok (.aload_n 1, 1) := by decide +kernel
theorem dc_R_workOn_49 : decode cd_R_workOn 49 = .ok (.aload_n 0, 1) := by decide +kernel
theorem dc_R_workOn_50 : decode cd_R_workOn 50 = .ok (.getfield 21, 3) := by decide +kernel
theorem dc_R_workOn_53 : decode cd_R_workOn 53 = .ok (.aload_n 0, 1) := by decide +kernel
theorem dc_R_workOn_54 : decode cd_R_workOn 54 = .ok (.getfield 27, 3) := by decide +kernel
theorem dc_R_workOn_57 : decode cd_R_workOn 57 = .ok (.iastore, 1) := by decide +kernel
theorem dc_R_workOn_58 : decode cd_R_workOn 58 = .ok (.aload_n 0, 1) := by decide +kernel
theorem dc_R_workOn_59 : decode cd_R_workOn 59 = .ok (.iconst 1, 1) := by decide +kernel
theorem dc_R_workOn_60 : decode cd_R_workOn 60 = .ok (.putfield 36, 3) := by decide +kernel
theorem dc_R_workOn_63 : decode cd_R_workOn 63 = .ok (.return_, 1) := by decide +kernel
end
section
theorem zz_1 : True := trivial
end
