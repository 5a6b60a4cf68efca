section
-- ===== PART A: goes FIRST, ahead of the names: the tables' words, and 'selects' of the private methods out of them =====
/-- a private method of a class that the tables say can be made, by its rows of tables_1 -/
def lw_okq (q : MethodName × Nat) : Prop := (q.1.cls ≠ "java/lang/invoke/MethodHandle" ∧ q.1.cls ≠ "java/lang/invoke/VarHandle") ∧ Cond.instantiable q.1.cls q.2 ∈ tables_1 ∧ Cond.privateMethod q.1 ∈ tables_1 ∧ Cond.instanceMethod q.1 ∈ tables_1
theorem lw_p0 : lw_okq (⟨"SerialBus$Wiring", "findBuses", "()V"⟩, 3) := ⟨⟨by decide +kernel, by decide +kernel⟩, List.mem_of_getElem? (i := 26) (by decide +kernel), List.mem_of_getElem? (i := 35) (by decide +kernel), List.mem_of_getElem? (i := 36) (by decide +kernel)⟩
theorem lw_p1 : lw_okq (⟨"SerialBus", "loopedBuses", "()I"⟩, 9) := ⟨⟨by decide +kernel, by decide +kernel⟩, List.mem_of_getElem? (i := 18) (by decide +kernel), List.mem_of_getElem? (i := 201) (by decide +kernel), List.mem_of_getElem? (i := 202) (by decide +kernel)⟩
theorem lw_p2 : lw_okq (⟨"SerialBus", "isDirty", "(I)Z"⟩, 9) := ⟨⟨by decide +kernel, by decide +kernel⟩, List.mem_of_getElem? (i := 18) (by decide +kernel), List.mem_of_getElem? (i := 206) (by decide +kernel), List.mem_of_getElem? (i := 207) (by decide +kernel)⟩
theorem lw_p3 : lw_okq (⟨"java/lang/Throwable", "fillInStackTrace", "(I)Ljava/lang/Throwable;"⟩, 6) := ⟨⟨by decide +kernel, by decide +kernel⟩, List.mem_of_getElem? (i := 266) (by decide +kernel), List.mem_of_getElem? (i := 264) (by decide +kernel), List.mem_of_getElem? (i := 265) (by decide +kernel)⟩
theorem lw_p4 : lw_okq (⟨"SerialBus$Node", "waits", "(I)Z"⟩, 17) := ⟨⟨by decide +kernel, by decide +kernel⟩, List.mem_of_getElem? (i := 70) (by decide +kernel), List.mem_of_getElem? (i := 377) (by decide +kernel), List.mem_of_getElem? (i := 378) (by decide +kernel)⟩
theorem lw_p5 : lw_okq (⟨"SerialBus", "runBus", "(I)V"⟩, 9) := ⟨⟨by decide +kernel, by decide +kernel⟩, List.mem_of_getElem? (i := 18) (by decide +kernel), List.mem_of_getElem? (i := 476) (by decide +kernel), List.mem_of_getElem? (i := 477) (by decide +kernel)⟩
theorem lw_p6 : lw_okq (⟨"SerialBus", "resetBus", "(I)V"⟩, 9) := ⟨⟨by decide +kernel, by decide +kernel⟩, List.mem_of_getElem? (i := 18) (by decide +kernel), List.mem_of_getElem? (i := 480) (by decide +kernel), List.mem_of_getElem? (i := 481) (by decide +kernel)⟩
theorem lw_p7 : lw_okq (⟨"SerialBus$Tree", "openCables", "(LSerialBus$Wiring;I)V"⟩, 2) := ⟨⟨by decide +kernel, by decide +kernel⟩, List.mem_of_getElem? (i := 55) (by decide +kernel), List.mem_of_getElem? (i := 500) (by decide +kernel), List.mem_of_getElem? (i := 501) (by decide +kernel)⟩
theorem lw_p8 : lw_okq (⟨"SerialBus$Tree", "someCableIsOpen", "()Z"⟩, 2) := ⟨⟨by decide +kernel, by decide +kernel⟩, List.mem_of_getElem? (i := 55) (by decide +kernel), List.mem_of_getElem? (i := 505) (by decide +kernel), List.mem_of_getElem? (i := 506) (by decide +kernel)⟩
theorem lw_p9 : lw_okq (⟨"SerialBus$Tree", "chooseAskers", "([LSerialBus$Node;I)V"⟩, 2) := ⟨⟨by decide +kernel, by decide +kernel⟩, List.mem_of_getElem? (i := 55) (by decide +kernel), List.mem_of_getElem? (i := 509) (by decide +kernel), List.mem_of_getElem? (i := 510) (by decide +kernel)⟩
theorem lw_p10 : lw_okq (⟨"SerialBus$Tree", "onlyOpenSocket", "(I)I"⟩, 2) := ⟨⟨by decide +kernel, by decide +kernel⟩, List.mem_of_getElem? (i := 55) (by decide +kernel), List.mem_of_getElem? (i := 513) (by decide +kernel), List.mem_of_getElem? (i := 514) (by decide +kernel)⟩
theorem lw_p11 : lw_okq (⟨"SerialBus$Tree", "closeAskedCables", "(LSerialBus$Wiring;[LSerialBus$Node;)V"⟩, 2) := ⟨⟨by decide +kernel, by decide +kernel⟩, List.mem_of_getElem? (i := 55) (by decide +kernel), List.mem_of_getElem? (i := 517) (by decide +kernel), List.mem_of_getElem? (i := 518) (by decide +kernel)⟩
theorem lw_p12 : lw_okq (⟨"SerialBus$Tree", "close", "(LSerialBus$Node;III)V"⟩, 2) := ⟨⟨by decide +kernel, by decide +kernel⟩, List.mem_of_getElem? (i := 55) (by decide +kernel), List.mem_of_getElem? (i := 521) (by decide +kernel), List.mem_of_getElem? (i := 522) (by decide +kernel)⟩
theorem lw_p13 : lw_okq (⟨"SerialBus$Tree", "contend", "([LSerialBus$Node;II)V"⟩, 2) := ⟨⟨by decide +kernel, by decide +kernel⟩, List.mem_of_getElem? (i := 55) (by decide +kernel), List.mem_of_getElem? (i := 525) (by decide +kernel), List.mem_of_getElem? (i := 526) (by decide +kernel)⟩
theorem lw_p14 : lw_okq (⟨"SerialBus$Tree", "findRoot", "(LSerialBus$Wiring;[LSerialBus$Node;I)I"⟩, 2) := ⟨⟨by decide +kernel, by decide +kernel⟩, List.mem_of_getElem? (i := 55) (by decide +kernel), List.mem_of_getElem? (i := 537) (by decide +kernel), List.mem_of_getElem? (i := 538) (by decide +kernel)⟩
theorem lw_p15 : lw_okq (⟨"SerialBus$Tree", "giveNumbers", "(LSerialBus$Wiring;[LSerialBus$Node;III)I"⟩, 2) := ⟨⟨by decide +kernel, by decide +kernel⟩, List.mem_of_getElem? (i := 55) (by decide +kernel), List.mem_of_getElem? (i := 541) (by decide +kernel), List.mem_of_getElem? (i := 542) (by decide +kernel)⟩
def lw_privs_1 : List (MethodName × Nat) := [(⟨"SerialBus$Wiring", "findBuses", "()V"⟩, 3), (⟨"SerialBus", "loopedBuses", "()I"⟩, 9), (⟨"SerialBus", "isDirty", "(I)Z"⟩, 9), (⟨"java/lang/Throwable", "fillInStackTrace", "(I)Ljava/lang/Throwable;"⟩, 6), (⟨"SerialBus$Node", "waits", "(I)Z"⟩, 17), (⟨"SerialBus", "runBus", "(I)V"⟩, 9), (⟨"SerialBus", "resetBus", "(I)V"⟩, 9), (⟨"SerialBus$Tree", "openCables", "(LSerialBus$Wiring;I)V"⟩, 2), (⟨"SerialBus$Tree", "someCableIsOpen", "()Z"⟩, 2), (⟨"SerialBus$Tree", "chooseAskers", "([LSerialBus$Node;I)V"⟩, 2), (⟨"SerialBus$Tree", "onlyOpenSocket", "(I)I"⟩, 2), (⟨"SerialBus$Tree", "closeAskedCables", "(LSerialBus$Wiring;[LSerialBus$Node;)V"⟩, 2), (⟨"SerialBus$Tree", "close", "(LSerialBus$Node;III)V"⟩, 2), (⟨"SerialBus$Tree", "contend", "([LSerialBus$Node;II)V"⟩, 2), (⟨"SerialBus$Tree", "findRoot", "(LSerialBus$Wiring;[LSerialBus$Node;I)I"⟩, 2), (⟨"SerialBus$Tree", "giveNumbers", "(LSerialBus$Wiring;[LSerialBus$Node;III)I"⟩, 2)]
theorem lw_r1 : ∀ q ∈ lw_privs_1, lw_okq q := List.forall_mem_cons.mpr ⟨lw_p0, List.forall_mem_cons.mpr ⟨lw_p1, List.forall_mem_cons.mpr ⟨lw_p2, List.forall_mem_cons.mpr ⟨lw_p3, List.forall_mem_cons.mpr ⟨lw_p4, List.forall_mem_cons.mpr ⟨lw_p5, List.forall_mem_cons.mpr ⟨lw_p6, List.forall_mem_cons.mpr ⟨lw_p7, List.forall_mem_cons.mpr ⟨lw_p8, List.forall_mem_cons.mpr ⟨lw_p9, List.forall_mem_cons.mpr ⟨lw_p10, List.forall_mem_cons.mpr ⟨lw_p11, List.forall_mem_cons.mpr ⟨lw_p12, List.forall_mem_cons.mpr ⟨lw_p13, List.forall_mem_cons.mpr ⟨lw_p14, List.forall_mem_cons.mpr ⟨lw_p15, fun _ h => absurd h List.not_mem_nil⟩⟩⟩⟩⟩⟩⟩⟩⟩⟩⟩⟩⟩⟩⟩⟩
theorem lw_p16 : lw_okq (⟨"SerialBus$Tree", "findManager", "(LSerialBus$Wiring;[LSerialBus$Node;I)I"⟩, 2) := ⟨⟨by decide +kernel, by decide +kernel⟩, List.mem_of_getElem? (i := 55) (by decide +kernel), List.mem_of_getElem? (i := 546) (by decide +kernel), List.mem_of_getElem? (i := 547) (by decide +kernel)⟩
theorem lw_p17 : lw_okq (⟨"SerialBus", "runCycle", "(ILSerialBus$Node;)V"⟩, 9) := ⟨⟨by decide +kernel, by decide +kernel⟩, List.mem_of_getElem? (i := 18) (by decide +kernel), List.mem_of_getElem? (i := 554) (by decide +kernel), List.mem_of_getElem? (i := 555) (by decide +kernel)⟩
theorem lw_p18 : lw_okq (⟨"SerialBus", "nodeWithNumber", "(II)I"⟩, 9) := ⟨⟨by decide +kernel, by decide +kernel⟩, List.mem_of_getElem? (i := 18) (by decide +kernel), List.mem_of_getElem? (i := 559) (by decide +kernel), List.mem_of_getElem? (i := 560) (by decide +kernel)⟩
theorem lw_p19 : lw_okq (⟨"SerialBus", "letOthersHear", "(II)V"⟩, 9) := ⟨⟨by decide +kernel, by decide +kernel⟩, List.mem_of_getElem? (i := 18) (by decide +kernel), List.mem_of_getElem? (i := 563) (by decide +kernel), List.mem_of_getElem? (i := 564) (by decide +kernel)⟩
theorem lw_p20 : lw_okq (⟨"SerialBus", "runSlot", "(I)V"⟩, 9) := ⟨⟨by decide +kernel, by decide +kernel⟩, List.mem_of_getElem? (i := 18) (by decide +kernel), List.mem_of_getElem? (i := 567) (by decide +kernel), List.mem_of_getElem? (i := 568) (by decide +kernel)⟩
theorem lw_p21 : lw_okq (⟨"SerialBus", "sendFirstPacket", "(LSerialBus$Node;I)V"⟩, 9) := ⟨⟨by decide +kernel, by decide +kernel⟩, List.mem_of_getElem? (i := 18) (by decide +kernel), List.mem_of_getElem? (i := 575) (by decide +kernel), List.mem_of_getElem? (i := 576) (by decide +kernel)⟩
theorem lw_p22 : lw_okq (⟨"SerialBus$Queue", "removeAt", "(I)V"⟩, 2) := ⟨⟨by decide +kernel, by decide +kernel⟩, List.mem_of_getElem? (i := 76) (by decide +kernel), List.mem_of_getElem? (i := 584) (by decide +kernel), List.mem_of_getElem? (i := 585) (by decide +kernel)⟩
theorem lw_p23 : lw_okq (⟨"SerialBus", "sendRequest", "(LSerialBus$Request;LSerialBus$Node;I)V"⟩, 9) := ⟨⟨by decide +kernel, by decide +kernel⟩, List.mem_of_getElem? (i := 18) (by decide +kernel), List.mem_of_getElem? (i := 589) (by decide +kernel), List.mem_of_getElem? (i := 590) (by decide +kernel)⟩
theorem lw_p24 : lw_okq (⟨"SerialBus", "takeUsedFromAll", "(I)V"⟩, 9) := ⟨⟨by decide +kernel, by decide +kernel⟩, List.mem_of_getElem? (i := 18) (by decide +kernel), List.mem_of_getElem? (i := 597) (by decide +kernel), List.mem_of_getElem? (i := 598) (by decide +kernel)⟩
theorem lw_p25 : lw_okq (⟨"SerialBus", "endLateRequests", "()V"⟩, 9) := ⟨⟨by decide +kernel, by decide +kernel⟩, List.mem_of_getElem? (i := 18) (by decide +kernel), List.mem_of_getElem? (i := 601) (by decide +kernel), List.mem_of_getElem? (i := 602) (by decide +kernel)⟩
theorem lw_p26 : lw_okq (⟨"SerialBusModel", "fail", "(I)I"⟩, 42) := ⟨⟨by decide +kernel, by decide +kernel⟩, List.mem_of_getElem? (i := 653) (by decide +kernel), List.mem_of_getElem? (i := 797) (by decide +kernel), List.mem_of_getElem? (i := 798) (by decide +kernel)⟩
theorem lw_p27 : lw_okq (⟨"SerialBusModel", "cables", "()I"⟩, 42) := ⟨⟨by decide +kernel, by decide +kernel⟩, List.mem_of_getElem? (i := 653) (by decide +kernel), List.mem_of_getElem? (i := 801) (by decide +kernel), List.mem_of_getElem? (i := 802) (by decide +kernel)⟩
theorem lw_p28 : lw_okq (⟨"SerialBusModel", "put", "(IIIIZI)V"⟩, 42) := ⟨⟨by decide +kernel, by decide +kernel⟩, List.mem_of_getElem? (i := 653) (by decide +kernel), List.mem_of_getElem? (i := 818) (by decide +kernel), List.mem_of_getElem? (i := 819) (by decide +kernel)⟩
theorem lw_p29 : lw_okq (⟨"SerialBusModel", "findBuses", "()V"⟩, 42) := ⟨⟨by decide +kernel, by decide +kernel⟩, List.mem_of_getElem? (i := 653) (by decide +kernel), List.mem_of_getElem? (i := 826) (by decide +kernel), List.mem_of_getElem? (i := 827) (by decide +kernel)⟩
theorem lw_p30 : lw_okq (⟨"SerialBusModel", "tickBus", "(I)V"⟩, 42) := ⟨⟨by decide +kernel, by decide +kernel⟩, List.mem_of_getElem? (i := 653) (by decide +kernel), List.mem_of_getElem? (i := 830) (by decide +kernel), List.mem_of_getElem? (i := 831) (by decide +kernel)⟩
theorem lw_p31 : lw_okq (⟨"SerialBusModel", "busDirty", "(I)Z"⟩, 42) := ⟨⟨by decide +kernel, by decide +kernel⟩, List.mem_of_getElem? (i := 653) (by decide +kernel), List.mem_of_getElem? (i := 834) (by decide +kernel), List.mem_of_getElem? (i := 835) (by decide +kernel)⟩
def lw_privs_2 : List (MethodName × Nat) := [(⟨"SerialBus$Tree", "findManager", "(LSerialBus$Wiring;[LSerialBus$Node;I)I"⟩, 2), (⟨"SerialBus", "runCycle", "(ILSerialBus$Node;)V"⟩, 9), (⟨"SerialBus", "nodeWithNumber", "(II)I"⟩, 9), (⟨"SerialBus", "letOthersHear", "(II)V"⟩, 9), (⟨"SerialBus", "runSlot", "(I)V"⟩, 9), (⟨"SerialBus", "sendFirstPacket", "(LSerialBus$Node;I)V"⟩, 9), (⟨"SerialBus$Queue", "removeAt", "(I)V"⟩, 2), (⟨"SerialBus", "sendRequest", "(LSerialBus$Request;LSerialBus$Node;I)V"⟩, 9), (⟨"SerialBus", "takeUsedFromAll", "(I)V"⟩, 9), (⟨"SerialBus", "endLateRequests", "()V"⟩, 9), (⟨"SerialBusModel", "fail", "(I)I"⟩, 42), (⟨"SerialBusModel", "cables", "()I"⟩, 42), (⟨"SerialBusModel", "put", "(IIIIZI)V"⟩, 42), (⟨"SerialBusModel", "findBuses", "()V"⟩, 42), (⟨"SerialBusModel", "tickBus", "(I)V"⟩, 42), (⟨"SerialBusModel", "busDirty", "(I)Z"⟩, 42)]
theorem lw_r2 : ∀ q ∈ lw_privs_2, lw_okq q := List.forall_mem_cons.mpr ⟨lw_p16, List.forall_mem_cons.mpr ⟨lw_p17, List.forall_mem_cons.mpr ⟨lw_p18, List.forall_mem_cons.mpr ⟨lw_p19, List.forall_mem_cons.mpr ⟨lw_p20, List.forall_mem_cons.mpr ⟨lw_p21, List.forall_mem_cons.mpr ⟨lw_p22, List.forall_mem_cons.mpr ⟨lw_p23, List.forall_mem_cons.mpr ⟨lw_p24, List.forall_mem_cons.mpr ⟨lw_p25, List.forall_mem_cons.mpr ⟨lw_p26, List.forall_mem_cons.mpr ⟨lw_p27, List.forall_mem_cons.mpr ⟨lw_p28, List.forall_mem_cons.mpr ⟨lw_p29, List.forall_mem_cons.mpr ⟨lw_p30, List.forall_mem_cons.mpr ⟨lw_p31, fun _ h => absurd h List.not_mem_nil⟩⟩⟩⟩⟩⟩⟩⟩⟩⟩⟩⟩⟩⟩⟩⟩
theorem lw_p32 : lw_okq (⟨"SerialBusModel", "resetBus", "(I)V"⟩, 42) := ⟨⟨by decide +kernel, by decide +kernel⟩, List.mem_of_getElem? (i := 653) (by decide +kernel), List.mem_of_getElem? (i := 838) (by decide +kernel), List.mem_of_getElem? (i := 839) (by decide +kernel)⟩
theorem lw_p33 : lw_okq (⟨"SerialBusModel", "clean", "(I)V"⟩, 42) := ⟨⟨by decide +kernel, by decide +kernel⟩, List.mem_of_getElem? (i := 653) (by decide +kernel), List.mem_of_getElem? (i := 842) (by decide +kernel), List.mem_of_getElem? (i := 843) (by decide +kernel)⟩
theorem lw_p34 : lw_okq (⟨"SerialBusModel", "anyOpen", "(I)Z"⟩, 42) := ⟨⟨by decide +kernel, by decide +kernel⟩, List.mem_of_getElem? (i := 653) (by decide +kernel), List.mem_of_getElem? (i := 846) (by decide +kernel), List.mem_of_getElem? (i := 847) (by decide +kernel)⟩
theorem lw_p35 : lw_okq (⟨"SerialBusModel", "round", "(II)V"⟩, 42) := ⟨⟨by decide +kernel, by decide +kernel⟩, List.mem_of_getElem? (i := 653) (by decide +kernel), List.mem_of_getElem? (i := 850) (by decide +kernel), List.mem_of_getElem? (i := 851) (by decide +kernel)⟩
theorem lw_p36 : lw_okq (⟨"SerialBusModel", "openAt", "(I)I"⟩, 42) := ⟨⟨by decide +kernel, by decide +kernel⟩, List.mem_of_getElem? (i := 653) (by decide +kernel), List.mem_of_getElem? (i := 854) (by decide +kernel), List.mem_of_getElem? (i := 855) (by decide +kernel)⟩
theorem lw_p37 : lw_okq (⟨"SerialBusModel", "nextBit", "(I)I"⟩, 42) := ⟨⟨by decide +kernel, by decide +kernel⟩, List.mem_of_getElem? (i := 653) (by decide +kernel), List.mem_of_getElem? (i := 858) (by decide +kernel), List.mem_of_getElem? (i := 859) (by decide +kernel)⟩
theorem lw_p38 : lw_okq (⟨"SerialBusModel", "close", "(II)V"⟩, 42) := ⟨⟨by decide +kernel, by decide +kernel⟩, List.mem_of_getElem? (i := 653) (by decide +kernel), List.mem_of_getElem? (i := 862) (by decide +kernel), List.mem_of_getElem? (i := 863) (by decide +kernel)⟩
theorem lw_p39 : lw_okq (⟨"SerialBusModel", "settle", "(IZ)V"⟩, 42) := ⟨⟨by decide +kernel, by decide +kernel⟩, List.mem_of_getElem? (i := 653) (by decide +kernel), List.mem_of_getElem? (i := 866) (by decide +kernel), List.mem_of_getElem? (i := 867) (by decide +kernel)⟩
theorem lw_p40 : lw_okq (⟨"SerialBusModel", "giveNumbers", "(I)V"⟩, 42) := ⟨⟨by decide +kernel, by decide +kernel⟩, List.mem_of_getElem? (i := 653) (by decide +kernel), List.mem_of_getElem? (i := 870) (by decide +kernel), List.mem_of_getElem? (i := 871) (by decide +kernel)⟩
theorem lw_p41 : lw_okq (⟨"SerialBusModel", "child", "(II)I"⟩, 42) := ⟨⟨by decide +kernel, by decide +kernel⟩, List.mem_of_getElem? (i := 653) (by decide +kernel), List.mem_of_getElem? (i := 874) (by decide +kernel), List.mem_of_getElem? (i := 875) (by decide +kernel)⟩
theorem lw_p42 : lw_okq (⟨"SerialBusModel", "cycle", "(I)V"⟩, 42) := ⟨⟨by decide +kernel, by decide +kernel⟩, List.mem_of_getElem? (i := 653) (by decide +kernel), List.mem_of_getElem? (i := 878) (by decide +kernel), List.mem_of_getElem? (i := 879) (by decide +kernel)⟩
theorem lw_p43 : lw_okq (⟨"SerialBusModel", "numbered", "(II)I"⟩, 42) := ⟨⟨by decide +kernel, by decide +kernel⟩, List.mem_of_getElem? (i := 653) (by decide +kernel), List.mem_of_getElem? (i := 883) (by decide +kernel), List.mem_of_getElem? (i := 884) (by decide +kernel)⟩
theorem lw_p44 : lw_okq (⟨"SerialBusModel", "slot", "(I)V"⟩, 42) := ⟨⟨by decide +kernel, by decide +kernel⟩, List.mem_of_getElem? (i := 653) (by decide +kernel), List.mem_of_getElem? (i := 887) (by decide +kernel), List.mem_of_getElem? (i := 888) (by decide +kernel)⟩
theorem lw_p45 : lw_okq (⟨"SerialBusModel", "sender", "(IZ)I"⟩, 42) := ⟨⟨by decide +kernel, by decide +kernel⟩, List.mem_of_getElem? (i := 653) (by decide +kernel), List.mem_of_getElem? (i := 891) (by decide +kernel), List.mem_of_getElem? (i := 892) (by decide +kernel)⟩
theorem lw_p46 : lw_okq (⟨"SerialBusModel", "send", "(I)V"⟩, 42) := ⟨⟨by decide +kernel, by decide +kernel⟩, List.mem_of_getElem? (i := 653) (by decide +kernel), List.mem_of_getElem? (i := 895) (by decide +kernel), List.mem_of_getElem? (i := 896) (by decide +kernel)⟩
theorem lw_p47 : lw_okq (⟨"SerialBusModel", "take", "(II)V"⟩, 42) := ⟨⟨by decide +kernel, by decide +kernel⟩, List.mem_of_getElem? (i := 653) (by decide +kernel), List.mem_of_getElem? (i := 899) (by decide +kernel), List.mem_of_getElem? (i := 900) (by decide +kernel)⟩
def lw_privs_3 : List (MethodName × Nat) := [(⟨"SerialBusModel", "resetBus", "(I)V"⟩, 42), (⟨"SerialBusModel", "clean", "(I)V"⟩, 42), (⟨"SerialBusModel", "anyOpen", "(I)Z"⟩, 42), (⟨"SerialBusModel", "round", "(II)V"⟩, 42), (⟨"SerialBusModel", "openAt", "(I)I"⟩, 42), (⟨"SerialBusModel", "nextBit", "(I)I"⟩, 42), (⟨"SerialBusModel", "close", "(II)V"⟩, 42), (⟨"SerialBusModel", "settle", "(IZ)V"⟩, 42), (⟨"SerialBusModel", "giveNumbers", "(I)V"⟩, 42), (⟨"SerialBusModel", "child", "(II)I"⟩, 42), (⟨"SerialBusModel", "cycle", "(I)V"⟩, 42), (⟨"SerialBusModel", "numbered", "(II)I"⟩, 42), (⟨"SerialBusModel", "slot", "(I)V"⟩, 42), (⟨"SerialBusModel", "sender", "(IZ)I"⟩, 42), (⟨"SerialBusModel", "send", "(I)V"⟩, 42), (⟨"SerialBusModel", "take", "(II)V"⟩, 42)]
theorem lw_r3 : ∀ q ∈ lw_privs_3, lw_okq q := List.forall_mem_cons.mpr ⟨lw_p32, List.forall_mem_cons.mpr ⟨lw_p33, List.forall_mem_cons.mpr ⟨lw_p34, List.forall_mem_cons.mpr ⟨lw_p35, List.forall_mem_cons.mpr ⟨lw_p36, List.forall_mem_cons.mpr ⟨lw_p37, List.forall_mem_cons.mpr ⟨lw_p38, List.forall_mem_cons.mpr ⟨lw_p39, List.forall_mem_cons.mpr ⟨lw_p40, List.forall_mem_cons.mpr ⟨lw_p41, List.forall_mem_cons.mpr ⟨lw_p42, List.forall_mem_cons.mpr ⟨lw_p43, List.forall_mem_cons.mpr ⟨lw_p44, List.forall_mem_cons.mpr ⟨lw_p45, List.forall_mem_cons.mpr ⟨lw_p46, List.forall_mem_cons.mpr ⟨lw_p47, fun _ h => absurd h List.not_mem_nil⟩⟩⟩⟩⟩⟩⟩⟩⟩⟩⟩⟩⟩⟩⟩⟩
theorem lw_p48 : lw_okq (⟨"SerialBusModel", "sendRequest", "(IIII)V"⟩, 42) := ⟨⟨by decide +kernel, by decide +kernel⟩, List.mem_of_getElem? (i := 653) (by decide +kernel), List.mem_of_getElem? (i := 903) (by decide +kernel), List.mem_of_getElem? (i := 904) (by decide +kernel)⟩
theorem lw_p49 : lw_okq (⟨"SerialBusModel", "done", "(I)I"⟩, 42) := ⟨⟨by decide +kernel, by decide +kernel⟩, List.mem_of_getElem? (i := 653) (by decide +kernel), List.mem_of_getElem? (i := 907) (by decide +kernel), List.mem_of_getElem? (i := 908) (by decide +kernel)⟩
theorem lw_p50 : lw_okq (⟨"SerialBusModel", "comeLate", "()V"⟩, 42) := ⟨⟨by decide +kernel, by decide +kernel⟩, List.mem_of_getElem? (i := 653) (by decide +kernel), List.mem_of_getElem? (i := 911) (by decide +kernel), List.mem_of_getElem? (i := 912) (by decide +kernel)⟩
theorem lw_p51 : lw_okq (⟨"SerialBusModel", "waiting", "(I)I"⟩, 42) := ⟨⟨by decide +kernel, by decide +kernel⟩, List.mem_of_getElem? (i := 653) (by decide +kernel), List.mem_of_getElem? (i := 935) (by decide +kernel), List.mem_of_getElem? (i := 936) (by decide +kernel)⟩
def lw_privs_4 : List (MethodName × Nat) := [(⟨"SerialBusModel", "sendRequest", "(IIII)V"⟩, 42), (⟨"SerialBusModel", "done", "(I)I"⟩, 42), (⟨"SerialBusModel", "comeLate", "()V"⟩, 42), (⟨"SerialBusModel", "waiting", "(I)I"⟩, 42)]
theorem lw_r4 : ∀ q ∈ lw_privs_4, lw_okq q := List.forall_mem_cons.mpr ⟨lw_p48, List.forall_mem_cons.mpr ⟨lw_p49, List.forall_mem_cons.mpr ⟨lw_p50, List.forall_mem_cons.mpr ⟨lw_p51, fun _ h => absurd h List.not_mem_nil⟩⟩⟩⟩
def lw_privs : List (MethodName × Nat) := lw_privs_1 ++ (lw_privs_2 ++ (lw_privs_3 ++ (lw_privs_4)))
def lw_tbl : List Cond := k2_sels lw_privs ++ tables_1
theorem lw_privs_ok : ∀ q ∈ lw_privs, lw_okq q := by
  show ∀ q ∈ lw_privs_1 ++ (lw_privs_2 ++ (lw_privs_3 ++ (lw_privs_4))), lw_okq q
  exact List.forall_mem_append.mpr ⟨lw_r1, List.forall_mem_append.mpr ⟨lw_r2, List.forall_mem_append.mpr ⟨lw_r3, lw_r4⟩⟩⟩
end
section
/-! ===== BEGIN words of one list among another's, by their places ===== -/
theorem goodIn_r {big : List Cond} (ws : List Cond) (ps : List Nat) (hp : ws = ps.filterMap (fun i => big[i]?)) (h : ws.all goodWord = true) : GoodIn big ws := by
  intro w hw
  have h1 := List.all_eq_true.mp h w hw
  rw [hp] at hw
  obtain ⟨i, -, hi⟩ := List.mem_filterMap.mp hw
  have hm : w ∈ big := by first | exact List.mem_of_getElem? hi | exact List.getElem?_mem hi
  exact ⟨hm, good_of_word h1⟩
theorem goodIn_app {big a b : List Cond} (ha : GoodIn big a) (hb : GoodIn big b) : GoodIn big (a ++ b) := fun w h => (List.mem_append.mp h).elim (ha w) (hb w)
theorem goodIn_ca {big a b : List Cond} {c : Cond} (ha : GoodIn big (c :: a)) (hb : GoodIn big b) : GoodIn big (c :: (a ++ b)) := fun w h => (List.mem_cons.mp h).elim (fun e => ha w (List.mem_cons.mpr (Or.inl e))) (fun h => (List.mem_append.mp h).elim (fun h => ha w (List.mem_cons.mpr (Or.inr h))) (hb w))
theorem goodIn_sub {big ws : List Cond} (hm : ∀ w ∈ ws, w ∈ big) (h : ws.all goodWord = true) : GoodIn big ws := fun w hw => ⟨hm w hw, good_of_word (List.all_eq_true.mp h w hw)⟩
/-! ===== END ===== -/

/-! ===== BEGIN exceptions that leave a method, and their catching by the caller (launches without stack traces) ===== -/
section VXA
/-! The laws vx_back, vx_callV, vx_callS, vx_callSW, vx_throw0, vx_throwS follow proofs of the library, with one case more: JvmDerived/Free/Laws.lean (Back.of_free), Shelf42/LK1.lean (callV, callS), Shelf/KitTraced.lean (throwNew0V, throwNewS). -/
/-- where a method has thrown q: the class by its name, the cell, what was written, the world -/
def vx_T (XC : String → State → State → Prop) (st : State) (q : Addr) (t : State) (mc ms : Nat) (free : Addr → Prop) : Prop :=
  ∃ (E : String) (ce : Cell) (L : List Loc), XC E st t ∧ t.heap[q]? = some ce ∧ ce.vm = .none ∧ st.vm.findClass E = some ce.cls ∧ st.WarmedH t.vm ∧ st.sameButNew ({ t with vm := st.vm } : State) L mc ms ∧ ∀ z ∈ L, free z.base
def vx_Q (Qc : Array Value → State → Outcome → State → Prop) (XC : String → State → State → Prop) (mc ms : Nat) (free : Addr → Prop) : Array Value → State → Outcome → State → Prop := fun a st o t =>
  (Qc a st o t ∧ ∃ L, FrameEnd st o t L mc ms ∧ ∀ q ∈ L, free q.base) ∨ ∃ q, o = .threw q ∧ vx_T XC st q t mc ms free
/-- a callee that returns or throws -/
def vx_Met (l : Launch) (y : MethodName) (ws : List Cond) (rm : Room) (Pc : Array Value → State → Prop) (Qc : Array Value → State → Outcome → State → Prop) (XC : String → State → State → Prop) (mc ms : Nat) (free : Addr → Prop) : Prop :=
  MetFree l y (headSpec ws rm) Pc (fun _ _ _ _ _ => True) (vx_Q Qc XC mc ms free)
def vx_Post (XC : String → State → State → Prop) (mc ms : Nat) (free : Addr → Prop) : Pt → Array Value → Addr → Pt → Prop := fun A a q B =>
  ∃ (g : JFrame) (mk : MethodId) (t : State) (L : List Loc) (E : String) (ce : Cell), B.U.heap = t.heap ∧ B.U.vm = t.vm ∧ XC E (A.U.calling g mk a) t ∧ t.heap[q]? = some ce ∧ ce.vm = .none ∧ A.U.vm.findClass E = some ce.cls ∧ B.locs = A.locs ++ L ∧ (∀ z ∈ L, free z.base) ∧ B.cells = A.cells + mc ∧ B.slots = A.slots + ms
def vx_Back (l : Launch) (R : Room) (p : Program) (e : Env) (below : List Frame) (s : State) (sargs : Array Value) (y : MethodName) (len W9 : Nat)
    (Pre : Pt → Array Value → Prop) (Post : Pt → Array Value → Option Value → Pt → Prop) (PostX : Pt → Array Value → Addr → Pt → Prop) : Prop :=
  ∀ (m : MethodId) (meth : Method) (c : Code) (A : Pt) (g : JFrame) (ig : Instr) (mk : MethodId) (a : Array Value),
    Stand p l e R s m sargs below meth c A.U A.locs A.cells A.slots → g.method = m → g.locals.size = c.maxLocals → decode c.code g.pc = .ok (ig, len) →
    2 * g.monitorRoom + (g.stack.map fun v => v.category).sum ≤ W9 → A.U.methodNamed? y = some mk → Pre A a →
    (∃ (v : Option Value) (B : Pt), Stand p l e R s m sargs below meth c B.U B.locs B.cells B.slots ∧ Post A a v B ∧
      Steps p.tables e below (doInvoke e (A.U.setTop g) [] mk a).1 (B.U.setTop { g with pc := g.pc + len, stack := v.toList ++ g.stack })) ∨
    (∃ (q : Addr) (B : Pt), Stand p l e R s m sargs below meth c B.U B.locs B.cells B.slots ∧ PostX A a q B ∧
      Steps p.tables e below (doInvoke e (A.U.setTop g) [] mk a).1 ((B.U.setTop g).pushFrame (.throwing q)))
section Payer
variable {l : Launch} {R : Room} {p : Program} {e : Env} {below : List Frame} {s : State} {sargs : Array Value} {y : MethodName} {len W9 : Nat}
theorem vx_back {ws : List Cond} {rm : Room} {Pc : Array Value → State → Prop} {Qc : Array Value → State → Outcome → State → Prop} {XC : String → State → State → Prop} {mc ms : Nat} {free : Addr → Prop} {bytes : ByteArray} {maxL : Nat} {ret : Option FieldType}
    (hM : vx_Met l y ws rm Pc Qc XC mc ms free) (hblind : FrameBlind Pc) (hrc : rm.cells = mc) (hrs : rm.slots = ms)
    (hframes : rm.frames + 1 ≤ R.frames) (hlocals : W9 + (maxL + 11) + rm.locals ≤ R.locals)
    (hws : ∀ w ∈ ws, ∀ a' U, s.WarmedH U.vm → w.before a' U = true) (hcode : Cond.code y bytes maxL ret ∈ ws) (hinit : ∀ a' U, s.WarmedH U.vm → (Cond.initialized y.cls).before a' U = true) :
    vx_Back l R p e below s sargs y len W9 (PreOf R mc ms Pc) (PostOf Qc mc ms free) (vx_Post XC mc ms free) := by
  intro m meth c A g ig mk a X hg hsize hdg hW hn hp
  have h1 : (headSpec ws rm).pre.before a A.U = true := atoms_intro fun w hw => hws w hw _ _ X.warmed
  have h2 : (Cond.code y bytes maxL ret).before a A.U = true := hws _ hcode _ _ X.warmed
  have h3 : (Cond.initialized y.cls).before a A.U = true := hinit _ _ X.warmed
  have h4 : A.cells + (headSpec ws rm).room.cells ≤ R.cells := by rw [show (headSpec ws rm).room.cells = mc from hrc]; exact hp.1
  have h5 : A.slots + (headSpec ws rm).room.slots ≤ R.slots := by rw [show (headSpec ws rm).room.slots = ms from hrs]; exact hp.2.1
  have hPc : Pc a (A.U.calling g mk a) := hblind _ _ _ _ hp.2.2
  obtain ⟨U, Ls, c0, s0⟩ := A
  dsimp only [Pt.U, Pt.locs, Pt.cells, Pt.slots] at h1 h2 h3 h4 h5 X hn hPc ⊢
  obtain ⟨methY, cY, hmY, hcY, -, hlY, -, -, -, -⟩ := Cond.code_spec hn h2
  obtain ⟨kY, hkY, -⟩ := className_of_methodNamed hn
  have hinitY : kY.init = .initialized := Cond.initialized_spec (findClass_of_methodNamed hn) hkY h3
  have h : At U g.method c below := by rw [hg]; exact X.here
  have hlocals9 : W9 + (maxL + 11) + (headSpec ws rm).room.locals ≤ R.locals := hlocals
  have happ : (headSpec ws rm).appliesLoose y e.platform (U.calling g mk a) = true :=
    Spec.appliesLoose_calling (g := g) h hdg hn hkY hinitY
      (X.room_calling (g := g) (R' := (headSpec ws rm).room) hsize hmY hcY hframes (by rw [hlY]; omega) h4 h5) h1
  obtain ⟨mid, hmid⟩ := h.above
  have hfr : (U.setTop g).frames = (.java g :: mid) ++ below := by rw [State.frames_setTop' g h.top, hmid]; rfl
  obtain ⟨o, s₂, hsteps, -, hend, hq⟩ := Steps.callFree hM p X.admits X.cas X.clock (acts := []) hfr happ hPc trivial
  have hq' : vx_Q Qc XC mc ms free a (U.calling g mk a) o s₂ := hq
  rw [State.frames_setTop' g h.top] at hend
  obtain ⟨g₀, hg0⟩ := Option.isSome_iff_exists.mp h.top
  obtain ⟨r, hr⟩ := State.topJava?_eq_some.mp hg0
  have hr' : (({ U with heap := s₂.heap, slotsUsed := s₂.slotsUsed } : State).setVm s₂.vm).frames = .java g₀ :: r := hr
  rcases hq' with ⟨hqc, L, hfe, hL⟩ | ⟨q, rfl, E, ce, L, hx, hce, hcv, hcl, hW₂, hsm, hL⟩
  · obtain ⟨⟨v, rfl⟩, hW₂, e2, q2, q3, q4, q5, q6⟩ := id hfe
    have e3 : s₂ = ({ (U.calling g mk a).setFrames s₂.frames with heap := s₂.heap, slotsUsed := s₂.slotsUsed } : State).setVm s₂.vm := by
      have : s₂ = ({ s₂ with vm := (U.calling g mk a).vm } : State).setVm s₂.vm := rfl
      rw [e2] at this
      exact this
    obtain ⟨c₂, i₂, len₂, hc₂, hd₂, hf₂⟩ := hend
    have hW' : U.WarmedH s₂.vm := hW₂
    have hcc : c₂ = c := by
      have h1 : s₂.code? g.method = U.code? g.method := by
        rw [State.code?_eq, State.code?_eq, hW'.alike.method?]
      exact Option.some.inj (hc₂.symm.trans (h1.trans h.code))
    subst hcc
    have hlen : len₂ = len := by rw [hdg] at hd₂; cases hd₂; rfl
    subst hlen
    have hs₂ : s₂ = (({ U with heap := s₂.heap, slotsUsed := s₂.slotsUsed } : State).setVm s₂.vm).setTop { g with pc := g.pc + len₂, stack := v.toList ++ g.stack } := by
      refine e3.trans ?_
      rw [hf₂, State.calling_eq h.top, State.setFrames_setFrames, State.setTop_of_frames _ hr', hr]
      rfl
    have hsame : U.sameButNew ({ U with heap := s₂.heap, slotsUsed := s₂.slotsUsed } : State) L mc ms := by
      refine ⟨?_, q2, q3, q4, q5, q6⟩
      obtain ⟨t, ht, -⟩ := State.frames_cons hr
      show ({ U with heap := s₂.heap, slotsUsed := s₂.slotsUsed } : State) = { U.setFrames U.frames with heap := s₂.heap, slotsUsed := s₂.slotsUsed }
      rw [State.setFrames_self ht]
    subst hg
    refine Or.inl ⟨v, ⟨(({ U with heap := s₂.heap, slotsUsed := s₂.slotsUsed } : State).setVm s₂.vm), Ls ++ L, c0 + mc, s0 + ms⟩,
      ⟨X.admits, X.cas, X.clock, X.frames, X.room, X.hears, X.method, X.code, (X.here.setHeapUsed s₂.heap s₂.slotsUsed).setVm hW'.alike, X.tail, State.WarmedH.trans X.warmed hW', X.limits, X.bytes, X.same.trans (hsame.setVm s.vm)⟩,
      ⟨g, mk, s₂, L, rfl, rfl, hqc, rfl, hL, rfl, rfl⟩, ?_⟩
    show Steps p.tables e below _ ((({ U with heap := s₂.heap, slotsUsed := s₂.slotsUsed } : State).setVm s₂.vm).setTop { g with pc := g.pc + len₂, stack := v.toList ++ g.stack })
    rw [← hs₂]
    exact hsteps
  · obtain ⟨e2, q2, q3, q4, q5, q6⟩ := id hsm
    have e3 : s₂ = ({ (U.calling g mk a).setFrames s₂.frames with heap := s₂.heap, slotsUsed := s₂.slotsUsed } : State).setVm s₂.vm := by
      have : s₂ = ({ s₂ with vm := (U.calling g mk a).vm } : State).setVm s₂.vm := rfl
      rw [e2] at this
      exact this
    have hf₂ : s₂.frames = .throwing q :: .java g :: U.frames.tail := hend
    have hW' : U.WarmedH s₂.vm := hW₂
    have hs₂ : s₂ = ((({ U with heap := s₂.heap, slotsUsed := s₂.slotsUsed } : State).setVm s₂.vm).setTop g).pushFrame (.throwing q) := by
      refine e3.trans ?_
      rw [hf₂, State.calling_eq h.top, State.setFrames_setFrames, State.pushFrame, State.frames_setTop _ hr', State.setTop_of_frames _ hr', State.setFrames_setFrames, hr]
      rfl
    have hsame : U.sameButNew ({ U with heap := s₂.heap, slotsUsed := s₂.slotsUsed } : State) L mc ms := by
      refine ⟨?_, q2, q3, q4, q5, q6⟩
      obtain ⟨t, ht, -⟩ := State.frames_cons hr
      show ({ U with heap := s₂.heap, slotsUsed := s₂.slotsUsed } : State) = { U.setFrames U.frames with heap := s₂.heap, slotsUsed := s₂.slotsUsed }
      rw [State.setFrames_self ht]
    subst hg
    refine Or.inr ⟨q, ⟨(({ U with heap := s₂.heap, slotsUsed := s₂.slotsUsed } : State).setVm s₂.vm), Ls ++ L, c0 + mc, s0 + ms⟩,
      ⟨X.admits, X.cas, X.clock, X.frames, X.room, X.hears, X.method, X.code, (X.here.setHeapUsed s₂.heap s₂.slotsUsed).setVm hW'.alike, X.tail, State.WarmedH.trans X.warmed hW', X.limits, X.bytes, X.same.trans (hsame.setVm s.vm)⟩,
      ⟨g, mk, s₂, L, E, ce, rfl, rfl, hx, hce, hcv, hcl, rfl, hL, rfl, rfl⟩, ?_⟩
    show Steps p.tables e below _ (((({ U with heap := s₂.heap, slotsUsed := s₂.slotsUsed } : State).setVm s₂.vm).setTop g).pushFrame (.throwing q))
    rw [← hs₂]
    exact hsteps
end Payer
section Calls
variable {p : Program} {l : Launch} {e : Env} {R : Room} {s : State} {m : MethodId} {args : Array Value} {below : List Frame} {meth : Method} {c : Code} {T : State} {locs : List Loc} {cells slots : Nat}
theorem vx_callV (X : Stand p l e R s m args below meth c T locs cells slots) (hexec : p.tables.exec = Jvm.exec) {own C : String} {index : Nat} {y : MethodName} {bytes : ByteArray} {maxL : Nat} {ret : Option FieldType}
    (hown : s.vm.findClass own = some m.cls) (hlink : (Cond.methodLink own index y).before args s = true) (hinst : (Cond.instanceMethod y).before args s = true) (hsel : (Cond.selects C y y).before args s = true)
    (hcode : (Cond.code y bytes maxL ret).before args s = true) (hy : y.cls ≠ "java/lang/invoke/MethodHandle" ∧ y.cls ≠ "java/lang/invoke/VarHandle")
    {W9 : Nat} {Pre : Pt → Array Value → Prop} {Post : Pt → Array Value → Option Value → Pt → Prop} {PostX : Pt → Array Value → Addr → Pt → Prop} (hK : vx_Back l R p e below s args y 3 W9 Pre Post PostX)
    {b : Addr} {cellB : Cell} (hcell : T.heap[b]? = some cellB) (hobj : cellB.vm.isStatics = false) (hcls : s.vm.findClass C = some cellB.cls)
    {g : JFrame} (hg : g.method = m) (hsize : g.locals.size = c.maxLocals) {argsL rest : List Value} (hlen : ∀ sig, parseMethodDescriptor y.desc = some sig → argsL.length = sig.parameters.length)
    (hstack : g.stack = argsL.reverse ++ .ref b :: rest) (hW : 2 * g.monitorRoom + (rest.map fun v => v.category).sum ≤ W9) (hdg : decode c.code g.pc = .ok (.invokevirtual index, 3))
    (hpre : ∀ vm₁, s.WarmedH vm₁ → Pre ⟨T.setVm vm₁, locs, cells, slots⟩ (Value.ref b :: argsL).toArray) :
    (∃ (v : Option Value) (vm₁ : Vm) (B : Pt), s.WarmedH vm₁ ∧ Stand p l e R s m args below meth c B.U B.locs B.cells B.slots ∧ Post ⟨T.setVm vm₁, locs, cells, slots⟩ (Value.ref b :: argsL).toArray v B ∧
      ∀ target, Steps p.tables e below (B.U.setTop { g with pc := g.pc + 3, stack := v.toList ++ rest }) target → Steps p.tables e below (T.setTop g) target) ∨
    (∃ (q : Addr) (vm₁ : Vm) (B : Pt), s.WarmedH vm₁ ∧ Stand p l e R s m args below meth c B.U B.locs B.cells B.slots ∧ PostX ⟨T.setVm vm₁, locs, cells, slots⟩ (Value.ref b :: argsL).toArray q B ∧
      Steps p.tables e below (T.setTop g) ((B.U.setTop { g with stack := rest }).pushFrame (.throwing q))) := by
  obtain ⟨mk, methM, hnamed, hmethM, hstM, habM⟩ := Cond.instanceMethod_spec hinst
  obtain ⟨methM', cM, hmethM', -, -, -, -, -, -, hsigM⟩ := Cond.code_spec hnamed hcode
  cases hmethM.symm.trans hmethM'
  obtain ⟨c2, r2, m2, q1, q2, q3, q4, kP, hkP, hkPi⟩ := Cond.selects_spec hsel
  cases hcls.symm.trans q1
  cases (State.methodFound?_of_named hnamed hy).symm.trans q2
  cases hnamed.symm.trans q3
  have hselP : selectMethod e.platform s.vm cellB.cls mk = .method mk := by rw [Launch.admits_selectMethod X.admits]; exact q4
  obtain ⟨vm₁, X₁, hstep₁⟩ := X.invokevirtual hexec hown hlink hnamed hmethM hstM hkP hkPi hy (a := b) (cell := cellB) hcell
    (fun z h => by rw [h] at hobj; cases hobj) hselP hmethM habM hkP hkPi (g := g) hg (argsL := argsL) (rest := rest) (hlen _ hsigM) hstack hdg
  rcases hK m meth c ⟨T.setVm vm₁, locs, cells, slots⟩ { g with stack := rest } (.invokevirtual index) mk (Value.ref b :: argsL).toArray X₁ hg hsize hdg hW (X₁.named hnamed) (hpre vm₁ X₁.warmed) with ⟨v, B, X', hpost, hsteps⟩ | ⟨q, B, X', hpost, hsteps⟩
  · exact Or.inl ⟨v, vm₁, B, X₁.warmed, X', hpost, fun target h => hstep₁ _ fun acts => by rw [doInvoke_state]; exact hsteps.trans h⟩
  · exact Or.inr ⟨q, vm₁, B, X₁.warmed, X', hpost, hstep₁ _ fun acts => by rw [doInvoke_state]; exact hsteps⟩
theorem vx_callS (X : Stand p l e R s m args below meth c T locs cells slots) (hexec : p.tables.exec = Jvm.exec) {own : String} {index : Nat} {y : MethodName} {bytes : ByteArray} {maxL : Nat} {ret : Option FieldType}
    (hown : s.vm.findClass own = some m.cls) (hlink : (Cond.methodLink own index y).before args s = true) (hstat : (Cond.static y).before args s = true) (hinit : (Cond.initialized y.cls).before args s = true)
    (hcode : (Cond.code y bytes maxL ret).before args s = true) (hy : y.cls ≠ "java/lang/invoke/MethodHandle" ∧ y.cls ≠ "java/lang/invoke/VarHandle")
    {W9 : Nat} {Pre : Pt → Array Value → Prop} {Post : Pt → Array Value → Option Value → Pt → Prop} {PostX : Pt → Array Value → Addr → Pt → Prop} (hK : vx_Back l R p e below s args y 3 W9 Pre Post PostX)
    {g : JFrame} (hg : g.method = m) (hsize : g.locals.size = c.maxLocals) {argsL rest : List Value} (hlen : ∀ sig, parseMethodDescriptor y.desc = some sig → argsL.length = sig.parameters.length)
    (hstack : g.stack = argsL.reverse ++ rest) (hW : 2 * g.monitorRoom + (rest.map fun v => v.category).sum ≤ W9) (hdg : decode c.code g.pc = .ok (.invokestatic index, 3))
    (hpre : ∀ vm₁, s.WarmedH vm₁ → Pre ⟨T.setVm vm₁, locs, cells, slots⟩ argsL.toArray) :
    (∃ (v : Option Value) (vm₁ : Vm) (B : Pt), s.WarmedH vm₁ ∧ Stand p l e R s m args below meth c B.U B.locs B.cells B.slots ∧ Post ⟨T.setVm vm₁, locs, cells, slots⟩ argsL.toArray v B ∧
      ∀ target, Steps p.tables e below (B.U.setTop { g with pc := g.pc + 3, stack := v.toList ++ rest }) target → Steps p.tables e below (T.setTop g) target) ∨
    (∃ (q : Addr) (vm₁ : Vm) (B : Pt), s.WarmedH vm₁ ∧ Stand p l e R s m args below meth c B.U B.locs B.cells B.slots ∧ PostX ⟨T.setVm vm₁, locs, cells, slots⟩ argsL.toArray q B ∧
      Steps p.tables e below (T.setTop g) ((B.U.setTop { g with stack := rest }).pushFrame (.throwing q))) := by
  obtain ⟨mk, hnamed⟩ := Cond.code_named hcode
  obtain ⟨methM, cM, hmethM, -, -, -, -, -, -, hsigM⟩ := Cond.code_spec hnamed hcode
  have hstatic : methM.isStatic = true := Cond.static_spec hnamed hmethM hstat
  obtain ⟨kP, hkP, -⟩ := className_of_methodNamed hnamed
  have hinitP : kP.init = .initialized := Cond.initialized_spec (findClass_of_methodNamed hnamed) hkP hinit
  obtain ⟨vm₁, X₁, hstep₁⟩ := X.invokestatic hexec hown hlink hnamed hmethM hstatic hkP hinitP hy (g := g) hg (argsL := argsL) (rest := rest) (hlen _ hsigM) hstack hdg
  rcases hK m meth c ⟨T.setVm vm₁, locs, cells, slots⟩ { g with stack := rest } (.invokestatic index) mk argsL.toArray X₁ hg hsize hdg hW (X₁.named hnamed) (hpre vm₁ X₁.warmed) with ⟨v, B, X', hpost, hsteps⟩ | ⟨q, B, X', hpost, hsteps⟩
  · exact Or.inl ⟨v, vm₁, B, X₁.warmed, X', hpost, fun target h => hstep₁ _ fun acts => by rw [doInvoke_state]; exact hsteps.trans h⟩
  · exact Or.inr ⟨q, vm₁, B, X₁.warmed, X', hpost, hstep₁ _ fun acts => by rw [doInvoke_state]; exact hsteps⟩
end Calls
theorem vx_cls {s : State} {T : State} {vm₁ : Vm} {E : String} {k : ClassId} (hW : s.WarmedH vm₁) (h : (T.setVm vm₁).vm.findClass E = some k) : s.vm.findClass E = some k := by
  have h1 : vm₁.findClass E = some k := h
  rw [hW.alike.findClass] at h1
  exact h1
/-- the method's frame g, with q thrown over it -/
def vx_W (p : Program) (l : Launch) (e : Env) (R : Room) (s : State) (m : MethodId) (args : Array Value) (below : List Frame) (meth : Method) (c : Code) (H : Heap) (locs : List Loc) (cells slots : Nat) (Q : State → Prop) (g : JFrame) (q : Addr) : Prop :=
  ∀ T : State, T.heap = H → Stand p l e R s m args below meth c T locs cells slots → ∃ t, Steps p.tables e below ((T.setTop g).pushFrame (.throwing q)) t ∧ Q t
def vx_Run (p : Program) (l : Launch) (e : Env) (R : Room) (s : State) (m : MethodId) (args : Array Value) (below : List Frame) (meth : Method) (c : Code) (H : Heap) (locs : List Loc) (cells slots mc ms : Nat) (g : JFrame) (rest : List Value) (Qa : State → Outcome → State → Prop) (XC : String → State → State → Prop) (free : Addr → Prop) : Prop :=
  ∀ T : State, T.heap = H → Stand p l e R s m args below meth c T locs cells slots →
    (∃ (v : Option Value) (st₀ t T' : State) (L : List Loc), st₀.heap = H ∧ Stand p l e R s m args below meth c T' (locs ++ L) (cells + mc) (slots + ms) ∧ (∀ q ∈ L, free q.base) ∧ T'.heap = t.heap ∧ T'.vm = t.vm ∧ Qa st₀ (.returned v) t ∧
      Goes p e below T g T' { g with pc := g.pc + 3, stack := v.toList ++ rest }) ∨
    (∃ (q : Addr) (st₀ t T' : State) (L : List Loc) (E : String) (ce : Cell), st₀.heap = H ∧ Stand p l e R s m args below meth c T' (locs ++ L) (cells + mc) (slots + ms) ∧ (∀ z ∈ L, free z.base) ∧ T'.heap = t.heap ∧ T'.vm = t.vm ∧ XC E st₀ t ∧ t.heap[q]? = some ce ∧ ce.vm = .none ∧ s.vm.findClass E = some ce.cls ∧
      Steps p.tables e below (T.setTop g) ((T'.setTop { g with stack := rest }).pushFrame (.throwing q)))
def vx_X {S : Type} (px : S → Prop) (B : String → S → State → Prop) (A : Nat → Prop) : String → State → State → Prop := fun E st t => ∃ u : S, px u ∧ B E u t ∧ va_F A st t
section Runs
variable {p : Program} {l : Launch} {e : Env} {R : Room} {s : State} {m : MethodId} {args : Array Value} {below : List Frame} {meth : Method} {c : Code} {H : Heap} {locs : List Loc} {cells slots : Nat}
variable {y : MethodName} {bytes cc : ByteArray} {maxL nL mc ms n index : Nat} {ret : Option FieldType} {ws : List Cond} {rm : Room} {Pc : Array Value → State → Prop} {Qc : Array Value → State → Outcome → State → Prop} {XC : String → State → State → Prop} {free : Addr → Prop} {Ts : List Cond} {own C : String} {b : Addr} {As rest : List Value} {g : JFrame}
theorem vx_callBack (cb : CallB R s args own index y bytes maxL ret ws rm mc ms n) (hM : vx_Met l y ws rm Pc Qc XC mc ms free) (hbl : FrameBlind Pc) : vx_Back l R p e below s args y 3 8 (PreOf R mc ms Pc) (PostOf Qc mc ms free) (vx_Post XC mc ms free) := by
  obtain ⟨hrc, hrs, hfr, hlo, hws, hcw, -, hini, -⟩ := cb
  exact vx_back (bytes := bytes) (maxL := maxL) (ret := ret) hM hbl hrc hrs hfr hlo hws hcw (fun a' U hW => word_at hW (Or.inl (by first | rfl | simp [Cond.onTables, Cond.keeps, Cond.steady])) hini)
theorem vx_runV (S : CallFix p m c cc nL s args Ts own) (hM : vx_Met l y ws rm Pc Qc XC mc ms free) (cw : CallW R s args own C index y bytes maxL ret ws rm mc ms n) (hp : PreV s H C b Pc As)
    (hg : g.method = m) (hn : As.length = n) (hsize : g.locals.size = nL) (hstack : g.stack = As.reverse ++ .ref b :: rest) (hW : 2 * g.monitorRoom + (rest.map fun v => v.category).sum ≤ 8) (hdg : decode cc g.pc = .ok (.invokevirtual index, 3)) (hf : cells + mc ≤ R.cells ∧ slots + ms ≤ R.slots) :
    vx_Run p l e R s m args below meth c H locs cells slots mc ms g rest (Qc (Value.ref b :: As).toArray) XC free := by
  have hK : vx_Back l R p e below s args y 3 8 (PreOf R mc ms Pc) (PostOf Qc mc ms free) (vx_Post XC mc ms free) := vx_callBack cw.1 hM hp.1
  obtain ⟨⟨-, -, -, -, -, -, hcode, -, hy, hlen, hl⟩, hin, hse⟩ := cw
  obtain ⟨hx, hb, hml, ho, -⟩ := S
  obtain ⟨-, ⟨cellB, hcB, hoB, hclB⟩, hPc⟩ := hp
  intro T hT X
  rcases vx_callV X hx (C := C) (bytes := bytes) (maxL := maxL) (ret := ret) ho hl hin hse hcode hy hK (by rw [hT]; exact hcB) hoB hclB hg (hsize.trans hml.symm) (argsL := As) (rest := rest) (fun sig h => hn.trans (hlen sig h)) hstack hW (by rw [hb]; exact hdg)
    (fun vm₁ hW₁ => ⟨hf.1, hf.2, hPc (T.setVm vm₁) hT hW₁⟩) with ⟨v, vm₁, ⟨U', l2, c2, s2⟩, hW₁, X', ⟨g', mk, t, L, e1, e2, hq, h1, hL, h2, h3⟩, st⟩ | ⟨q, vm₁, ⟨U', l2, c2, s2⟩, hW₁, X', ⟨g', mk, t, L, E, ce, e1, e2, hq, hce, hcv, hcl, h1, hL, h2, h3⟩, st⟩
  · dsimp only [Pt.U, Pt.locs, Pt.cells, Pt.slots] at X' e1 e2 h1 h2 h3 st
    subst h1; subst h2; subst h3
    exact Or.inl ⟨v, (T.setVm vm₁).calling g' mk (Value.ref b :: As).toArray, t, U', L, hT, X', hL, e1, e2, hq, st⟩
  · dsimp only [Pt.U, Pt.locs, Pt.cells, Pt.slots] at X' e1 e2 h1 h2 h3 st hcl
    subst h1; subst h2; subst h3
    exact Or.inr ⟨q, (T.setVm vm₁).calling g' mk (Value.ref b :: As).toArray, t, U', L, E, ce, hT, X', hL, e1, e2, hq, hce, hcv, vx_cls hW₁ hcl, st⟩
theorem vx_runS (S : CallFix p m c cc nL s args Ts own) (hM : vx_Met l y ws rm Pc Qc XC mc ms free) (cw : CallB R s args own index y bytes maxL ret ws rm mc ms n ∧ (Cond.static y).before args s = true) (hp : PreS s H Pc As)
    (hg : g.method = m) (hn : As.length = n) (hsize : g.locals.size = nL) (hstack : g.stack = As.reverse ++ rest) (hW : 2 * g.monitorRoom + (rest.map fun v => v.category).sum ≤ 8) (hdg : decode cc g.pc = .ok (.invokestatic index, 3)) (hf : cells + mc ≤ R.cells ∧ slots + ms ≤ R.slots) :
    vx_Run p l e R s m args below meth c H locs cells slots mc ms g rest (Qc As.toArray) XC free := by
  have hK : vx_Back l R p e below s args y 3 8 (PreOf R mc ms Pc) (PostOf Qc mc ms free) (vx_Post XC mc ms free) := vx_callBack cw.1 hM hp.1
  obtain ⟨⟨-, -, -, -, -, -, hcode, hini, hy, hlen, hl⟩, hstt⟩ := cw
  obtain ⟨hx, hb, hml, ho, -⟩ := S
  intro T hT X
  rcases vx_callS X hx (bytes := bytes) (maxL := maxL) (ret := ret) ho hl hstt hini hcode hy hK hg (hsize.trans hml.symm) (argsL := As) (rest := rest) (fun sig h => hn.trans (hlen sig h)) hstack hW (by rw [hb]; exact hdg)
    (fun vm₁ hW₁ => ⟨hf.1, hf.2, hp.2 (T.setVm vm₁) hT hW₁⟩) with ⟨v, vm₁, ⟨U', l2, c2, s2⟩, hW₁, X', ⟨g', mk, t, L, e1, e2, hq, h1, hL, h2, h3⟩, st⟩ | ⟨q, vm₁, ⟨U', l2, c2, s2⟩, hW₁, X', ⟨g', mk, t, L, E, ce, e1, e2, hq, hce, hcv, hcl, h1, hL, h2, h3⟩, st⟩
  · dsimp only [Pt.U, Pt.locs, Pt.cells, Pt.slots] at X' e1 e2 h1 h2 h3 st
    subst h1; subst h2; subst h3
    exact Or.inl ⟨v, (T.setVm vm₁).calling g' mk As.toArray, t, U', L, hT, X', hL, e1, e2, hq, st⟩
  · dsimp only [Pt.U, Pt.locs, Pt.cells, Pt.slots] at X' e1 e2 h1 h2 h3 st hcl
    subst h1; subst h2; subst h3
    exact Or.inr ⟨q, (T.setVm vm₁).calling g' mk As.toArray, t, U', L, E, ce, hT, X', hL, e1, e2, hq, hce, hcv, vx_cls hW₁ hcl, st⟩
end Runs
section Rows
variable {p : Program} {l : Launch} {e : Env} {R : Room} {s : State} {m : MethodId} {args : Array Value} {below : List Frame} {meth : Method} {c : Code} {H : Heap} {locs : List Loc} {cells slots : Nat} {Q : State → Prop}
variable {mc ms : Nat} {free : Addr → Prop} {A0 A1 : Nat → Prop} {H0 : Heap} {a : Array Value} {pc : Nat} {ls : Array Slot} {st0 rest : List Value}
theorem vx_keep {st₀ t T' : State} {L : List Loc} (h0 : st₀.heap = H) (e1 : T'.heap = t.heap) (hS : va_S A0 H0 H locs) (hA : ∀ q, q < H.size → A1 q → A0 q) (hf : ∀ q, free q → A0 q) (hL : ∀ q ∈ L, free q.base) (hF : va_F A1 st₀ t) :
    H.size ≤ T'.heap.size ∧ (∀ q : Nat, q < H.size → ¬ A1 q → T'.heap[q]? = H[q]?) ∧ va_S A0 H0 T'.heap (locs ++ L) := by
  obtain ⟨hz, hk⟩ := hF
  rw [h0] at hz hk
  exact ⟨by rw [e1]; exact hz, fun q h1 h2 => by rw [e1]; exact hk q h1 h2,
    ⟨Nat.le_trans hS.1 (by rw [e1]; exact hz), fun q h1 h2 => by rw [e1, hk q (Nat.lt_of_lt_of_le h1 hS.1) (fun z => h2 (hA q (Nat.lt_of_lt_of_le h1 hS.1) z))]; exact hS.2.1 q h1 h2, fun q hq => by
      rcases List.mem_append.mp hq with h | h
      · exact hS.2.2 q h
      · exact hf _ (hL q h)⟩⟩
theorem vx_calli {S SX : Type} {post : Int32 → S → Prop} {px : SX → Prop} {B : S → State → Prop} {BX : String → SX → State → Prop} {AX : Nat → Prop} (hr : vx_Run p l e R s m args below meth c H locs cells slots mc ms (F0 m pc ls st0) rest (va_Qi post B A1 a) (vx_X px BX AX) free) (hS : va_S A0 H0 H locs) (hA : ∀ q, q < H.size → A1 q → A0 q) (hf : ∀ q, free q → A0 q) (hAX : ∀ q, q < H.size → AX q → A0 q)
    (kx : ∀ (E : String) (ce : Cell) (q9 : Addr) (u : SX) (t : State) (H1 : Heap) (locs1 : List Loc), t.heap = H1 → s.vm.Alike t.vm → px u → BX E u t → H.size ≤ H1.size → (∀ q : Nat, q < H.size → ¬ AX q → H1[q]? = H[q]?) → va_S A0 H0 H1 locs1 → H1[q9]? = some ce → ce.vm = .none → s.vm.findClass E = some ce.cls → vx_W p l e R s m args below meth c H1 locs1 (cells + mc) (slots + ms) Q (F0 m pc ls rest) q9)
    (kk : ∀ (r : Int32) (u : S) (t : State) (H1 : Heap) (locs1 : List Loc), t.heap = H1 → s.vm.Alike t.vm → post r u → B u t → H.size ≤ H1.size → (∀ q : Nat, q < H.size → ¬ A1 q → H1[q]? = H[q]?) → va_S A0 H0 H1 locs1 → W p l e R s m args below meth c H1 locs1 (cells + mc) (slots + ms) Q (F0 m (pc + 3) ls (.int r :: rest))) : W p l e R s m args below meth c H locs cells slots Q (F0 m pc ls st0) := by
  intro T hT X
  rcases hr T hT X with ⟨v, st₀, t, T', L, h0, X', hL, e1, e2, ⟨⟨r, u, hv, hp, hb⟩, hF⟩, st⟩ | ⟨q, st₀, t, T', L, E, ce, h0, X', hL, e1, e2, ⟨u, hp, hb, hF⟩, hce, hcv, hcl, st⟩
  · cases hv
    obtain ⟨k1, k2, k3⟩ := vx_keep h0 e1 hS hA hf hL hF
    obtain ⟨t2, a1, b1⟩ := kk r u t T'.heap (locs ++ L) e1.symm (by rw [← e2]; exact X'.warmed.alike) hp hb k1 k2 k3 T' rfl X'
    exact ⟨t2, st t2 a1, b1⟩
  · obtain ⟨k1, k2, k3⟩ := vx_keep h0 e1 hS hAX hf hL hF
    obtain ⟨t2, a1, b1⟩ := kx E ce q u t T'.heap (locs ++ L) e1.symm (by rw [← e2]; exact X'.warmed.alike) hp hb k1 k2 k3 (by rw [e1]; exact hce) hcv hcl T' rfl X'
    exact ⟨t2, st.trans a1, b1⟩
theorem vx_calll {S SX : Type} {post : Int64 → S → Prop} {px : SX → Prop} {B : S → State → Prop} {BX : String → SX → State → Prop} {AX : Nat → Prop} (hr : vx_Run p l e R s m args below meth c H locs cells slots mc ms (F0 m pc ls st0) rest (va_Ql post B A1 a) (vx_X px BX AX) free) (hS : va_S A0 H0 H locs) (hA : ∀ q, q < H.size → A1 q → A0 q) (hf : ∀ q, free q → A0 q) (hAX : ∀ q, q < H.size → AX q → A0 q)
    (kx : ∀ (E : String) (ce : Cell) (q9 : Addr) (u : SX) (t : State) (H1 : Heap) (locs1 : List Loc), t.heap = H1 → s.vm.Alike t.vm → px u → BX E u t → H.size ≤ H1.size → (∀ q : Nat, q < H.size → ¬ AX q → H1[q]? = H[q]?) → va_S A0 H0 H1 locs1 → H1[q9]? = some ce → ce.vm = .none → s.vm.findClass E = some ce.cls → vx_W p l e R s m args below meth c H1 locs1 (cells + mc) (slots + ms) Q (F0 m pc ls rest) q9)
    (kk : ∀ (r : Int64) (u : S) (t : State) (H1 : Heap) (locs1 : List Loc), t.heap = H1 → s.vm.Alike t.vm → post r u → B u t → H.size ≤ H1.size → (∀ q : Nat, q < H.size → ¬ A1 q → H1[q]? = H[q]?) → va_S A0 H0 H1 locs1 → W p l e R s m args below meth c H1 locs1 (cells + mc) (slots + ms) Q (F0 m (pc + 3) ls (.long r :: rest))) : W p l e R s m args below meth c H locs cells slots Q (F0 m pc ls st0) := by
  intro T hT X
  rcases hr T hT X with ⟨v, st₀, t, T', L, h0, X', hL, e1, e2, ⟨⟨r, u, hv, hp, hb⟩, hF⟩, st⟩ | ⟨q, st₀, t, T', L, E, ce, h0, X', hL, e1, e2, ⟨u, hp, hb, hF⟩, hce, hcv, hcl, st⟩
  · cases hv
    obtain ⟨k1, k2, k3⟩ := vx_keep h0 e1 hS hA hf hL hF
    obtain ⟨t2, a1, b1⟩ := kk r u t T'.heap (locs ++ L) e1.symm (by rw [← e2]; exact X'.warmed.alike) hp hb k1 k2 k3 T' rfl X'
    exact ⟨t2, st t2 a1, b1⟩
  · obtain ⟨k1, k2, k3⟩ := vx_keep h0 e1 hS hAX hf hL hF
    obtain ⟨t2, a1, b1⟩ := kx E ce q u t T'.heap (locs ++ L) e1.symm (by rw [← e2]; exact X'.warmed.alike) hp hb k1 k2 k3 (by rw [e1]; exact hce) hcv hcl T' rfl X'
    exact ⟨t2, st.trans a1, b1⟩
theorem vx_callf {S SX : Type} {post : UInt32 → S → Prop} {px : SX → Prop} {B : S → State → Prop} {BX : String → SX → State → Prop} {AX : Nat → Prop} (hr : vx_Run p l e R s m args below meth c H locs cells slots mc ms (F0 m pc ls st0) rest (va_Qf post B A1 a) (vx_X px BX AX) free) (hS : va_S A0 H0 H locs) (hA : ∀ q, q < H.size → A1 q → A0 q) (hf : ∀ q, free q → A0 q) (hAX : ∀ q, q < H.size → AX q → A0 q)
    (kx : ∀ (E : String) (ce : Cell) (q9 : Addr) (u : SX) (t : State) (H1 : Heap) (locs1 : List Loc), t.heap = H1 → s.vm.Alike t.vm → px u → BX E u t → H.size ≤ H1.size → (∀ q : Nat, q < H.size → ¬ AX q → H1[q]? = H[q]?) → va_S A0 H0 H1 locs1 → H1[q9]? = some ce → ce.vm = .none → s.vm.findClass E = some ce.cls → vx_W p l e R s m args below meth c H1 locs1 (cells + mc) (slots + ms) Q (F0 m pc ls rest) q9)
    (kk : ∀ (r : UInt32) (u : S) (t : State) (H1 : Heap) (locs1 : List Loc), t.heap = H1 → s.vm.Alike t.vm → post r u → B u t → H.size ≤ H1.size → (∀ q : Nat, q < H.size → ¬ A1 q → H1[q]? = H[q]?) → va_S A0 H0 H1 locs1 → W p l e R s m args below meth c H1 locs1 (cells + mc) (slots + ms) Q (F0 m (pc + 3) ls (.float r :: rest))) : W p l e R s m args below meth c H locs cells slots Q (F0 m pc ls st0) := by
  intro T hT X
  rcases hr T hT X with ⟨v, st₀, t, T', L, h0, X', hL, e1, e2, ⟨⟨r, u, hv, hp, hb⟩, hF⟩, st⟩ | ⟨q, st₀, t, T', L, E, ce, h0, X', hL, e1, e2, ⟨u, hp, hb, hF⟩, hce, hcv, hcl, st⟩
  · cases hv
    obtain ⟨k1, k2, k3⟩ := vx_keep h0 e1 hS hA hf hL hF
    obtain ⟨t2, a1, b1⟩ := kk r u t T'.heap (locs ++ L) e1.symm (by rw [← e2]; exact X'.warmed.alike) hp hb k1 k2 k3 T' rfl X'
    exact ⟨t2, st t2 a1, b1⟩
  · obtain ⟨k1, k2, k3⟩ := vx_keep h0 e1 hS hAX hf hL hF
    obtain ⟨t2, a1, b1⟩ := kx E ce q u t T'.heap (locs ++ L) e1.symm (by rw [← e2]; exact X'.warmed.alike) hp hb k1 k2 k3 (by rw [e1]; exact hce) hcv hcl T' rfl X'
    exact ⟨t2, st.trans a1, b1⟩
theorem vx_calld {S SX : Type} {post : UInt64 → S → Prop} {px : SX → Prop} {B : S → State → Prop} {BX : String → SX → State → Prop} {AX : Nat → Prop} (hr : vx_Run p l e R s m args below meth c H locs cells slots mc ms (F0 m pc ls st0) rest (va_Qd post B A1 a) (vx_X px BX AX) free) (hS : va_S A0 H0 H locs) (hA : ∀ q, q < H.size → A1 q → A0 q) (hf : ∀ q, free q → A0 q) (hAX : ∀ q, q < H.size → AX q → A0 q)
    (kx : ∀ (E : String) (ce : Cell) (q9 : Addr) (u : SX) (t : State) (H1 : Heap) (locs1 : List Loc), t.heap = H1 → s.vm.Alike t.vm → px u → BX E u t → H.size ≤ H1.size → (∀ q : Nat, q < H.size → ¬ AX q → H1[q]? = H[q]?) → va_S A0 H0 H1 locs1 → H1[q9]? = some ce → ce.vm = .none → s.vm.findClass E = some ce.cls → vx_W p l e R s m args below meth c H1 locs1 (cells + mc) (slots + ms) Q (F0 m pc ls rest) q9)
    (kk : ∀ (r : UInt64) (u : S) (t : State) (H1 : Heap) (locs1 : List Loc), t.heap = H1 → s.vm.Alike t.vm → post r u → B u t → H.size ≤ H1.size → (∀ q : Nat, q < H.size → ¬ A1 q → H1[q]? = H[q]?) → va_S A0 H0 H1 locs1 → W p l e R s m args below meth c H1 locs1 (cells + mc) (slots + ms) Q (F0 m (pc + 3) ls (.double r :: rest))) : W p l e R s m args below meth c H locs cells slots Q (F0 m pc ls st0) := by
  intro T hT X
  rcases hr T hT X with ⟨v, st₀, t, T', L, h0, X', hL, e1, e2, ⟨⟨r, u, hv, hp, hb⟩, hF⟩, st⟩ | ⟨q, st₀, t, T', L, E, ce, h0, X', hL, e1, e2, ⟨u, hp, hb, hF⟩, hce, hcv, hcl, st⟩
  · cases hv
    obtain ⟨k1, k2, k3⟩ := vx_keep h0 e1 hS hA hf hL hF
    obtain ⟨t2, a1, b1⟩ := kk r u t T'.heap (locs ++ L) e1.symm (by rw [← e2]; exact X'.warmed.alike) hp hb k1 k2 k3 T' rfl X'
    exact ⟨t2, st t2 a1, b1⟩
  · obtain ⟨k1, k2, k3⟩ := vx_keep h0 e1 hS hAX hf hL hF
    obtain ⟨t2, a1, b1⟩ := kx E ce q u t T'.heap (locs ++ L) e1.symm (by rw [← e2]; exact X'.warmed.alike) hp hb k1 k2 k3 (by rw [e1]; exact hce) hcv hcl T' rfl X'
    exact ⟨t2, st.trans a1, b1⟩
theorem vx_callv {S SX : Type} {post : S → Prop} {px : SX → Prop} {B : S → State → Prop} {BX : String → SX → State → Prop} {AX : Nat → Prop} (hr : vx_Run p l e R s m args below meth c H locs cells slots mc ms (F0 m pc ls st0) rest (va_Qv post B A1 a) (vx_X px BX AX) free) (hS : va_S A0 H0 H locs) (hA : ∀ q, q < H.size → A1 q → A0 q) (hf : ∀ q, free q → A0 q) (hAX : ∀ q, q < H.size → AX q → A0 q)
    (kx : ∀ (E : String) (ce : Cell) (q9 : Addr) (u : SX) (t : State) (H1 : Heap) (locs1 : List Loc), t.heap = H1 → s.vm.Alike t.vm → px u → BX E u t → H.size ≤ H1.size → (∀ q : Nat, q < H.size → ¬ AX q → H1[q]? = H[q]?) → va_S A0 H0 H1 locs1 → H1[q9]? = some ce → ce.vm = .none → s.vm.findClass E = some ce.cls → vx_W p l e R s m args below meth c H1 locs1 (cells + mc) (slots + ms) Q (F0 m pc ls rest) q9)
    (kk : ∀ (u : S) (t : State) (H1 : Heap) (locs1 : List Loc), t.heap = H1 → s.vm.Alike t.vm → post u → B u t → H.size ≤ H1.size → (∀ q : Nat, q < H.size → ¬ A1 q → H1[q]? = H[q]?) → va_S A0 H0 H1 locs1 → W p l e R s m args below meth c H1 locs1 (cells + mc) (slots + ms) Q (F0 m (pc + 3) ls (rest))) : W p l e R s m args below meth c H locs cells slots Q (F0 m pc ls st0) := by
  intro T hT X
  rcases hr T hT X with ⟨v, st₀, t, T', L, h0, X', hL, e1, e2, ⟨⟨u, hv, hp, hb⟩, hF⟩, st⟩ | ⟨q, st₀, t, T', L, E, ce, h0, X', hL, e1, e2, ⟨u, hp, hb, hF⟩, hce, hcv, hcl, st⟩
  · cases hv
    obtain ⟨k1, k2, k3⟩ := vx_keep h0 e1 hS hA hf hL hF
    obtain ⟨t2, a1, b1⟩ := kk u t T'.heap (locs ++ L) e1.symm (by rw [← e2]; exact X'.warmed.alike) hp hb k1 k2 k3 T' rfl X'
    exact ⟨t2, st t2 a1, b1⟩
  · obtain ⟨k1, k2, k3⟩ := vx_keep h0 e1 hS hAX hf hL hF
    obtain ⟨t2, a1, b1⟩ := kx E ce q u t T'.heap (locs ++ L) e1.symm (by rw [← e2]; exact X'.warmed.alike) hp hb k1 k2 k3 (by rw [e1]; exact hce) hcv hcl T' rfl X'
    exact ⟨t2, st.trans a1, b1⟩
/-- caught by the row x of this method's table; the rows ahead don't take it -/
theorem vx_catch {own name : String} {E : String} {ce : Cell} {q : Addr} (hown : s.vm.findClass own = some m.cls) (pre : List ExceptionTableEntry) (x : ExceptionTableEntry) (suf : List ExceptionTableEntry) (hsplit : c.exceptionTable.toList = pre ++ x :: suf)
    (hpass : ∀ z ∈ pre, covers z pc = false ∨ (z.catchType ≠ 0 ∧ ∃ nm : String, (Cond.classLink own z.catchType nm).before args s = true ∧ va_Nc E nm s)) (hx : covers x pc = true) (h0 : x.catchType ≠ 0)
    (hlink : (Cond.classLink own x.catchType name).before args s = true) (hcast : (Cond.castable E name).before args s = true) (hcell : H[q]? = some ce) (hv : ce.vm = .none) (hcl : s.vm.findClass E = some ce.cls)
    (kk : W p l e R s m args below meth c H locs cells slots Q (F0 m x.handlerPc ls [.ref q])) : vx_W p l e R s m args below meth c H locs cells slots Q (F0 m pc ls rest) q := by
  intro T hT X
  have hpl : e.platform.magicAccessors = ({} : Platform).magicAccessors := by rw [X.admits.platform]
  obtain ⟨c3, c4, hc3, hc4, hasg⟩ := Cond.castable_spec hcast
  cases Option.some.inj (hc3.symm.trans hcl)
  obtain ⟨c5, hc5, hcl5⟩ := Cond.classLink_spec hown hlink e.platform hpl
  cases Option.some.inj (hc4.symm.trans hc5)
  obtain ⟨vm', X', st⟩ := X.thenCaughtThrough q (g := F0 m pc ls rest) rfl (Steps.refl _) (by rw [hT]; exact hcell) (by rw [hv]; rfl) (by obtain ⟨k9, h9, -⟩ := Vm.findClass_spec hcl; exact ⟨k9, h9⟩) pre x suf hsplit
    (fun z hz => by
      rcases hpass z hz with h | ⟨hz0, nm, hl1, hn1⟩
      · exact Or.inl h
      · obtain ⟨c6, hc6, hcl6⟩ := Cond.classLink_spec hown hl1 e.platform hpl
        obtain ⟨a8, b8, h1, h2, h3⟩ := hn1
        cases Option.some.inj (h1.symm.trans hcl)
        cases Option.some.inj (h2.symm.trans hc6)
        exact Or.inr ⟨hz0, _, hcl6, h3⟩) hx (Or.inr ⟨h0, c4, hcl5, hasg⟩)
  obtain ⟨t, a1, b1⟩ := kk (T.setVm vm') hT X'
  exact ⟨t, st.trans a1, b1⟩
end Rows
section Ends
variable {p : Program} {l : Launch} {e : Env} {R : Room} {s : State} {m : MethodId} {args : Array Value} {below : List Frame} {meth : Method} {c : Code} {H : Heap} {locs : List Loc} {cells slots : Nat} {Q : State → Prop}
variable {mc ms : Nat} {free : Addr → Prop} {A0 A1 : Nat → Prop} {H0 : Heap} {a : Array Value} {ls : Array Slot} {st0 rest : List Value}
variable {Qc : Array Value → State → Outcome → State → Prop} {XC : String → State → State → Prop}
/-- what a body that may throw owes at its end -/
def vx_MQ (below : List Frame) (Qc : Array Value → State → Outcome → State → Prop) (XC : String → State → State → Prop) (a : Array Value) (s : State) (mc ms : Nat) (free : Addr → Prop) : State → Prop := fun t =>
  ∃ o, t.status = .running ∧ Ended t below o ∧ vx_Q Qc XC mc ms free a s o t
theorem vx_ret {g : JFrame} {mc ms : Nat} (k : W p l e R s m args below meth c H locs cells slots (MQ below Qc args s mc ms free) g) : W p l e R s m args below meth c H locs cells slots (vx_MQ below Qc XC args s mc ms free) g := by
  intro T hT X
  obtain ⟨t, a1, o, b1, b2, b3, b4⟩ := k T hT X
  exact ⟨t, a1, o, b1, b2, Or.inl ⟨b3, b4⟩⟩
/-- not caught here: it goes on to the caller -/
theorem vx_widen {g : JFrame} {q : Addr} {k n : Nat} (h1 : cells ≤ k) (h2 : slots ≤ n) (kk : vx_W p l e R s m args below meth c H locs k n Q g q) : vx_W p l e R s m args below meth c H locs cells slots Q g q := fun T hT X => kk T hT (stand_widen X h1 h2)
theorem vx_out {pc : Nat} {E : String} {ce : Cell} {q : Addr} {mc ms : Nat} (hout : ∀ x ∈ c.exceptionTable.toList, covers x pc = false) (hlocks : meth.locks = false) (hcell : H[q]? = some ce) (hv : ce.vm = .none) (hcl : s.vm.findClass E = some ce.cls)
    (hx : ∀ t : State, t.heap = H → s.vm.Alike t.vm → XC E s t) (hf : ∀ z ∈ locs, free z.base) (hc : cells ≤ mc) (hs : slots ≤ ms) :
    vx_W p l e R s m args below meth c H locs cells slots (vx_MQ below Qc XC args s mc ms free) (F0 m pc ls rest) q := by
  intro T hT X
  obtain ⟨st1, hrun, hend, hW, hsm⟩ := X.leaveThrown q (g := F0 m pc ls rest) rfl rfl rfl hout hlocks
  have hcell9 : (T.setFrames (.throwing q :: below)).heap[q]? = some ce := by
    show T.heap[q]? = some ce
    rw [hT]; exact hcell
  exact ⟨_, st1, .threw q, hrun, hend, Or.inr ⟨q, rfl, E, ce, locs, hx _ hT hW.alike, hcell9, hv, hcl, hW, hsm.mono hc hs, hf⟩⟩
theorem vx_frame {U : State} {k n : Nat} (h : s.sameButNew ({ U with vm := s.vm } : State) locs k n) : s.heap.size ≤ U.heap.size ∧ ∀ q : Nat, q < s.heap.size → (∀ z ∈ locs, z.base ≠ q) → U.heap[q]? = s.heap[q]? := by
  obtain ⟨-, h2, -, -, -, h6⟩ := h
  refine ⟨h2, fun q hq hz => ?_⟩
  obtain ⟨c9, e1, e2, e3, e4⟩ := h6 q _ (Array.getElem?_eq_getElem hq)
  have hs : c9.slots = (s.heap[q]).slots := Array.ext_getElem? fun i => e4 i fun hm => hz _ hm rfl
  have h9 : c9 = s.heap[q] := by
    rw [hs] at e2
    exact e2
  have e5 : U.heap[q]? = some c9 := e1
  rw [e5, h9, Array.getElem?_eq_getElem hq]
/-- the words of a throw but the four that speak of the heap -/
def vx_no (w : Cond) : Bool := decide (w ≠ .isRef (.static Bundle.tN "UNASSIGNED_STACK" Bundle.steD)) && decide (w ≠ .isRef (.static Bundle.tN "SUPPRESSED_SENTINEL" Bundle.listD)) && decide (w ≠ .laysStatic Bundle.tN "UNASSIGNED_STACK" Bundle.steD) && decide (w ≠ .laysStatic Bundle.tN "SUPPRESSED_SENTINEL" Bundle.listD)
def vx_at0 (own : String) (ic : Nat) (X : String) (names : List String) : List Cond := (Bundle.ownAtoms0 own ic X names).filter vx_no
def vx_atS (own : String) (ic : Nat) (X : String) (names : List String) : List Cond := (Bundle.ownAtoms own ic X names).filter vx_no
/-- a word that the tables alone decide, or a good one -/
def vx_ot (w : Cond) : Bool := w.onTables || goodWord w
theorem vx_ot_at {args a' : Array Value} {s U : State} {w : Cond} (hW : s.WarmedH U.vm) (hvm : s.vm = U.vm) (hg : vx_ot w = true) (h : w.before args s = true) : w.before a' U = true := by
  simp only [vx_ot, Bool.or_eq_true] at hg
  rcases hg with hg | hg
  · exact va_tabs hg hvm h
  · exact word_at hW (good_of_word hg) h
/-- a list's words: the good ones out of the method's own list, the others by premises of their own -/
theorem vx_hat {args : Array Value} {s : State} {L B : List Cond} (h1 : ∀ w ∈ L.filter goodWord, w.before args s = true) (h2 : ∀ w ∈ L.filter (fun w => !goodWord w), w ∈ B) (h3 : ∀ w ∈ B, w.before args s = true) : ∀ w ∈ L, w.before args s = true := by
  intro w hw
  by_cases g : goodWord w = true
  · exact h1 w (List.mem_filter.mpr ⟨hw, g⟩)
  · refine h3 w (h2 w (List.mem_filter.mpr ⟨hw, ?_⟩))
    show (!goodWord w) = true
    cases hgw : goodWord w
    · rfl
    · exact absurd hgw g
theorem vx_c {args : Array Value} {s : State} {w : Cond} {B : List Cond} (h : w.before args s = true) (t : ∀ w ∈ B, w.before args s = true) : ∀ w' ∈ w :: B, w'.before args s = true := fun w' h' => (List.mem_cons.mp h').elim (fun e => by rw [e]; exact h) (t w')
theorem vx_n {args : Array Value} {s : State} : ∀ w ∈ ([] : List Cond), w.before args s = true := fun _ h => nomatch h
theorem vx_own {args : Array Value} {s : State} {L : List Cond} (h1 : ∀ w ∈ L.filter vx_no, w.before args s = true)
    (hU : (Cond.isRef (.static Bundle.tN "UNASSIGNED_STACK" Bundle.steD)).before args s = true) (hN : (Cond.isRef (.static Bundle.tN "SUPPRESSED_SENTINEL" Bundle.listD)).before args s = true)
    (lU : (Cond.laysStatic Bundle.tN "UNASSIGNED_STACK" Bundle.steD).before args s = true) (lN : (Cond.laysStatic Bundle.tN "SUPPRESSED_SENTINEL" Bundle.listD).before args s = true) : ∀ w ∈ L, w.before args s = true := by
  intro w hw
  by_cases e1 : w = .isRef (.static Bundle.tN "UNASSIGNED_STACK" Bundle.steD)
  · rw [e1]; exact hU
  · by_cases e2 : w = .isRef (.static Bundle.tN "SUPPRESSED_SENTINEL" Bundle.listD)
    · rw [e2]; exact hN
    · by_cases e3 : w = .laysStatic Bundle.tN "UNASSIGNED_STACK" Bundle.steD
      · rw [e3]; exact lU
      · by_cases e4 : w = .laysStatic Bundle.tN "SUPPRESSED_SENTINEL" Bundle.listD
        · rw [e4]; exact lN
        · exact h1 w (List.mem_filter.mpr ⟨hw, by unfold vx_no; rw [decide_eq_true e1, decide_eq_true e2, decide_eq_true e3, decide_eq_true e4]; rfl⟩)
/-- where a static field lies, its class's statics cell in H -/
def vx_L (C n d : String) (A : Nat → Prop) (U : State) (H : Heap) : Prop := ∃ (c : ClassId) (k : Class) (i : Nat) (f : Field) (a : Nat) (cell : Cell), U.vm.findClass C = some c ∧ U.fieldFound? C n d = some (c, k, i, f) ∧ f.isStatic = true ∧ k.statics = some a ∧ H[a]? = some cell ∧ cell.vm.isStatics = true ∧ cell.cls = c ∧ f.slot < cell.slots.size ∧ k.staticTypes[f.slot]? = some f.type ∧ ¬ A a
theorem vx_L.moved {C n d : String} {A : Nat → Prop} {u U : State} {H : Heap} (hvm : u.vm.Alike U.vm) (h : vx_L C n d A u H) : vx_L C n d A U H := by
  obtain ⟨c, k, i, f, a, cell, h1, h2, h3, h4, h5, h6, h7, h8, h9, h10⟩ := h
  obtain ⟨k', hi', he⟩ := State.fieldFound?_setVm hvm h2
  exact ⟨c, k', i, f, a, cell, by rw [hvm.findClass]; exact h1, hi', h3, by rw [he]; exact h4, h5, h6, h7, h8, by rw [he]; exact h9, h10⟩
theorem vx_L.kept {C n d : String} {A : Nat → Prop} {U : State} {H H1 : Heap} (h : vx_L C n d A U H) (hq : ∀ a : Nat, a < H.size → ¬ A a → H1[a]? = H[a]?) : vx_L C n d A U H1 := by
  obtain ⟨c, k, i, f, a, cell, h1, h2, h3, h4, h5, h6, h7, h8, h9, h10⟩ := h
  exact ⟨c, k, i, f, a, cell, h1, h2, h3, h4, by rw [hq a (Array.getElem?_eq_some_iff.mp h5).1 h10]; exact h5, h6, h7, h8, h9, h10⟩
theorem vx_L.narrow {C n d : String} {A B : Nat → Prop} {U : State} {H : Heap} (h : vx_L C n d A U H) (hAB : ∀ q, B q → A q) : vx_L C n d B U H := by
  obtain ⟨c, k, i, f, a, cell, h1, h2, h3, h4, h5, h6, h7, h8, h9, h10⟩ := h
  exact ⟨c, k, i, f, a, cell, h1, h2, h3, h4, h5, h6, h7, h8, h9, fun z => h10 (hAB _ z)⟩
theorem vx_L.word {C n d : String} {A : Nat → Prop} {s : State} {args : Array Value} (h : vx_L C n d A s s.heap) : (Cond.laysStatic C n d).before args s = true := by
  obtain ⟨c, k, i, f, a, cell, h1, h2, h3, h4, h5, h6, h7, h8, h9, -⟩ := h
  show (Cond.laysStatic C n d).holds args s none s [] = true
  exact Cond.laysStatic_of h1 h2 h3 h4 h5 h6 h7 h8 h9
/-- .. and what it holds: null or some reference -/
def vx_Zq (C n d : String) (A : Nat → Prop) (U : State) (H : Heap) : Prop := va_Zq C n d A U H ∧ vx_L C n d A U H
theorem vx_Zq.moved {C n d : String} {A : Nat → Prop} {u U : State} {H : Heap} (hvm : u.vm.Alike U.vm) (h : vx_Zq C n d A u H) : vx_Zq C n d A U H := ⟨va_Zq.moved hvm h.1, vx_L.moved hvm h.2⟩
theorem vx_Zq.kept {C n d : String} {A : Nat → Prop} {U : State} {H H1 : Heap} (h : vx_Zq C n d A U H) (hq : ∀ a : Nat, a < H.size → ¬ A a → H1[a]? = H[a]?) : vx_Zq C n d A U H1 := ⟨va_Zq.kept h.1 hq, vx_L.kept h.2 hq⟩
theorem vx_Zq.narrow {C n d : String} {A B : Nat → Prop} {U : State} {H : Heap} (h : vx_Zq C n d A U H) (hAB : ∀ q, B q → A q) : vx_Zq C n d B U H := ⟨va_Zq.narrow h.1 hAB, vx_L.narrow h.2 hAB⟩
theorem vx_Zqof {args : Array Value} {s : State} {C n d : String} {A : Nat → Prop} (hl : (Cond.laysStatic C n d).before args s = true) (hini : (Cond.initialized C).before args s = true) (h : (Cond.isRef (.static C n d)).before args s = true) (hA : ∀ a : Nat, a < s.heap.size → ¬ A a) : vx_Zq C n d A s s.heap := by
  refine ⟨va_Zqof hl hini h hA, ?_⟩
  obtain ⟨c, k, i, f, a, cell, h1, h2, h3, h4, h5, h6, h7, h8, h9⟩ := Cond.laysStatic_spec hl
  exact ⟨c, k, i, f, a, cell, h1, h2, h3, h4, h5, h6, h7, h8, h9, hA a (Array.getElem?_eq_some_iff.mp h5).1⟩
theorem vx_isRef {C n d : String} {v : Value} {A : Nat → Prop} {s : State} {args : Array Value} (h : va_Z C n d v A s s.heap) (hv : v.isRef = true) : (Cond.isRef (.static C n d)).before args s = true := by
  obtain ⟨cf, kf, fi, f, a, cell, h1, h2, h3, h4, h5, h6, h7, -⟩ := h
  have he : (Term.static C n d).eval args s none [] s = some v := by
    simp [Term.eval, State.fieldNamed?, h1, h2, h4, h5, h6, h7]
  simp only [Cond.before, Cond.holds, Cond.value, he]
  cases v <;> simp_all [Value.isRef]
theorem vx_isRefq {C n d : String} {A : Nat → Prop} {s : State} {args : Array Value} (h : va_Zq C n d A s s.heap) : (Cond.isRef (.static C n d)).before args s = true := by
  rcases h with h | ⟨t, h⟩
  · exact vx_isRef h rfl
  · exact vx_isRef h rfl
/-- the same frame, seen from here: as if the method were called anew in this heap -/
theorem vx_rebase {T : State} (X : Stand p l e R s m args below meth c T locs cells slots) {R' : Room} (hf : R'.frames ≤ R.frames) (hl : R'.locals ≤ R.locals) (hc : cells + R'.cells ≤ R.cells) (hs : slots + R'.slots ≤ R.slots) :
    Stand p l e R' ((T.setVm s.vm).setFrames (.invoking m args :: below)) m args below meth c T [] 0 0 := by
  have htop : (T.setVm s.vm).topJava?.isSome := X.here.top
  have hF : ((T.setVm s.vm).setFrames (.invoking m args :: below)).frames = .invoking m args :: below := State.frames_setFrames _ (State.cur_lt_of_top htop)
  obtain ⟨g₀, hg0⟩ := Option.isSome_iff_exists.mp htop
  obtain ⟨r, hr⟩ := State.topJava?_eq_some.mp hg0
  have hl9 : e.platform.stackLimits (T.setVm s.vm).me = e.platform.stackLimits s.me := X.limits
  have hb9 : (T.setVm s.vm).me.stackBytes = s.me.stackBytes := X.bytes
  refine ⟨X.admits, X.cas, X.clock, hF, ?_, X.hears, X.method, X.code, X.here, X.tail, X.warmed, ?_, ?_, ?_⟩
  · have h := X.room
    have hU : ((T.setVm s.vm).setFrames (.invoking m args :: below)).localsInUse = s.localsInUse := by
      rw [State.localsInUse_invoking hF (meth := meth) (c := c) X.method X.code, State.localsInUse_invoking X.frames X.method X.code]
    simp only [State.hasRoom, Bool.and_eq_true, decide_eq_true_eq] at h ⊢
    obtain ⟨⟨⟨⟨h1, h2, h3, h4, h5, h6⟩, h7⟩, h8⟩, h9⟩ := h
    rw [X.frames, List.length_cons] at h2 h3
    have q1 := X.heapSize
    have q2 := X.used
    simp only [hF, hU, List.length_cons, State.stackLimits_setFrames, State.stackBytes_setFrames, hl9, hb9]
    refine ⟨⟨⟨⟨by omega, by omega, by omega, by omega, by omega, h6⟩, ?_⟩, ?_⟩, X.book⟩
    · show T.heap.size + R'.cells ≤ e.platform.maxCells
      omega
    · show T.slotsUsed + R'.slots ≤ e.platform.maxSlots
      omega
  · rw [State.stackLimits_setFrames]; rfl
  · rw [State.stackBytes_setFrames]; rfl
  · refine ⟨?_, Nat.le_refl _, Nat.le_refl _, ?_, ?_, fun a c9 h9 => ⟨c9, h9, rfl, rfl, fun _ _ => rfl⟩⟩
    · obtain ⟨t, ht, -⟩ := State.frames_cons hr
      show T.setVm s.vm = { ((T.setVm s.vm).setFrames (.invoking m args :: below)).setFrames (T.setVm s.vm).frames with heap := T.heap, slotsUsed := T.slotsUsed }
      rw [State.setFrames_setFrames, State.setFrames_self ht]
      rfl
    · show T.slotsUsed = T.slotsUsed + ((T.heap.toList.drop T.heap.size).map (·.slots.size)).sum
      rw [List.drop_eq_nil_of_le (Nat.le_of_eq Array.length_toList)]
      rfl
    · show ((T.heap.toList.drop T.heap.size).map (·.slots.size)).sum ≤ 0
      rw [List.drop_eq_nil_of_le (Nat.le_of_eq Array.length_toList)]
      exact Nat.le_refl _
/-- 'throw new E()': new; dup; invokespecial; athrow -/
theorem vx_throw0 {cc : ByteArray} {pc : Nat} (hexec : p.tables.exec = Jvm.exec) (hb : c.code = cc) (hl : l.stackTraces = false) {own cls : String} {names : List String} {ik ic mc ms : Nat} {A : Nat → Prop}
    (hown : s.vm.findClass own = some m.cls) (hcls : Bundle.fit cls = true) (hnames : ∀ n ∈ names, Bundle.fit n = true)
    (hk : (Cond.classLink own ik cls).before args s = true) (hini : (Cond.initialized cls).before args s = true) (hat : ∀ w ∈ vx_at0 own ic cls names, w.before args s = true)
    (hgood : ∀ w ∈ Cond.classLink own ik cls :: Cond.initialized cls :: vx_at0 own ic cls names, vx_ot w = true)
    (hU : vx_Zq Bundle.tN "UNASSIGNED_STACK" Bundle.steD A s s.heap) (hN : vx_Zq Bundle.tN "SUPPRESSED_SENTINEL" Bundle.listD A s s.heap) (hS : va_S A s.heap H locs) (hsize : ls.size = c.maxLocals)
    (d0 : decode cc pc = .ok (.new ik, 3)) (d3 : decode cc (pc + 3) = .ok (.dup, 1)) (d4 : decode cc (pc + 4) = .ok (.invokespecial ic, 3)) (d7 : decode cc (pc + 7) = .ok (.athrow, 1))
    (hout : ∀ x ∈ c.exceptionTable.toList, covers x (pc + 7) = false)
    (hRframes : names.length + 3 < R.frames) (hRlocals : (rest.map fun v => v.category).sum + (13 * (names.length + 1) + 42) ≤ R.locals) (hRcells : cells + 1 ≤ R.cells) (hRslots : slots + 6 ≤ R.slots) (hlocks : meth.locks = false)
    (hx : ∀ t : State, s.vm.Alike t.vm → H.size ≤ t.heap.size → (∀ q : Nat, q < H.size → t.heap[q]? = H[q]?) → XC cls s t)
    (hf : ∀ z ∈ locs, free z.base) (hc : cells + 1 ≤ mc) (hs : slots + 6 ≤ ms) :
    W p l e R s m args below meth c H locs cells slots (vx_MQ below Qc XC args s mc ms free) (F0 m pc ls rest) := by
  intro T hT X
  have htr : e.platform.stackTraces = false := (show e.platform.stackTraces = l.stackTraces by rw [X.admits.platform]).trans hl
  have Y := vx_rebase X (R' := { frames := R.frames, locals := R.locals, cells := 1, slots := 6 }) (Nat.le_refl _) (Nat.le_refl _) hRcells hRslots
  obtain ⟨s', hA⟩ : ∃ z, z = (T.setVm s.vm).setFrames (.invoking m args :: below) := ⟨_, rfl⟩
  rw [← hA] at Y
  have hvm : s'.vm = s.vm := by rw [hA]; rfl
  have hhp : s'.heap = H := by rw [hA]; exact hT
  have hW0 : s.WarmedH s'.vm := by rw [hvm]; exact State.WarmedH.refl s
  have hat' : ∀ w ∈ vx_at0 own ic cls names, w.before args s' = true := fun w hw => vx_ot_at hW0 hvm.symm (hgood w (List.mem_cons_of_mem _ (List.mem_cons_of_mem _ hw))) (hat w hw)
  have hk' : (Cond.classLink own ik cls).before args s' = true := vx_ot_at hW0 hvm.symm (hgood _ List.mem_cons_self) hk
  have hini' : (Cond.initialized cls).before args s' = true := vx_ot_at hW0 hvm.symm (hgood _ (List.mem_cons_of_mem _ List.mem_cons_self)) hini
  have hU' : vx_Zq Bundle.tN "UNASSIGNED_STACK" Bundle.steD A s' s'.heap := by rw [hhp]; exact vx_Zq.moved hW0.alike (hU.kept hS.2.1)
  have hN' : vx_Zq Bundle.tN "SUPPRESSED_SENTINEL" Bundle.listD A s' s'.heap := by rw [hhp]; exact vx_Zq.moved hW0.alike (hN.kept hS.2.1)
  have h : ∀ w ∈ Bundle.ownAtoms0 own ic cls names, w.before args s' = true := vx_own hat' (vx_isRefq hU'.1) (vx_isRefq hN'.1) hU'.2.word hN'.2.word
  have hown' : s'.vm.findClass own = some m.cls := by rw [hvm]; exact hown
  have hins : (Cond.instantiable cls 6).before args s' = true := h _ (by simp [Bundle.ownAtoms0])
  obtain ⟨vm₁, cX, kX, hfX, hkX, -, -, X₁, st1⟩ := Y.newCold hexec (own := own) (C := cls) (index := ik) (n := 6) hown' hk' hins hini'
    (g := F0 m pc ls rest) rfl (by rw [hb]; exact d0) (Nat.le_refl _) (Nat.le_refl _)
  generalize hT1 : (T.setVm vm₁).pushCell { cls := cX, slots := kX.instanceTypes.map defaultValue, vm := .none } = T1 at X₁ st1
  have hcat : (Value.ref T.heap.size).category = 1 := rfl
  have hcellA : T1.heap[T.heap.size]? = some (freshCell cX kX) := by rw [← hT1]; exact State.heap_pushCell_size _ _
  have d3' : decode c.code (pc + 3) = .ok (.dup, 1) := by rw [hb]; exact d3
  obtain ⟨U, hsteps, hrun, hend, hW, hsame, ce, hce, hO⟩ := X₁.ctorThrow0 hexec htr (own := own) (cls := cls) (names := names) (ic := ic) hown' hcls hnames h (fun x hx => nomatch hx) hfX hkX hcellA (by rw [hhp, hT]; exact Nat.le_refl _)
    (g := { method := m, pc := pc + 4, locals := ls, stack := .ref T.heap.size :: .ref T.heap.size :: rest, locked := none }) rfl hsize rfl rfl (rest := rest) rfl
    (by rw [hb]; exact d4) (by rw [hb]; exact d7) hout hRframes (by simp only [List.map_cons, List.sum_cons, hcat]; omega) hlocks
  obtain ⟨f1, f2⟩ := vx_frame hsame
  rw [hhp] at f1 f2
  have hWs : s.WarmedH U.vm := State.WarmedH.trans hW0 hW
  have hcl : s.vm.findClass cls = some ce.cls := by
    have h9 := hO.cls
    rw [hvm] at h9
    exact h9
  have hall : s.sameButNew ({ U with vm := s.vm } : State) locs mc ms := by
    subst hA
    obtain ⟨e1, e2⟩ := hsame
    rw [State.setFrames_setFrames] at e1
    have h2 : (T.setVm s.vm).sameButNew ({ U with vm := s.vm } : State) [] (0 + 1) (0 + 6) := ⟨e1, e2⟩
    have h3 := X.same.trans h2
    rw [List.append_nil] at h3
    exact h3.mono hc hs
  refine ⟨U, ?_, .threw T.heap.size, hrun, hend, Or.inr ⟨T.heap.size, rfl, cls, ce, locs, hx U hWs.alike f1 (fun q hq => f2 q hq (fun z hz => nomatch hz)), hce, hO.vm, hcl, hWs, hall, hf⟩⟩
  refine st1 _ ?_
  show Steps p.tables e below (T1.setTop { method := m, pc := pc + 3, locals := ls, stack := .ref T.heap.size :: rest, locked := none }) _
  jvm_step X₁.here [X₁.here.top, hexec, d3', Value.category]
  exact hsteps
/-- 'throw new E("text")': new; dup; ldc; invokespecial; athrow -/
theorem vx_throwS {cc : ByteArray} {pc : Nat} (hexec : p.tables.exec = Jvm.exec) (hb : c.code = cc) (hl : l.stackTraces = false) {own cls text : String} {names : List String} {ik is ic mc ms sa : Nat} {A : Nat → Prop}
    (hown : s.vm.findClass own = some m.cls) (hcls : Bundle.fit cls = true) (hnames : ∀ n ∈ names, Bundle.fit n = true)
    (hk : (Cond.classLink own ik cls).before args s = true) (hini : (Cond.initialized cls).before args s = true) (hstr : vk_R own is text sa s) (hat : ∀ w ∈ vx_atS own ic cls names, w.before args s = true)
    (hgood : ∀ w ∈ Cond.classLink own ik cls :: Cond.initialized cls :: vx_atS own ic cls names, vx_ot w = true)
    (hU : vx_Zq Bundle.tN "UNASSIGNED_STACK" Bundle.steD A s s.heap) (hN : vx_Zq Bundle.tN "SUPPRESSED_SENTINEL" Bundle.listD A s s.heap) (hS : va_S A s.heap H locs) (hsize : ls.size = c.maxLocals)
    (d0 : decode cc pc = .ok (.new ik, 3)) (d3 : decode cc (pc + 3) = .ok (.dup, 1)) (d4 : decode cc (pc + 4) = .ok (.ldc is, 2)) (d6 : decode cc (pc + 6) = .ok (.invokespecial ic, 3)) (d9 : decode cc (pc + 9) = .ok (.athrow, 1))
    (hout : ∀ x ∈ c.exceptionTable.toList, covers x (pc + 9) = false)
    (hRframes : names.length + 3 < R.frames) (hRlocals : (rest.map fun v => v.category).sum + (13 * (names.length + 1) + 43) ≤ R.locals) (hRcells : cells + 1 ≤ R.cells) (hRslots : slots + 6 ≤ R.slots) (hlocks : meth.locks = false)
    (hx : ∀ t : State, s.vm.Alike t.vm → H.size ≤ t.heap.size → (∀ q : Nat, q < H.size → t.heap[q]? = H[q]?) → XC cls s t)
    (hf : ∀ z ∈ locs, free z.base) (hc : cells + 1 ≤ mc) (hs : slots + 6 ≤ ms) :
    W p l e R s m args below meth c H locs cells slots (vx_MQ below Qc XC args s mc ms free) (F0 m pc ls rest) := by
  intro T hT X
  have htr : e.platform.stackTraces = false := (show e.platform.stackTraces = l.stackTraces by rw [X.admits.platform]).trans hl
  have Y := vx_rebase X (R' := { frames := R.frames, locals := R.locals, cells := 1, slots := 6 }) (Nat.le_refl _) (Nat.le_refl _) hRcells hRslots
  obtain ⟨s', hA⟩ : ∃ z, z = (T.setVm s.vm).setFrames (.invoking m args :: below) := ⟨_, rfl⟩
  rw [← hA] at Y
  have hvm : s'.vm = s.vm := by rw [hA]; rfl
  have hhp : s'.heap = H := by rw [hA]; exact hT
  have hW0 : s.WarmedH s'.vm := by rw [hvm]; exact State.WarmedH.refl s
  have hat' : ∀ w ∈ vx_atS own ic cls names, w.before args s' = true := fun w hw => vx_ot_at hW0 hvm.symm (hgood w (List.mem_cons_of_mem _ (List.mem_cons_of_mem _ hw))) (hat w hw)
  have hk' : (Cond.classLink own ik cls).before args s' = true := vx_ot_at hW0 hvm.symm (hgood _ List.mem_cons_self) hk
  have hini' : (Cond.initialized cls).before args s' = true := vx_ot_at hW0 hvm.symm (hgood _ (List.mem_cons_of_mem _ List.mem_cons_self)) hini
  have hU' : vx_Zq Bundle.tN "UNASSIGNED_STACK" Bundle.steD A s' s'.heap := by rw [hhp]; exact vx_Zq.moved hW0.alike (hU.kept hS.2.1)
  have hN' : vx_Zq Bundle.tN "SUPPRESSED_SENTINEL" Bundle.listD A s' s'.heap := by rw [hhp]; exact vx_Zq.moved hW0.alike (hN.kept hS.2.1)
  have h : ∀ w ∈ Bundle.ownAtoms own ic cls names, w.before args s' = true := vx_own hat' (vx_isRefq hU'.1) (vx_isRefq hN'.1) hU'.2.word hN'.2.word
  have hown' : s'.vm.findClass own = some m.cls := by rw [hvm]; exact hown
  have hins : (Cond.instantiable cls 6).before args s' = true := h _ (by simp [Bundle.ownAtoms])
  obtain ⟨vm₁, cX, kX, hfX, hkX, -, -, X₁, st1⟩ := Y.newCold hexec (own := own) (C := cls) (index := ik) (n := 6) hown' hk' hins hini'
    (g := F0 m pc ls rest) rfl (by rw [hb]; exact d0) (Nat.le_refl _) (Nat.le_refl _)
  generalize hT1 : (T.setVm vm₁).pushCell { cls := cX, slots := kX.instanceTypes.map defaultValue, vm := .none } = T1 at X₁ st1
  have hcat : (Value.ref T.heap.size).category = 1 := rfl
  have hcellA : T1.heap[T.heap.size]? = some (freshCell cX kX) := by rw [← hT1]; exact State.heap_pushCell_size _ _
  have d3' : decode c.code (pc + 3) = .ok (.dup, 1) := by rw [hb]; exact d3
  have d4' : decode c.code (pc + 4) = .ok (.ldc is, 2) := by rw [hb]; exact d4
  have hstr' : vk_R own is text sa s' := vk_R.warm hW0 hstr
  obtain ⟨U, hsteps, hrun, hend, hW, hsame, ce, hce, hO⟩ := X₁.ctorThrowS hexec htr (own := own) (cls := cls) (names := names) (ic := ic) hown' hcls hnames h (fun x hx => nomatch hx) hfX hkX hcellA (by rw [hhp, hT]; exact Nat.le_refl _) (msg := .ref sa) rfl
    (g := { method := m, pc := pc + 6, locals := ls, stack := .ref sa :: .ref T.heap.size :: .ref T.heap.size :: rest, locked := none }) rfl hsize rfl rfl (rest := rest) rfl
    (by rw [hb]; exact d6) (by rw [hb]; exact d9) hout hRframes (by simp only [List.map_cons, List.sum_cons, hcat]; omega) hlocks
  obtain ⟨f1, f2⟩ := vx_frame hsame
  rw [hhp] at f1 f2
  have hWs : s.WarmedH U.vm := State.WarmedH.trans hW0 hW
  have hcl : s.vm.findClass cls = some ce.cls := by
    have h9 := hO.cls
    rw [hvm] at h9
    exact h9
  have hall : s.sameButNew ({ U with vm := s.vm } : State) locs mc ms := by
    subst hA
    obtain ⟨e1, e2⟩ := hsame
    rw [State.setFrames_setFrames] at e1
    have h2 : (T.setVm s.vm).sameButNew ({ U with vm := s.vm } : State) [] (0 + 1) (0 + 6) := ⟨e1, e2⟩
    have h3 := X.same.trans h2
    rw [List.append_nil] at h3
    exact h3.mono hc hs
  refine ⟨U, ?_, .threw T.heap.size, hrun, hend, Or.inr ⟨T.heap.size, rfl, cls, ce, locs, hx U hWs.alike f1 (fun q hq => f2 q hq (fun z hz => nomatch hz)), hce, hO.vm, hcl, hWs, hall, hf⟩⟩
  refine st1 _ ?_
  show Steps p.tables e below (T1.setTop { method := m, pc := pc + 3, locals := ls, stack := .ref T.heap.size :: rest, locked := none }) _
  jvm_step X₁.here [X₁.here.top, hexec, d3', Value.category]
  exact X₁.ldcString hexec (own := own) (text := text) (index := is) (a := sa) hown' hstr'.1 hstr'.2
    (g := { method := m, pc := pc + 4, locals := ls, stack := .ref T.heap.size :: .ref T.heap.size :: rest, locked := none }) rfl d4' _ hsteps
/-- 'throw new E("text")', the text by a wide index -/
theorem vx_throwSW {cc : ByteArray} {pc : Nat} (hexec : p.tables.exec = Jvm.exec) (hb : c.code = cc) (hl : l.stackTraces = false) {own cls text : String} {names : List String} {ik is ic mc ms sa : Nat} {A : Nat → Prop}
    (hown : s.vm.findClass own = some m.cls) (hcls : Bundle.fit cls = true) (hnames : ∀ n ∈ names, Bundle.fit n = true)
    (hk : (Cond.classLink own ik cls).before args s = true) (hini : (Cond.initialized cls).before args s = true) (hstr : vk_R own is text sa s) (hat : ∀ w ∈ vx_atS own ic cls names, w.before args s = true)
    (hgood : ∀ w ∈ Cond.classLink own ik cls :: Cond.initialized cls :: vx_atS own ic cls names, vx_ot w = true)
    (hU : vx_Zq Bundle.tN "UNASSIGNED_STACK" Bundle.steD A s s.heap) (hN : vx_Zq Bundle.tN "SUPPRESSED_SENTINEL" Bundle.listD A s s.heap) (hS : va_S A s.heap H locs) (hsize : ls.size = c.maxLocals)
    (d0 : decode cc pc = .ok (.new ik, 3)) (d3 : decode cc (pc + 3) = .ok (.dup, 1)) (d4 : decode cc (pc + 4) = .ok (.ldc_w is, 3)) (d7 : decode cc (pc + 7) = .ok (.invokespecial ic, 3)) (d10 : decode cc (pc + 10) = .ok (.athrow, 1))
    (hout : ∀ x ∈ c.exceptionTable.toList, covers x (pc + 10) = false)
    (hRframes : names.length + 3 < R.frames) (hRlocals : (rest.map fun v => v.category).sum + (13 * (names.length + 1) + 43) ≤ R.locals) (hRcells : cells + 1 ≤ R.cells) (hRslots : slots + 6 ≤ R.slots) (hlocks : meth.locks = false)
    (hx : ∀ t : State, s.vm.Alike t.vm → H.size ≤ t.heap.size → (∀ q : Nat, q < H.size → t.heap[q]? = H[q]?) → XC cls s t)
    (hf : ∀ z ∈ locs, free z.base) (hc : cells + 1 ≤ mc) (hs : slots + 6 ≤ ms) :
    W p l e R s m args below meth c H locs cells slots (vx_MQ below Qc XC args s mc ms free) (F0 m pc ls rest) := by
  intro T hT X
  have htr : e.platform.stackTraces = false := (show e.platform.stackTraces = l.stackTraces by rw [X.admits.platform]).trans hl
  have Y := vx_rebase X (R' := { frames := R.frames, locals := R.locals, cells := 1, slots := 6 }) (Nat.le_refl _) (Nat.le_refl _) hRcells hRslots
  obtain ⟨s', hA⟩ : ∃ z, z = (T.setVm s.vm).setFrames (.invoking m args :: below) := ⟨_, rfl⟩
  rw [← hA] at Y
  have hvm : s'.vm = s.vm := by rw [hA]; rfl
  have hhp : s'.heap = H := by rw [hA]; exact hT
  have hW0 : s.WarmedH s'.vm := by rw [hvm]; exact State.WarmedH.refl s
  have hat' : ∀ w ∈ vx_atS own ic cls names, w.before args s' = true := fun w hw => vx_ot_at hW0 hvm.symm (hgood w (List.mem_cons_of_mem _ (List.mem_cons_of_mem _ hw))) (hat w hw)
  have hk' : (Cond.classLink own ik cls).before args s' = true := vx_ot_at hW0 hvm.symm (hgood _ List.mem_cons_self) hk
  have hini' : (Cond.initialized cls).before args s' = true := vx_ot_at hW0 hvm.symm (hgood _ (List.mem_cons_of_mem _ List.mem_cons_self)) hini
  have hU' : vx_Zq Bundle.tN "UNASSIGNED_STACK" Bundle.steD A s' s'.heap := by rw [hhp]; exact vx_Zq.moved hW0.alike (hU.kept hS.2.1)
  have hN' : vx_Zq Bundle.tN "SUPPRESSED_SENTINEL" Bundle.listD A s' s'.heap := by rw [hhp]; exact vx_Zq.moved hW0.alike (hN.kept hS.2.1)
  have h : ∀ w ∈ Bundle.ownAtoms own ic cls names, w.before args s' = true := vx_own hat' (vx_isRefq hU'.1) (vx_isRefq hN'.1) hU'.2.word hN'.2.word
  have hown' : s'.vm.findClass own = some m.cls := by rw [hvm]; exact hown
  have hins : (Cond.instantiable cls 6).before args s' = true := h _ (by simp [Bundle.ownAtoms])
  obtain ⟨vm₁, cX, kX, hfX, hkX, -, -, X₁, st1⟩ := Y.newCold hexec (own := own) (C := cls) (index := ik) (n := 6) hown' hk' hins hini'
    (g := F0 m pc ls rest) rfl (by rw [hb]; exact d0) (Nat.le_refl _) (Nat.le_refl _)
  generalize hT1 : (T.setVm vm₁).pushCell { cls := cX, slots := kX.instanceTypes.map defaultValue, vm := .none } = T1 at X₁ st1
  have hcat : (Value.ref T.heap.size).category = 1 := rfl
  have hcellA : T1.heap[T.heap.size]? = some (freshCell cX kX) := by rw [← hT1]; exact State.heap_pushCell_size _ _
  have d3' : decode c.code (pc + 3) = .ok (.dup, 1) := by rw [hb]; exact d3
  have d4' : decode c.code (pc + 4) = .ok (.ldc_w is, 3) := by rw [hb]; exact d4
  have hstr' : vk_R own is text sa s' := vk_R.warm hW0 hstr
  obtain ⟨U, hsteps, hrun, hend, hW, hsame, ce, hce, hO⟩ := X₁.ctorThrowS hexec htr (own := own) (cls := cls) (names := names) (ic := ic) hown' hcls hnames h (fun x hx => nomatch hx) hfX hkX hcellA (by rw [hhp, hT]; exact Nat.le_refl _) (msg := .ref sa) rfl
    (g := { method := m, pc := pc + 7, locals := ls, stack := .ref sa :: .ref T.heap.size :: .ref T.heap.size :: rest, locked := none }) rfl hsize rfl rfl (rest := rest) rfl
    (by rw [hb]; exact d7) (by rw [hb]; exact d10) hout hRframes (by simp only [List.map_cons, List.sum_cons, hcat]; omega) hlocks
  obtain ⟨f1, f2⟩ := vx_frame hsame
  rw [hhp] at f1 f2
  have hWs : s.WarmedH U.vm := State.WarmedH.trans hW0 hW
  have hcl : s.vm.findClass cls = some ce.cls := by
    have h9 := hO.cls
    rw [hvm] at h9
    exact h9
  have hall : s.sameButNew ({ U with vm := s.vm } : State) locs mc ms := by
    subst hA
    obtain ⟨e1, e2⟩ := hsame
    rw [State.setFrames_setFrames] at e1
    have h2 : (T.setVm s.vm).sameButNew ({ U with vm := s.vm } : State) [] (0 + 1) (0 + 6) := ⟨e1, e2⟩
    have h3 := X.same.trans h2
    rw [List.append_nil] at h3
    exact h3.mono hc hs
  refine ⟨U, ?_, .threw T.heap.size, hrun, hend, Or.inr ⟨T.heap.size, rfl, cls, ce, locs, hx U hWs.alike f1 (fun q hq => f2 q hq (fun z hz => nomatch hz)), hce, hO.vm, hcl, hWs, hall, hf⟩⟩
  refine st1 _ ?_
  show Steps p.tables e below (T1.setTop { method := m, pc := pc + 3, locals := ls, stack := .ref T.heap.size :: rest, locked := none }) _
  jvm_step X₁.here [X₁.here.top, hexec, d3', Value.category]
  exact X₁.ldcStringW hexec (own := own) (text := text) (index := is) (a := sa) hown' hstr'.1 hstr'.2
    (g := { method := m, pc := pc + 4, locals := ls, stack := .ref T.heap.size :: .ref T.heap.size :: rest, locked := none }) rfl d4' _ hsteps
end Ends
section Bodies
variable {l : Launch}
theorem vx_ofW {y : MethodName} {ws ws' : List Cond} {rm : Room} {Pc : Array Value → State → Prop} {Qc : Array Value → State → Outcome → State → Prop} {XC : String → State → State → Prop} {mc ms : Nat} {free : Addr → Prop} {cc : ByteArray} {maxL : Nat} {ret : Option FieldType}
    (hy : plainName y.cls = true) (hw : ws = Cond.code y cc maxL ret :: ws')
    (body : ∀ p e s m args below meth c s₁, BodyLoose p l y (headSpec ws rm) cc maxL ret e s m args below meth c s₁ → c.maxLocals = maxL → (∀ x ∈ c.exceptionTable.toList, False) → Pc args s →
      W p l e (headSpec ws rm).room s m args below meth c s.heap [] 0 0 (vx_MQ below Qc XC args s mc ms free) (entryFrame m args maxL)) : vx_Met l y ws rm Pc Qc XC mc ms free := by
  refine MetFree.of_bodyS (code := cc) (maxLocals := maxL) (ret := ret) hy ?_ ?_
  · intro args s m h hn
    obtain ⟨meth, c, h1, h2, h3, h4, h5, h6, -, -⟩ := Cond.code_spec hn (atoms_spec (ws := ws) h _ (by rw [hw]; exact List.mem_cons_self))
    exact ⟨meth, c, h1, h2, h3, h4, h5, h6⟩
  · intro p e s m args below meth c s₁ B hml hP _
    have hh0 : s₁.heap = s.heap := by rw [B.state]; rfl
    have ht : ∀ x ∈ c.exceptionTable.toList, False := by
      obtain ⟨meth9, c9, h1, h2, -, -, -, -, h7, -⟩ := Cond.code_spec B.named (atoms_spec (ws := ws) B.pre _ (by rw [hw]; exact List.mem_cons_self))
      cases Option.some.inj (h1.symm.trans B.method)
      cases Option.some.inj (h2.symm.trans (Stand.of_body B).code)
      intro x hx
      rw [Array.isEmpty_iff.mp h7] at hx
      cases hx
    obtain ⟨t, a1, o, b1, b2, b3⟩ := body p e s m args below meth c s₁ B hml ht hP s₁ hh0 (Stand.of_body B)
    exact ⟨t, o, a1, b1, b2, b3⟩
/-- the table of a body with handlers -/
theorem vx_table {p : Program} {x y : MethodName} {S : Spec} {cc bytes : ByteArray} {maxL maxL' : Nat} {ret ret' : Option FieldType} {e : Env} {s s₁ : State} {m : MethodId} {args : Array Value} {below : List Frame} {meth : Method} {c : Code} {hh : List (Nat × Nat × Nat × Nat)}
    (B : BodyLoose p l y S cc maxL ret e s m args below meth c s₁) (h : (Cond.codeWith y bytes maxL' ret' hh).before args s = true) : c.exceptionTable.toList = tableOf hh := by
  obtain ⟨m9, meth9, c9, hn9, h1, h2, -, -, h6, -⟩ := Cond.codeWith_spec h
  cases Option.some.inj (hn9.symm.trans B.named)
  cases Option.some.inj (h1.symm.trans B.method)
  cases Option.some.inj (h2.symm.trans (Stand.of_body B).code)
  rw [← h6, table_eq]
end Bodies
end VXA
/-! ===== END ===== -/
/-! ===== BEGIN a static call of a method with an exception table ===== -/
section VXS
variable {p : Program} {l : Launch} {e : Env} {R : Room} {s : State} {m : MethodId} {args : Array Value} {below : List Frame} {meth : Method} {c : Code} {T : State} {H : Heap} {locs : List Loc} {cells slots : Nat}
abbrev vx_CSW (R : Room) (s : State) (args : Array Value) (own : String) (index : Nat) (y : MethodName) (bytes : ByteArray) (maxL : Nat) (ret : Option FieldType) (hh : List (Nat × Nat × Nat × Nat)) (ws : List Cond) (rm : Room) (mc ms n : Nat) : Prop :=
  (rm.cells = mc ∧ rm.slots = ms ∧ rm.frames + 1 ≤ R.frames ∧ 8 + (maxL + 11) + rm.locals ≤ R.locals ∧ (∀ w ∈ ws, ∀ (a' : Array Value) (U : State), s.WarmedH U.vm → w.before a' U = true) ∧ Cond.codeWith y bytes maxL ret hh ∈ ws) ∧
  (Cond.codeWith y bytes maxL ret hh).before args s = true ∧ (Cond.initialized y.cls).before args s = true ∧ (y.cls ≠ "java/lang/invoke/MethodHandle" ∧ y.cls ≠ "java/lang/invoke/VarHandle") ∧
  (∀ sig, parseMethodDescriptor y.desc = some sig → n = sig.parameters.length) ∧ (Cond.methodLink own index y).before args s = true ∧ (Cond.static y).before args s = true
theorem vx_cwSW {own : String} {index maxL mc ms : Nat} {y : MethodName} {bytes : ByteArray} {ret : Option FieldType} {hh : List (Nat × Nat × Nat × Nat)} {Ts ws ws' : List Cond} {rm : Room} (n : Nat) (ht : ∀ w ∈ Ts, w.before args s = true) (hT : GoodIn Ts (va_wsS own index y ws)) (hw : ws = Cond.codeWith y bytes maxL ret hh :: ws') (hrc : rm.cells = mc) (hrs : rm.slots = ms)
    (hd : y.cls ≠ "java/lang/invoke/MethodHandle" ∧ y.cls ≠ "java/lang/invoke/VarHandle" ∧ (parseMethodDescriptor y.desc).map (fun d => d.parameters.length) = some n) (hR : rm.frames + 1 ≤ R.frames ∧ 8 + (maxL + 11) + rm.locals ≤ R.locals) :
    vx_CSW R s args own index y bytes maxL ret hh ws rm mc ms n := by
  have ok : ∀ w ∈ va_wsS own index y ws, w.before args s = true := fun w h => ht w (hT w h).1
  have hG : GoodIn Ts ws := fun w h => hT w (by unfold va_wsS; exact List.mem_append_right _ h)
  have hc : Cond.codeWith y bytes maxL ret hh ∈ ws := by rw [hw]; exact List.mem_cons_self
  refine ⟨⟨hrc, hrs, hR.1, hR.2, pay_in ht hG, hc⟩, ht _ (hG _ hc).1, ok _ (by simp [va_wsS]), ⟨hd.1, hd.2.1⟩, fun sig h => ?_, ok _ (by simp [va_wsS]), ok _ (by simp [va_wsS])⟩
  have h2 := hd.2.2
  rw [h] at h2
  exact (Option.some.inj h2).symm
theorem vx_callSW (X : Stand p l e R s m args below meth c T locs cells slots) (hexec : p.tables.exec = Jvm.exec) {own : String} {index : Nat} {y : MethodName} {bytes : ByteArray} {maxL : Nat} {ret : Option FieldType} {hh : List (Nat × Nat × Nat × Nat)}
    (hown : s.vm.findClass own = some m.cls) (hlink : (Cond.methodLink own index y).before args s = true) (hstat : (Cond.static y).before args s = true) (hinit : (Cond.initialized y.cls).before args s = true)
    (hcode : (Cond.codeWith y bytes maxL ret hh).before args s = true) (hy : y.cls ≠ "java/lang/invoke/MethodHandle" ∧ y.cls ≠ "java/lang/invoke/VarHandle")
    {W9 : Nat} {Pre : Pt → Array Value → Prop} {Post : Pt → Array Value → Option Value → Pt → Prop} (hK : Back l R p e below s args y 3 W9 Pre Post)
    {g : JFrame} (hg : g.method = m) (hsize : g.locals.size = c.maxLocals) {argsL rest : List Value} (hlen : ∀ sig, parseMethodDescriptor y.desc = some sig → argsL.length = sig.parameters.length)
    (hstack : g.stack = argsL.reverse ++ rest) (hW : 2 * g.monitorRoom + (rest.map fun v => v.category).sum ≤ W9) (hdg : decode c.code g.pc = .ok (.invokestatic index, 3))
    (hpre : ∀ vm₁, s.WarmedH vm₁ → Pre ⟨T.setVm vm₁, locs, cells, slots⟩ argsL.toArray) :
    ∃ (v : Option Value) (vm₁ : Vm) (B : Pt), s.WarmedH vm₁ ∧ Stand p l e R s m args below meth c B.U B.locs B.cells B.slots ∧ Post ⟨T.setVm vm₁, locs, cells, slots⟩ argsL.toArray v B ∧
      ∀ target, Steps p.tables e below (B.U.setTop { g with pc := g.pc + 3, stack := v.toList ++ rest }) target → Steps p.tables e below (T.setTop g) target := by
  obtain ⟨mk, methM, cM, hnamed, hmethM, -, -, -, -, -, -, hsigM⟩ := Cond.codeWith_spec hcode
  have hstatic : methM.isStatic = true := Cond.static_spec hnamed hmethM hstat
  obtain ⟨kP, hkP, -⟩ := className_of_methodNamed hnamed
  have hinitP : kP.init = .initialized := Cond.initialized_spec (findClass_of_methodNamed hnamed) hkP hinit
  obtain ⟨vm₁, X₁, hstep₁⟩ := X.invokestatic hexec hown hlink hnamed hmethM hstatic hkP hinitP hy (g := g) hg (argsL := argsL) (rest := rest) (hlen _ hsigM) hstack hdg
  obtain ⟨v, B, X', hpost, hsteps⟩ := hK m meth c ⟨T.setVm vm₁, locs, cells, slots⟩ { g with stack := rest } (.invokestatic index) mk argsL.toArray X₁ hg hsize hdg hW (X₁.named hnamed) (hpre vm₁ X₁.warmed)
  exact ⟨v, vm₁, B, X₁.warmed, X', hpost, fun target h => hstep₁ _ fun acts => by rw [doInvoke_state]; exact hsteps.trans h⟩
theorem vx_runSW {y : MethodName} {bytes cc : ByteArray} {maxL nL mc ms n index : Nat} {ret : Option FieldType} {hh : List (Nat × Nat × Nat × Nat)} {ws : List Cond} {rm : Room} {Pc : Array Value → State → Prop} {Qc : Array Value → State → Outcome → State → Prop} {free : Addr → Prop} {Ts : List Cond} {own : String} {As rest : List Value} {g : JFrame}
    (S : CallFix p m c cc nL s args Ts own) (hM : Met l y ws rm Pc Qc mc ms free) (cw : vx_CSW R s args own index y bytes maxL ret hh ws rm mc ms n) (hp : PreS s H Pc As)
    (hg : g.method = m) (hn : As.length = n) (hsize : g.locals.size = nL) (hstack : g.stack = As.reverse ++ rest) (hW : 2 * g.monitorRoom + (rest.map fun v => v.category).sum ≤ 8) (hdg : decode cc g.pc = .ok (.invokestatic index, 3)) (hf : cells + mc ≤ R.cells ∧ slots + ms ≤ R.slots) :
    va_Run p l e R s m args below meth c H locs cells slots mc ms g rest (Qc As.toArray) (free) := by
  obtain ⟨⟨hrc, hrs, hfr, hlo, hws, hcw⟩, hcode, hini, hy, hlen, hl, hstt⟩ := cw
  have hK : Back l R p e below s args y 3 8 (PreOf R mc ms Pc) (PostOf Qc mc ms free) := va_backW (hh := hh) (bytes := bytes) (maxL := maxL) (ret := ret) hM hp.1 hrc hrs hfr hlo hws hcw (fun a' U hW => word_at hW (Or.inl (by first | rfl | simp [Cond.onTables, Cond.keeps, Cond.steady])) hini)
  obtain ⟨hx, hb, hml, ho, -⟩ := S
  intro T hT X
  obtain ⟨v, vm₁, ⟨U', l2, c2, s2⟩, hW₁, X', ⟨g', mk, t, L, e1, e2, hq, h1, hL, h2, h3⟩, st⟩ := vx_callSW X hx (hh := hh) (bytes := bytes) (maxL := maxL) (ret := ret) ho hl hstt hini hcode hy hK hg (hsize.trans hml.symm) (argsL := As) (rest := rest) (fun sig h => hn.trans (hlen sig h)) hstack hW (by rw [hb]; exact hdg)
    (fun vm₁ hW₁ => ⟨hf.1, hf.2, hp.2 (T.setVm vm₁) hT hW₁⟩)
  dsimp only [Pt.U, Pt.locs, Pt.cells, Pt.slots] at X' e1 e2 h1 h2 h3 st
  subst h1; subst h2; subst h3
  exact ⟨v, (T.setVm vm₁).calling g' mk As.toArray, t, U', L, hT, X', hL, e1, e2, hq, st⟩
/-- not caught here, past rows that name other classes: it goes on to the caller -/
theorem vx_outP {p : Program} {l : Launch} {e : Env} {R : Room} {s : State} {m : MethodId} {args : Array Value} {below : List Frame} {meth : Method} {c : Code} {H : Heap} {locs : List Loc} {cells slots : Nat} {free : Addr → Prop} {ls : Array Slot} {rest : List Value} {Qc : Array Value → State → Outcome → State → Prop} {XC : String → State → State → Prop}
    {pc : Nat} {own E : String} {ce : Cell} {q : Addr} {mc ms : Nat} (hown : s.vm.findClass own = some m.cls) (hlocks : meth.locks = false)
    (hpass : ∀ z ∈ c.exceptionTable.toList, covers z pc = false ∨ (z.catchType ≠ 0 ∧ ∃ nm : String, (Cond.classLink own z.catchType nm).before args s = true ∧ va_Nc E nm s)) (hcell : H[q]? = some ce) (hv : ce.vm = .none) (hcl : s.vm.findClass E = some ce.cls)
    (hx : ∀ t : State, t.heap = H → s.vm.Alike t.vm → XC E s t) (hf : ∀ z ∈ locs, free z.base) (hc : cells ≤ mc) (hs : slots ≤ ms) :
    vx_W p l e R s m args below meth c H locs cells slots (vx_MQ below Qc XC args s mc ms free) (F0 m pc ls rest) q := by
  intro T hT X
  have hpl : e.platform.magicAccessors = ({} : Platform).magicAccessors := by rw [X.admits.platform]
  obtain ⟨vm', hW', X', st⟩ := X.outThrough hlocks q (g := F0 m pc ls rest) rfl rfl rfl (cell := ce) (by rw [hT]; exact hcell) (by rw [hv]; rfl)
    (by obtain ⟨k9, h9, -⟩ := Vm.findClass_spec hcl; exact ⟨k9, h9⟩) (fun z hz => by
      rcases hpass z hz with h | ⟨hz0, nm, hl1, hn1⟩
      · exact Or.inl h
      · obtain ⟨c6, hc6, hcl6⟩ := Cond.classLink_spec hown hl1 e.platform hpl
        obtain ⟨a8, b8, h1, h2, h3⟩ := hn1
        cases Option.some.inj (h1.symm.trans hcl)
        cases Option.some.inj (h2.symm.trans hc6)
        exact Or.inr ⟨hz0, _, hcl6, h3⟩)
  obtain ⟨g₀, hfr⟩ := X'.frames_eq
  have hcell9 : ((T.setVm vm').setFrames (.throwing q :: below)).heap[q]? = some ce := by
    show T.heap[q]? = some ce
    rw [hT]; exact hcell
  have hend : Ended ((T.setVm vm').setFrames (.throwing q :: below)) below (.threw q) := State.frames_setFrames _ (State.cur_lt_of_frames hfr)
  refine ⟨(T.setVm vm').setFrames (.throwing q :: below), ?_, .threw q, X'.here.running, hend, Or.inr ⟨q, rfl, E, ce, locs, hx _ hT (X'.ends _).1.alike, hcell9, hv, hcl, (X'.ends _).1, (X'.ends _).2.mono hc hs, hf⟩⟩
  rw [X.pushThrowing_eq]
  exact st
/-- a thing of a world lies in the heap -/
theorem vx_lt {D : va_G} {cl : List vw_C} {ws : va_W} {H1 : Heap} (h : va_P D cl ws H1) {k : Nat} {q : Nat × va_E} (hk : ws[k]? = some q) : q.1 < H1.size := (h k q hk).lt
end VXS
/-! ===== END ===== -/
/-! ===== BEGIN methods with a table of their own: called by a name, returning or throwing ===== -/
section VXH
/-! vx_backW, vx_callVX, vx_callSX, vx_callVW, vx_runVW, vx_runVX, vx_runSX, vx_ofWH follow the same proofs as their sisters above (Free/Laws.lean, Shelf42/LK1.lean); vx_outP calls Shelf42/NT130.lean (outThrough). -/
section
variable {l : Launch} {R : Room} {p : Program} {e : Env} {below : List Frame} {s : State} {sargs : Array Value} {y : MethodName} {len W9 : Nat}
theorem vx_backW {ws : List Cond} {rm : Room} {Pc : Array Value → State → Prop} {Qc : Array Value → State → Outcome → State → Prop} {XC : String → State → State → Prop} {mc ms : Nat} {free : Addr → Prop} {bytes : ByteArray} {maxL : Nat} {ret : Option FieldType} {hh : List (Nat × Nat × Nat × Nat)}
    (hM : vx_Met l y ws rm Pc Qc XC mc ms free) (hblind : FrameBlind Pc) (hrc : rm.cells = mc) (hrs : rm.slots = ms)
    (hframes : rm.frames + 1 ≤ R.frames) (hlocals : W9 + (maxL + 11) + rm.locals ≤ R.locals)
    (hws : ∀ w ∈ ws, ∀ a' U, s.WarmedH U.vm → w.before a' U = true) (hcode : Cond.codeWith y bytes maxL ret hh ∈ ws) (hinit : ∀ a' U, s.WarmedH U.vm → (Cond.initialized y.cls).before a' U = true) :
    vx_Back l R p e below s sargs y len W9 (PreOf R mc ms Pc) (PostOf Qc mc ms free) (vx_Post XC mc ms free) := by
  intro m meth c A g ig mk a X hg hsize hdg hW hn hp
  have h1 : (headSpec ws rm).pre.before a A.U = true := atoms_intro fun w hw => hws w hw _ _ X.warmed
  have h2 : (Cond.codeWith y bytes maxL ret hh).before a A.U = true := hws _ hcode _ _ X.warmed
  have h3 : (Cond.initialized y.cls).before a A.U = true := hinit _ _ X.warmed
  have h4 : A.cells + (headSpec ws rm).room.cells ≤ R.cells := by rw [show (headSpec ws rm).room.cells = mc from hrc]; exact hp.1
  have h5 : A.slots + (headSpec ws rm).room.slots ≤ R.slots := by rw [show (headSpec ws rm).room.slots = ms from hrs]; exact hp.2.1
  have hPc : Pc a (A.U.calling g mk a) := hblind _ _ _ _ hp.2.2
  obtain ⟨U, Ls, c0, s0⟩ := A
  dsimp only [Pt.U, Pt.locs, Pt.cells, Pt.slots] at h1 h2 h3 h4 h5 X hn hPc ⊢
  obtain ⟨m9, methY, cY, hn9, hmY, hcY, -, hlY, -⟩ := Cond.codeWith_spec h2
  cases Option.some.inj (hn9.symm.trans hn)
  obtain ⟨kY, hkY, -⟩ := className_of_methodNamed hn
  have hinitY : kY.init = .initialized := Cond.initialized_spec (findClass_of_methodNamed hn) hkY h3
  have h : At U g.method c below := by rw [hg]; exact X.here
  have hlocals9 : W9 + (maxL + 11) + (headSpec ws rm).room.locals ≤ R.locals := hlocals
  have happ : (headSpec ws rm).appliesLoose y e.platform (U.calling g mk a) = true :=
    Spec.appliesLoose_calling (g := g) h hdg hn hkY hinitY
      (X.room_calling (g := g) (R' := (headSpec ws rm).room) hsize hmY hcY hframes (by rw [hlY]; omega) h4 h5) h1
  obtain ⟨mid, hmid⟩ := h.above
  have hfr : (U.setTop g).frames = (.java g :: mid) ++ below := by rw [State.frames_setTop' g h.top, hmid]; rfl
  obtain ⟨o, s₂, hsteps, -, hend, hq⟩ := Steps.callFree hM p X.admits X.cas X.clock (acts := []) hfr happ hPc trivial
  have hq' : vx_Q Qc XC mc ms free a (U.calling g mk a) o s₂ := hq
  rw [State.frames_setTop' g h.top] at hend
  obtain ⟨g₀, hg0⟩ := Option.isSome_iff_exists.mp h.top
  obtain ⟨r, hr⟩ := State.topJava?_eq_some.mp hg0
  have hr' : (({ U with heap := s₂.heap, slotsUsed := s₂.slotsUsed } : State).setVm s₂.vm).frames = .java g₀ :: r := hr
  rcases hq' with ⟨hqc, L, hfe, hL⟩ | ⟨q, rfl, E, ce, L, hx, hce, hcv, hcl, hW₂, hsm, hL⟩
  · obtain ⟨⟨v, rfl⟩, hW₂, e2, q2, q3, q4, q5, q6⟩ := id hfe
    have e3 : s₂ = ({ (U.calling g mk a).setFrames s₂.frames with heap := s₂.heap, slotsUsed := s₂.slotsUsed } : State).setVm s₂.vm := by
      have : s₂ = ({ s₂ with vm := (U.calling g mk a).vm } : State).setVm s₂.vm := rfl
      rw [e2] at this
      exact this
    obtain ⟨c₂, i₂, len₂, hc₂, hd₂, hf₂⟩ := hend
    have hW' : U.WarmedH s₂.vm := hW₂
    have hcc : c₂ = c := by
      have h1 : s₂.code? g.method = U.code? g.method := by
        rw [State.code?_eq, State.code?_eq, hW'.alike.method?]
      exact Option.some.inj (hc₂.symm.trans (h1.trans h.code))
    subst hcc
    have hlen : len₂ = len := by rw [hdg] at hd₂; cases hd₂; rfl
    subst hlen
    have hs₂ : s₂ = (({ U with heap := s₂.heap, slotsUsed := s₂.slotsUsed } : State).setVm s₂.vm).setTop { g with pc := g.pc + len₂, stack := v.toList ++ g.stack } := by
      refine e3.trans ?_
      rw [hf₂, State.calling_eq h.top, State.setFrames_setFrames, State.setTop_of_frames _ hr', hr]
      rfl
    have hsame : U.sameButNew ({ U with heap := s₂.heap, slotsUsed := s₂.slotsUsed } : State) L mc ms := by
      refine ⟨?_, q2, q3, q4, q5, q6⟩
      obtain ⟨t, ht, -⟩ := State.frames_cons hr
      show ({ U with heap := s₂.heap, slotsUsed := s₂.slotsUsed } : State) = { U.setFrames U.frames with heap := s₂.heap, slotsUsed := s₂.slotsUsed }
      rw [State.setFrames_self ht]
    subst hg
    refine Or.inl ⟨v, ⟨(({ U with heap := s₂.heap, slotsUsed := s₂.slotsUsed } : State).setVm s₂.vm), Ls ++ L, c0 + mc, s0 + ms⟩,
      ⟨X.admits, X.cas, X.clock, X.frames, X.room, X.hears, X.method, X.code, (X.here.setHeapUsed s₂.heap s₂.slotsUsed).setVm hW'.alike, X.tail, State.WarmedH.trans X.warmed hW', X.limits, X.bytes, X.same.trans (hsame.setVm s.vm)⟩,
      ⟨g, mk, s₂, L, rfl, rfl, hqc, rfl, hL, rfl, rfl⟩, ?_⟩
    show Steps p.tables e below _ ((({ U with heap := s₂.heap, slotsUsed := s₂.slotsUsed } : State).setVm s₂.vm).setTop { g with pc := g.pc + len₂, stack := v.toList ++ g.stack })
    rw [← hs₂]
    exact hsteps
  · obtain ⟨e2, q2, q3, q4, q5, q6⟩ := id hsm
    have e3 : s₂ = ({ (U.calling g mk a).setFrames s₂.frames with heap := s₂.heap, slotsUsed := s₂.slotsUsed } : State).setVm s₂.vm := by
      have : s₂ = ({ s₂ with vm := (U.calling g mk a).vm } : State).setVm s₂.vm := rfl
      rw [e2] at this
      exact this
    have hf₂ : s₂.frames = .throwing q :: .java g :: U.frames.tail := hend
    have hW' : U.WarmedH s₂.vm := hW₂
    have hs₂ : s₂ = ((({ U with heap := s₂.heap, slotsUsed := s₂.slotsUsed } : State).setVm s₂.vm).setTop g).pushFrame (.throwing q) := by
      refine e3.trans ?_
      rw [hf₂, State.calling_eq h.top, State.setFrames_setFrames, State.pushFrame, State.frames_setTop _ hr', State.setTop_of_frames _ hr', State.setFrames_setFrames, hr]
      rfl
    have hsame : U.sameButNew ({ U with heap := s₂.heap, slotsUsed := s₂.slotsUsed } : State) L mc ms := by
      refine ⟨?_, q2, q3, q4, q5, q6⟩
      obtain ⟨t, ht, -⟩ := State.frames_cons hr
      show ({ U with heap := s₂.heap, slotsUsed := s₂.slotsUsed } : State) = { U.setFrames U.frames with heap := s₂.heap, slotsUsed := s₂.slotsUsed }
      rw [State.setFrames_self ht]
    subst hg
    refine Or.inr ⟨q, ⟨(({ U with heap := s₂.heap, slotsUsed := s₂.slotsUsed } : State).setVm s₂.vm), Ls ++ L, c0 + mc, s0 + ms⟩,
      ⟨X.admits, X.cas, X.clock, X.frames, X.room, X.hears, X.method, X.code, (X.here.setHeapUsed s₂.heap s₂.slotsUsed).setVm hW'.alike, X.tail, State.WarmedH.trans X.warmed hW', X.limits, X.bytes, X.same.trans (hsame.setVm s.vm)⟩,
      ⟨g, mk, s₂, L, E, ce, rfl, rfl, hx, hce, hcv, hcl, rfl, hL, rfl, rfl⟩, ?_⟩
    show Steps p.tables e below _ (((({ U with heap := s₂.heap, slotsUsed := s₂.slotsUsed } : State).setVm s₂.vm).setTop g).pushFrame (.throwing q))
    rw [← hs₂]
    exact hsteps
end
variable {p : Program} {l : Launch} {e : Env} {R : Room} {s : State} {m : MethodId} {args : Array Value} {below : List Frame} {meth : Method} {c : Code} {T : State} {H : Heap} {locs : List Loc} {cells slots : Nat}
theorem vx_callVX (X : Stand p l e R s m args below meth c T locs cells slots) (hexec : p.tables.exec = Jvm.exec) {own C : String} {index : Nat} {y : MethodName} {bytes : ByteArray} {maxL : Nat} {ret : Option FieldType} {hh : List (Nat × Nat × Nat × Nat)}
    (hown : s.vm.findClass own = some m.cls) (hlink : (Cond.methodLink own index y).before args s = true) (hinst : (Cond.instanceMethod y).before args s = true) (hsel : (Cond.selects C y y).before args s = true)
    (hcode : (Cond.codeWith y bytes maxL ret hh).before args s = true) (hy : y.cls ≠ "java/lang/invoke/MethodHandle" ∧ y.cls ≠ "java/lang/invoke/VarHandle")
    {W9 : Nat} {Pre : Pt → Array Value → Prop} {Post : Pt → Array Value → Option Value → Pt → Prop} {PostX : Pt → Array Value → Addr → Pt → Prop} (hK : vx_Back l R p e below s args y 3 W9 Pre Post PostX)
    {b : Addr} {cellB : Cell} (hcell : T.heap[b]? = some cellB) (hobj : cellB.vm.isStatics = false) (hcls : s.vm.findClass C = some cellB.cls)
    {g : JFrame} (hg : g.method = m) (hsize : g.locals.size = c.maxLocals) {argsL rest : List Value} (hlen : ∀ sig, parseMethodDescriptor y.desc = some sig → argsL.length = sig.parameters.length)
    (hstack : g.stack = argsL.reverse ++ .ref b :: rest) (hW : 2 * g.monitorRoom + (rest.map fun v => v.category).sum ≤ W9) (hdg : decode c.code g.pc = .ok (.invokevirtual index, 3))
    (hpre : ∀ vm₁, s.WarmedH vm₁ → Pre ⟨T.setVm vm₁, locs, cells, slots⟩ (Value.ref b :: argsL).toArray) :
    (∃ (v : Option Value) (vm₁ : Vm) (B : Pt), s.WarmedH vm₁ ∧ Stand p l e R s m args below meth c B.U B.locs B.cells B.slots ∧ Post ⟨T.setVm vm₁, locs, cells, slots⟩ (Value.ref b :: argsL).toArray v B ∧
      ∀ target, Steps p.tables e below (B.U.setTop { g with pc := g.pc + 3, stack := v.toList ++ rest }) target → Steps p.tables e below (T.setTop g) target) ∨
    (∃ (q : Addr) (vm₁ : Vm) (B : Pt), s.WarmedH vm₁ ∧ Stand p l e R s m args below meth c B.U B.locs B.cells B.slots ∧ PostX ⟨T.setVm vm₁, locs, cells, slots⟩ (Value.ref b :: argsL).toArray q B ∧
      Steps p.tables e below (T.setTop g) ((B.U.setTop { g with stack := rest }).pushFrame (.throwing q))) := by
  obtain ⟨mk, methM, hnamed, hmethM, hstM, habM⟩ := Cond.instanceMethod_spec hinst
  obtain ⟨m8, methM', cM, hn8, hmethM', -, -, -, -, -, -, hsigM⟩ := Cond.codeWith_spec hcode
  cases Option.some.inj (hn8.symm.trans hnamed)
  cases hmethM.symm.trans hmethM'
  obtain ⟨c2, r2, m2, q1, q2, q3, q4, kP, hkP, hkPi⟩ := Cond.selects_spec hsel
  cases hcls.symm.trans q1
  cases (State.methodFound?_of_named hnamed hy).symm.trans q2
  cases hnamed.symm.trans q3
  have hselP : selectMethod e.platform s.vm cellB.cls mk = .method mk := by rw [Launch.admits_selectMethod X.admits]; exact q4
  obtain ⟨vm₁, X₁, hstep₁⟩ := X.invokevirtual hexec hown hlink hnamed hmethM hstM hkP hkPi hy (a := b) (cell := cellB) hcell
    (fun z h => by rw [h] at hobj; cases hobj) hselP hmethM habM hkP hkPi (g := g) hg (argsL := argsL) (rest := rest) (hlen _ hsigM) hstack hdg
  rcases hK m meth c ⟨T.setVm vm₁, locs, cells, slots⟩ { g with stack := rest } (.invokevirtual index) mk (Value.ref b :: argsL).toArray X₁ hg hsize hdg hW (X₁.named hnamed) (hpre vm₁ X₁.warmed) with ⟨v, B, X', hpost, hsteps⟩ | ⟨q, B, X', hpost, hsteps⟩
  · exact Or.inl ⟨v, vm₁, B, X₁.warmed, X', hpost, fun target h => hstep₁ _ fun acts => by rw [doInvoke_state]; exact hsteps.trans h⟩
  · exact Or.inr ⟨q, vm₁, B, X₁.warmed, X', hpost, hstep₁ _ fun acts => by rw [doInvoke_state]; exact hsteps⟩
theorem vx_callSX (X : Stand p l e R s m args below meth c T locs cells slots) (hexec : p.tables.exec = Jvm.exec) {own : String} {index : Nat} {y : MethodName} {bytes : ByteArray} {maxL : Nat} {ret : Option FieldType} {hh : List (Nat × Nat × Nat × Nat)}
    (hown : s.vm.findClass own = some m.cls) (hlink : (Cond.methodLink own index y).before args s = true) (hstat : (Cond.static y).before args s = true) (hinit : (Cond.initialized y.cls).before args s = true)
    (hcode : (Cond.codeWith y bytes maxL ret hh).before args s = true) (hy : y.cls ≠ "java/lang/invoke/MethodHandle" ∧ y.cls ≠ "java/lang/invoke/VarHandle")
    {W9 : Nat} {Pre : Pt → Array Value → Prop} {Post : Pt → Array Value → Option Value → Pt → Prop} {PostX : Pt → Array Value → Addr → Pt → Prop} (hK : vx_Back l R p e below s args y 3 W9 Pre Post PostX)
    {g : JFrame} (hg : g.method = m) (hsize : g.locals.size = c.maxLocals) {argsL rest : List Value} (hlen : ∀ sig, parseMethodDescriptor y.desc = some sig → argsL.length = sig.parameters.length)
    (hstack : g.stack = argsL.reverse ++ rest) (hW : 2 * g.monitorRoom + (rest.map fun v => v.category).sum ≤ W9) (hdg : decode c.code g.pc = .ok (.invokestatic index, 3))
    (hpre : ∀ vm₁, s.WarmedH vm₁ → Pre ⟨T.setVm vm₁, locs, cells, slots⟩ argsL.toArray) :
    (∃ (v : Option Value) (vm₁ : Vm) (B : Pt), s.WarmedH vm₁ ∧ Stand p l e R s m args below meth c B.U B.locs B.cells B.slots ∧ Post ⟨T.setVm vm₁, locs, cells, slots⟩ argsL.toArray v B ∧
      ∀ target, Steps p.tables e below (B.U.setTop { g with pc := g.pc + 3, stack := v.toList ++ rest }) target → Steps p.tables e below (T.setTop g) target) ∨
    (∃ (q : Addr) (vm₁ : Vm) (B : Pt), s.WarmedH vm₁ ∧ Stand p l e R s m args below meth c B.U B.locs B.cells B.slots ∧ PostX ⟨T.setVm vm₁, locs, cells, slots⟩ argsL.toArray q B ∧
      Steps p.tables e below (T.setTop g) ((B.U.setTop { g with stack := rest }).pushFrame (.throwing q))) := by
  obtain ⟨mk, methM, cM, hnamed, hmethM, -, -, -, -, -, -, hsigM⟩ := Cond.codeWith_spec hcode
  have hstatic : methM.isStatic = true := Cond.static_spec hnamed hmethM hstat
  obtain ⟨kP, hkP, -⟩ := className_of_methodNamed hnamed
  have hinitP : kP.init = .initialized := Cond.initialized_spec (findClass_of_methodNamed hnamed) hkP hinit
  obtain ⟨vm₁, X₁, hstep₁⟩ := X.invokestatic hexec hown hlink hnamed hmethM hstatic hkP hinitP hy (g := g) hg (argsL := argsL) (rest := rest) (hlen _ hsigM) hstack hdg
  rcases hK m meth c ⟨T.setVm vm₁, locs, cells, slots⟩ { g with stack := rest } (.invokestatic index) mk argsL.toArray X₁ hg hsize hdg hW (X₁.named hnamed) (hpre vm₁ X₁.warmed) with ⟨v, B, X', hpost, hsteps⟩ | ⟨q, B, X', hpost, hsteps⟩
  · exact Or.inl ⟨v, vm₁, B, X₁.warmed, X', hpost, fun target h => hstep₁ _ fun acts => by rw [doInvoke_state]; exact hsteps.trans h⟩
  · exact Or.inr ⟨q, vm₁, B, X₁.warmed, X', hpost, hstep₁ _ fun acts => by rw [doInvoke_state]; exact hsteps⟩
theorem vx_callVW (X : Stand p l e R s m args below meth c T locs cells slots) (hexec : p.tables.exec = Jvm.exec) {own C : String} {index : Nat} {y : MethodName} {bytes : ByteArray} {maxL : Nat} {ret : Option FieldType} {hh : List (Nat × Nat × Nat × Nat)}
    (hown : s.vm.findClass own = some m.cls) (hlink : (Cond.methodLink own index y).before args s = true) (hinst : (Cond.instanceMethod y).before args s = true) (hsel : (Cond.selects C y y).before args s = true)
    (hcode : (Cond.codeWith y bytes maxL ret hh).before args s = true) (hy : y.cls ≠ "java/lang/invoke/MethodHandle" ∧ y.cls ≠ "java/lang/invoke/VarHandle")
    {W9 : Nat} {Pre : Pt → Array Value → Prop} {Post : Pt → Array Value → Option Value → Pt → Prop} (hK : Back l R p e below s args y 3 W9 Pre Post)
    {b : Addr} {cellB : Cell} (hcell : T.heap[b]? = some cellB) (hobj : cellB.vm.isStatics = false) (hcls : s.vm.findClass C = some cellB.cls)
    {g : JFrame} (hg : g.method = m) (hsize : g.locals.size = c.maxLocals) {argsL rest : List Value} (hlen : ∀ sig, parseMethodDescriptor y.desc = some sig → argsL.length = sig.parameters.length)
    (hstack : g.stack = argsL.reverse ++ .ref b :: rest) (hW : 2 * g.monitorRoom + (rest.map fun v => v.category).sum ≤ W9) (hdg : decode c.code g.pc = .ok (.invokevirtual index, 3))
    (hpre : ∀ vm₁, s.WarmedH vm₁ → Pre ⟨T.setVm vm₁, locs, cells, slots⟩ (Value.ref b :: argsL).toArray) :
    ∃ (v : Option Value) (vm₁ : Vm) (B : Pt), s.WarmedH vm₁ ∧ Stand p l e R s m args below meth c B.U B.locs B.cells B.slots ∧ Post ⟨T.setVm vm₁, locs, cells, slots⟩ (Value.ref b :: argsL).toArray v B ∧
      ∀ target, Steps p.tables e below (B.U.setTop { g with pc := g.pc + 3, stack := v.toList ++ rest }) target → Steps p.tables e below (T.setTop g) target := by
  obtain ⟨mk, methM, hnamed, hmethM, hstM, habM⟩ := Cond.instanceMethod_spec hinst
  obtain ⟨m8, methM', cM, hn8, hmethM', -, -, -, -, -, -, hsigM⟩ := Cond.codeWith_spec hcode
  cases Option.some.inj (hn8.symm.trans hnamed)
  cases hmethM.symm.trans hmethM'
  obtain ⟨c2, r2, m2, q1, q2, q3, q4, kP, hkP, hkPi⟩ := Cond.selects_spec hsel
  cases hcls.symm.trans q1
  cases (State.methodFound?_of_named hnamed hy).symm.trans q2
  cases hnamed.symm.trans q3
  have hselP : selectMethod e.platform s.vm cellB.cls mk = .method mk := by rw [Launch.admits_selectMethod X.admits]; exact q4
  obtain ⟨vm₁, X₁, hstep₁⟩ := X.invokevirtual hexec hown hlink hnamed hmethM hstM hkP hkPi hy (a := b) (cell := cellB) hcell
    (fun z h => by rw [h] at hobj; cases hobj) hselP hmethM habM hkP hkPi (g := g) hg (argsL := argsL) (rest := rest) (hlen _ hsigM) hstack hdg
  obtain ⟨v, B, X', hpost, hsteps⟩ := hK m meth c ⟨T.setVm vm₁, locs, cells, slots⟩ { g with stack := rest } (.invokevirtual index) mk (Value.ref b :: argsL).toArray X₁ hg hsize hdg hW (X₁.named hnamed) (hpre vm₁ X₁.warmed)
  exact ⟨v, vm₁, B, X₁.warmed, X', hpost, fun target h => hstep₁ _ fun acts => by rw [doInvoke_state]; exact hsteps.trans h⟩
abbrev vx_CVW (R : Room) (s : State) (args : Array Value) (own C : String) (index : Nat) (y : MethodName) (bytes : ByteArray) (maxL : Nat) (ret : Option FieldType) (hh : List (Nat × Nat × Nat × Nat)) (ws : List Cond) (rm : Room) (mc ms n : Nat) : Prop :=
  (rm.cells = mc ∧ rm.slots = ms ∧ rm.frames + 1 ≤ R.frames ∧ 8 + (maxL + 11) + rm.locals ≤ R.locals ∧ (∀ w ∈ ws, ∀ (a' : Array Value) (U : State), s.WarmedH U.vm → w.before a' U = true) ∧ Cond.codeWith y bytes maxL ret hh ∈ ws) ∧
  (Cond.codeWith y bytes maxL ret hh).before args s = true ∧ (Cond.initialized y.cls).before args s = true ∧ (y.cls ≠ "java/lang/invoke/MethodHandle" ∧ y.cls ≠ "java/lang/invoke/VarHandle") ∧
  (∀ sig, parseMethodDescriptor y.desc = some sig → n = sig.parameters.length) ∧ (Cond.methodLink own index y).before args s = true ∧ (Cond.instanceMethod y).before args s = true ∧ (Cond.selects C y y).before args s = true
theorem vx_cwVW {own C : String} {index maxL mc ms : Nat} {y : MethodName} {bytes : ByteArray} {ret : Option FieldType} {hh : List (Nat × Nat × Nat × Nat)} {Ts ws ws' : List Cond} {rm : Room} (n : Nat) (ht : ∀ w ∈ Ts, w.before args s = true) (hT : GoodIn Ts (wsV own index C y ws)) (hw : ws = Cond.codeWith y bytes maxL ret hh :: ws') (hrc : rm.cells = mc) (hrs : rm.slots = ms)
    (hd : y.cls = C ∧ y.cls ≠ "java/lang/invoke/MethodHandle" ∧ y.cls ≠ "java/lang/invoke/VarHandle" ∧ (parseMethodDescriptor y.desc).map (fun d => d.parameters.length) = some n) (hR : rm.frames + 1 ≤ R.frames ∧ 8 + (maxL + 11) + rm.locals ≤ R.locals) :
    vx_CVW R s args own C index y bytes maxL ret hh ws rm mc ms n := by
  obtain ⟨hC, hd⟩ := hd
  subst hC
  have ok : ∀ w ∈ wsV own index y.cls y ws, w.before args s = true := fun w h => ht w (hT w h).1
  have hG : GoodIn Ts ws := fun w h => hT w (by unfold wsV; exact List.mem_append_right _ h)
  have hc : Cond.codeWith y bytes maxL ret hh ∈ ws := by rw [hw]; exact List.mem_cons_self
  refine ⟨⟨hrc, hrs, hR.1, hR.2, pay_in ht hG, hc⟩, ht _ (hG _ hc).1, ok _ (by simp [wsV]), ⟨hd.1, hd.2.1⟩, fun sig h => ?_, ok _ (by simp [wsV]), ok _ (by simp [wsV]), ok _ (by simp [wsV])⟩
  have h2 := hd.2.2
  rw [h] at h2
  exact (Option.some.inj h2).symm
theorem vx_runVW {y : MethodName} {bytes cc : ByteArray} {maxL nL mc ms n index : Nat} {ret : Option FieldType} {hh : List (Nat × Nat × Nat × Nat)} {ws : List Cond} {rm : Room} {Pc : Array Value → State → Prop} {Qc : Array Value → State → Outcome → State → Prop} {free : Addr → Prop} {Ts : List Cond} {own C : String} {b : Addr} {As rest : List Value} {g : JFrame}
    (S : CallFix p m c cc nL s args Ts own) (hM : Met l y ws rm Pc Qc mc ms free) (cw : vx_CVW R s args own C index y bytes maxL ret hh ws rm mc ms n) (hp : PreV s H C b Pc As)
    (hg : g.method = m) (hn : As.length = n) (hsize : g.locals.size = nL) (hstack : g.stack = As.reverse ++ .ref b :: rest) (hW : 2 * g.monitorRoom + (rest.map fun v => v.category).sum ≤ 8) (hdg : decode cc g.pc = .ok (.invokevirtual index, 3)) (hf : cells + mc ≤ R.cells ∧ slots + ms ≤ R.slots) :
    va_Run p l e R s m args below meth c H locs cells slots mc ms g rest (Qc (Value.ref b :: As).toArray) free := by
  obtain ⟨⟨hrc, hrs, hfr, hlo, hws, hcw⟩, hcode, hini, hy, hlen, hl, hin, hse⟩ := cw
  have hK : Back l R p e below s args y 3 8 (PreOf R mc ms Pc) (PostOf Qc mc ms free) := va_backW (hh := hh) (bytes := bytes) (maxL := maxL) (ret := ret) hM hp.1 hrc hrs hfr hlo hws hcw (fun a' U hW => word_at hW (Or.inl (by first | rfl | simp [Cond.onTables, Cond.keeps, Cond.steady])) hini)
  obtain ⟨hx, hb, hml, ho, -⟩ := S
  obtain ⟨-, ⟨cellB, hcB, hoB, hclB⟩, hPc⟩ := hp
  intro T hT X
  obtain ⟨v, vm₁, ⟨U', l2, c2, s2⟩, hW₁, X', ⟨g', mk, t, L, e1, e2, hq, h1, hL, h2, h3⟩, st⟩ := vx_callVW X hx (C := C) (hh := hh) (bytes := bytes) (maxL := maxL) (ret := ret) ho hl hin hse hcode hy hK (by rw [hT]; exact hcB) hoB hclB hg (hsize.trans hml.symm) (argsL := As) (rest := rest) (fun sig h => hn.trans (hlen sig h)) hstack hW (by rw [hb]; exact hdg)
    (fun vm₁ hW₁ => ⟨hf.1, hf.2, hPc (T.setVm vm₁) hT hW₁⟩)
  dsimp only [Pt.U, Pt.locs, Pt.cells, Pt.slots] at X' e1 e2 h1 h2 h3 st
  subst h1; subst h2; subst h3
  exact ⟨v, (T.setVm vm₁).calling g' mk (Value.ref b :: As).toArray, t, U', L, hT, X', hL, e1, e2, hq, st⟩
section
variable {y : MethodName} {bytes cc : ByteArray} {maxL nL mc ms n index : Nat} {ret : Option FieldType} {ws : List Cond} {rm : Room} {Pc : Array Value → State → Prop} {Qc : Array Value → State → Outcome → State → Prop} {XC : String → State → State → Prop} {free : Addr → Prop} {Ts : List Cond} {own C : String} {b : Addr} {As rest : List Value} {g : JFrame}
theorem vx_runVX {hh : List (Nat × Nat × Nat × Nat)} (S : CallFix p m c cc nL s args Ts own) (hM : vx_Met l y ws rm Pc Qc XC mc ms free) (cw : vx_CVW R s args own C index y bytes maxL ret hh ws rm mc ms n) (hp : PreV s H C b Pc As)
    (hg : g.method = m) (hn : As.length = n) (hsize : g.locals.size = nL) (hstack : g.stack = As.reverse ++ .ref b :: rest) (hW : 2 * g.monitorRoom + (rest.map fun v => v.category).sum ≤ 8) (hdg : decode cc g.pc = .ok (.invokevirtual index, 3)) (hf : cells + mc ≤ R.cells ∧ slots + ms ≤ R.slots) :
    vx_Run p l e R s m args below meth c H locs cells slots mc ms g rest (Qc (Value.ref b :: As).toArray) XC free := by
  obtain ⟨⟨hrc, hrs, hfr, hlo, hws, hcw⟩, hcode, hini, hy, hlen, hl, hin, hse⟩ := cw
  have hK : vx_Back l R p e below s args y 3 8 (PreOf R mc ms Pc) (PostOf Qc mc ms free) (vx_Post XC mc ms free) := vx_backW (hh := hh) (bytes := bytes) (maxL := maxL) (ret := ret) hM hp.1 hrc hrs hfr hlo hws hcw (fun a' U hW => word_at hW (Or.inl (by first | rfl | simp [Cond.onTables, Cond.keeps, Cond.steady])) hini)
  obtain ⟨hx, hb, hml, ho, -⟩ := S
  obtain ⟨-, ⟨cellB, hcB, hoB, hclB⟩, hPc⟩ := hp
  intro T hT X
  rcases vx_callVX X hx (C := C) (hh := hh) (bytes := bytes) (maxL := maxL) (ret := ret) ho hl hin hse hcode hy hK (by rw [hT]; exact hcB) hoB hclB hg (hsize.trans hml.symm) (argsL := As) (rest := rest) (fun sig h => hn.trans (hlen sig h)) hstack hW (by rw [hb]; exact hdg)
    (fun vm₁ hW₁ => ⟨hf.1, hf.2, hPc (T.setVm vm₁) hT hW₁⟩) with ⟨v, vm₁, ⟨U', l2, c2, s2⟩, hW₁, X', ⟨g', mk, t, L, e1, e2, hq, h1, hL, h2, h3⟩, st⟩ | ⟨q, vm₁, ⟨U', l2, c2, s2⟩, hW₁, X', ⟨g', mk, t, L, E, ce, e1, e2, hq, hce, hcv, hcl, h1, hL, h2, h3⟩, st⟩
  · dsimp only [Pt.U, Pt.locs, Pt.cells, Pt.slots] at X' e1 e2 h1 h2 h3 st
    subst h1; subst h2; subst h3
    exact Or.inl ⟨v, (T.setVm vm₁).calling g' mk (Value.ref b :: As).toArray, t, U', L, hT, X', hL, e1, e2, hq, st⟩
  · dsimp only [Pt.U, Pt.locs, Pt.cells, Pt.slots] at X' e1 e2 h1 h2 h3 st hcl
    subst h1; subst h2; subst h3
    exact Or.inr ⟨q, (T.setVm vm₁).calling g' mk (Value.ref b :: As).toArray, t, U', L, E, ce, hT, X', hL, e1, e2, hq, hce, hcv, vx_cls hW₁ hcl, st⟩
theorem vx_runSX {hh : List (Nat × Nat × Nat × Nat)} (S : CallFix p m c cc nL s args Ts own) (hM : vx_Met l y ws rm Pc Qc XC mc ms free) (cw : vx_CSW R s args own index y bytes maxL ret hh ws rm mc ms n) (hp : PreS s H Pc As)
    (hg : g.method = m) (hn : As.length = n) (hsize : g.locals.size = nL) (hstack : g.stack = As.reverse ++ rest) (hW : 2 * g.monitorRoom + (rest.map fun v => v.category).sum ≤ 8) (hdg : decode cc g.pc = .ok (.invokestatic index, 3)) (hf : cells + mc ≤ R.cells ∧ slots + ms ≤ R.slots) :
    vx_Run p l e R s m args below meth c H locs cells slots mc ms g rest (Qc As.toArray) XC free := by
  obtain ⟨⟨hrc, hrs, hfr, hlo, hws, hcw⟩, hcode, hini, hy, hlen, hl, hstt⟩ := cw
  have hK : vx_Back l R p e below s args y 3 8 (PreOf R mc ms Pc) (PostOf Qc mc ms free) (vx_Post XC mc ms free) := vx_backW (hh := hh) (bytes := bytes) (maxL := maxL) (ret := ret) hM hp.1 hrc hrs hfr hlo hws hcw (fun a' U hW => word_at hW (Or.inl (by first | rfl | simp [Cond.onTables, Cond.keeps, Cond.steady])) hini)
  obtain ⟨hx, hb, hml, ho, -⟩ := S
  intro T hT X
  rcases vx_callSX X hx (hh := hh) (bytes := bytes) (maxL := maxL) (ret := ret) ho hl hstt hini hcode hy hK hg (hsize.trans hml.symm) (argsL := As) (rest := rest) (fun sig h => hn.trans (hlen sig h)) hstack hW (by rw [hb]; exact hdg)
    (fun vm₁ hW₁ => ⟨hf.1, hf.2, hp.2 (T.setVm vm₁) hT hW₁⟩) with ⟨v, vm₁, ⟨U', l2, c2, s2⟩, hW₁, X', ⟨g', mk, t, L, e1, e2, hq, h1, hL, h2, h3⟩, st⟩ | ⟨q, vm₁, ⟨U', l2, c2, s2⟩, hW₁, X', ⟨g', mk, t, L, E, ce, e1, e2, hq, hce, hcv, hcl, h1, hL, h2, h3⟩, st⟩
  · dsimp only [Pt.U, Pt.locs, Pt.cells, Pt.slots] at X' e1 e2 h1 h2 h3 st
    subst h1; subst h2; subst h3
    exact Or.inl ⟨v, (T.setVm vm₁).calling g' mk As.toArray, t, U', L, hT, X', hL, e1, e2, hq, st⟩
  · dsimp only [Pt.U, Pt.locs, Pt.cells, Pt.slots] at X' e1 e2 h1 h2 h3 st hcl
    subst h1; subst h2; subst h3
    exact Or.inr ⟨q, (T.setVm vm₁).calling g' mk As.toArray, t, U', L, E, ce, hT, X', hL, e1, e2, hq, hce, hcv, vx_cls hW₁ hcl, st⟩
end
end VXH
theorem vx_ofWH {l : Launch} {y : MethodName} {ws ws' : List Cond} {rm : Room} {Pc : Array Value → State → Prop} {Qc : Array Value → State → Outcome → State → Prop} {XC : String → State → State → Prop} {mc ms : Nat} {free : Addr → Prop} {cc : ByteArray} {maxL : Nat} {ret : Option FieldType} {hh : List (Nat × Nat × Nat × Nat)}
    (hy : plainName y.cls = true) (hw : ws = Cond.codeWith y cc maxL ret hh :: ws')
    (body : ∀ p e s m args below meth c s₁, BodyLoose p l y (headSpec ws rm) cc maxL ret e s m args below meth c s₁ → c.maxLocals = maxL → Pc args s →
      W p l e (headSpec ws rm).room s m args below meth c s.heap [] 0 0 (vx_MQ below Qc XC args s mc ms free) (entryFrame m args maxL)) : vx_Met l y ws rm Pc Qc XC mc ms free := by
  refine MetFree.of_bodyS (code := cc) (maxLocals := maxL) (ret := ret) hy ?_ ?_
  · intro args s m h hn
    obtain ⟨m9, meth, c, hn9, h1, h2, h3, h4, -, h5, h6, -⟩ := Cond.codeWith_spec (atoms_spec (ws := ws) h _ (by rw [hw]; exact List.mem_cons_self))
    cases hn.symm.trans hn9
    exact ⟨meth, c, h1, h2, h3, h4, h5, h6⟩
  · intro p e s m args below meth c s₁ B hml hP _
    have hh0 : s₁.heap = s.heap := by rw [B.state]; rfl
    obtain ⟨t, a1, o, b1, b2, b3⟩ := body p e s m args below meth c s₁ B hml hP s₁ hh0 (Stand.of_body B)
    exact ⟨t, o, a1, b1, b2, b3⟩
/-! ===== END ===== -/
end
section
def rn_N : String := "SerialBus$Node"
def ft_N : u_T := fun k => match k with
  | 0 => ("SerialBus$Node", "words", "[I", true)
  | 1 => ("SerialBus$Node", "queue", "LSerialBus$Queue;", true)
  | 2 => ("SerialBus$Node", "labels", "[LSerialBus$Request;", true)
  | 3 => ("SerialBus$Node", "bits", "I", false)
  | 4 => ("SerialBus$Node", "place", "I", false)
  | 5 => ("SerialBus$Node", "hold", "Z", false)
  | 6 => ("SerialBus$Node", "contender", "Z", false)
  | 7 => ("SerialBus$Node", "channel", "I", false)
  | 8 => ("SerialBus$Node", "bandwidth", "I", false)
  | 9 => ("SerialBus$Node", "heard", "I", false)
  | 10 => ("SerialBus$Node", "used", "Z", false)
  | 11 => ("SerialBus$Node", "dirty", "Z", false)
  | 12 => ("SerialBus$Node", "looped", "Z", false)
  | 13 => ("SerialBus$Node", "number", "I", false)
  | 14 => ("SerialBus$Node", "parent", "I", false)
  | 15 => ("SerialBus$Node", "root", "I", false)
  | _ => ("SerialBus$Node", "manager", "I", false)
def tt_N : Nat → FieldType := fun k => match k with
  | 0 => .array .int
  | 1 => .object "SerialBus$Queue"
  | 2 => .array (.object "SerialBus$Request")
  | 3 => .int
  | 4 => .int
  | 5 => .boolean
  | 6 => .boolean
  | 7 => .int
  | 8 => .int
  | 9 => .int
  | 10 => .boolean
  | 11 => .boolean
  | 12 => .boolean
  | 13 => .int
  | 14 => .int
  | 15 => .int
  | _ => .int
theorem nm_N : ∀ a, a < 17 → ∀ b, b < 17 → a ≠ b → (ft_N a).2.1 ≠ (ft_N b).2.1 := by decide +kernel
theorem ty_N : ∀ k, k < 17 → parseFieldDescriptor (ft_N k).2.2.1 = some (tt_N k) := by decide +kernel
theorem in_N : ∀ w ∈ u_ws rn_N ft_N 17, w ∈ lw_tbl := by decide +kernel
def rn_Q : String := "SerialBus$Queue"
def ft_Q : u_T := fun k => match k with
  | 0 => ("SerialBus$Queue", "packets", "[LSerialBus$Request;", true)
  | _ => ("SerialBus$Queue", "size", "I", false)
def tt_Q : Nat → FieldType := fun k => match k with
  | 0 => .array (.object "SerialBus$Request")
  | _ => .int
theorem nm_Q : ∀ a, a < 2 → ∀ b, b < 2 → a ≠ b → (ft_Q a).2.1 ≠ (ft_Q b).2.1 := by decide +kernel
theorem ty_Q : ∀ k, k < 2 → parseFieldDescriptor (ft_Q k).2.2.1 = some (tt_Q k) := by decide +kernel
theorem in_Q : ∀ w ∈ u_ws rn_Q ft_Q 2, w ∈ lw_tbl := by decide +kernel
def rn_R : String := "SerialBus$Request"
def ft_R : u_T := fun k => match k with
  | 0 => ("SerialBus$Request", "target", "I", true)
  | 1 => ("SerialBus$Request", "work", "I", true)
  | 2 => ("SerialBus$Request", "wordNumber", "I", true)
  | 3 => ("SerialBus$Request", "expected", "I", true)
  | 4 => ("SerialBus$Request", "given", "I", true)
  | 5 => ("SerialBus$Request", "lateAt", "I", true)
  | 6 => ("SerialBus$Request", "end", "I", false)
  | 7 => ("SerialBus$Request", "sendings", "I", false)
  | 8 => ("SerialBus$Request", "answered", "Z", false)
  | _ => ("SerialBus$Request", "answer", "I", false)
def tt_R : Nat → FieldType := fun k => match k with
  | 0 => .int
  | 1 => .int
  | 2 => .int
  | 3 => .int
  | 4 => .int
  | 5 => .int
  | 6 => .int
  | 7 => .int
  | 8 => .boolean
  | _ => .int
theorem nm_R : ∀ a, a < 10 → ∀ b, b < 10 → a ≠ b → (ft_R a).2.1 ≠ (ft_R b).2.1 := by decide +kernel
theorem ty_R : ∀ k, k < 10 → parseFieldDescriptor (ft_R k).2.2.1 = some (tt_R k) := by decide +kernel
theorem in_R : ∀ w ∈ u_ws rn_R ft_R 10, w ∈ lw_tbl := by decide +kernel
def rn_T : String := "SerialBus$Tree"
def ft_T : u_T := fun k => match k with
  | 0 => ("SerialBus$Tree", "open", "[Z", true)
  | _ => ("SerialBus$Tree", "askedSocket", "[I", true)
def tt_T : Nat → FieldType := fun k => match k with
  | 0 => .array .boolean
  | _ => .array .int
theorem nm_T : ∀ a, a < 2 → ∀ b, b < 2 → a ≠ b → (ft_T a).2.1 ≠ (ft_T b).2.1 := by decide +kernel
theorem ty_T : ∀ k, k < 2 → parseFieldDescriptor (ft_T k).2.2.1 = some (tt_T k) := by decide +kernel
theorem in_T : ∀ w ∈ u_ws rn_T ft_T 2, w ∈ lw_tbl := by decide +kernel
def rn_W : String := "SerialBus$Wiring"
def ft_W : u_T := fun k => match k with
  | 0 => ("SerialBus$Wiring", "farSocket", "[I", true)
  | 1 => ("SerialBus$Wiring", "busOfNode", "[I", true)
  | _ => ("SerialBus$Wiring", "cables", "I", false)
def tt_W : Nat → FieldType := fun k => match k with
  | 0 => .array .int
  | 1 => .array .int
  | _ => .int
theorem nm_W : ∀ a, a < 3 → ∀ b, b < 3 → a ≠ b → (ft_W a).2.1 ≠ (ft_W b).2.1 := by decide +kernel
theorem ty_W : ∀ k, k < 3 → parseFieldDescriptor (ft_W k).2.2.1 = some (tt_W k) := by decide +kernel
theorem in_W : ∀ w ∈ u_ws rn_W ft_W 3, w ∈ lw_tbl := by decide +kernel
def rn_S : String := "SerialBus"
def ft_S : u_T := fun k => match k with
  | 0 => ("SerialBus", "wiring", "LSerialBus$Wiring;", true)
  | 1 => ("SerialBus", "tree", "LSerialBus$Tree;", true)
  | 2 => ("SerialBus", "nodes", "[LSerialBus$Node;", true)
  | 3 => ("SerialBus", "clock", "I", false)
  | 4 => ("SerialBus", "timeToWait", "I", false)
  | 5 => ("SerialBus", "resets", "I", false)
  | 6 => ("SerialBus", "slotPackets", "I", false)
  | 7 => ("SerialBus", "cyclePackets", "I", false)
  | _ => ("SerialBus", "usedTaken", "I", false)
def tt_S : Nat → FieldType := fun k => match k with
  | 0 => .object "SerialBus$Wiring"
  | 1 => .object "SerialBus$Tree"
  | 2 => .array (.object "SerialBus$Node")
  | 3 => .int
  | 4 => .int
  | 5 => .int
  | 6 => .int
  | 7 => .int
  | _ => .int
theorem nm_S : ∀ a, a < 9 → ∀ b, b < 9 → a ≠ b → (ft_S a).2.1 ≠ (ft_S b).2.1 := by decide +kernel
theorem ty_S : ∀ k, k < 9 → parseFieldDescriptor (ft_S k).2.2.1 = some (tt_S k) := by decide +kernel
theorem in_S : ∀ w ∈ u_ws rn_S ft_S 9, w ∈ lw_tbl := by decide +kernel
def rn_M : String := "SerialBusModel"
def ft_M : u_T := fun k => match k with
  | 0 => ("SerialBusModel", "thrown", "I", false)
  | 1 => ("SerialBusModel", "other", "[I", true)
  | 2 => ("SerialBusModel", "open", "[Z", true)
  | 3 => ("SerialBusModel", "bits", "[I", true)
  | 4 => ("SerialBusModel", "place", "[I", true)
  | 5 => ("SerialBusModel", "heard", "[I", true)
  | 6 => ("SerialBusModel", "channel", "[I", true)
  | 7 => ("SerialBusModel", "bandwidth", "[I", true)
  | 8 => ("SerialBusModel", "hold", "[Z", true)
  | 9 => ("SerialBusModel", "contender", "[Z", true)
  | 10 => ("SerialBusModel", "used", "[Z", true)
  | 11 => ("SerialBusModel", "dirty", "[Z", true)
  | 12 => ("SerialBusModel", "looped", "[Z", true)
  | 13 => ("SerialBusModel", "words", "[I", true)
  | 14 => ("SerialBusModel", "parent", "[I", true)
  | 15 => ("SerialBusModel", "number", "[I", true)
  | 16 => ("SerialBusModel", "root", "[I", true)
  | 17 => ("SerialBusModel", "manager", "[I", true)
  | 18 => ("SerialBusModel", "bus", "[I", true)
  | 19 => ("SerialBusModel", "asks", "[Z", true)
  | 20 => ("SerialBusModel", "state", "[I", true)
  | 21 => ("SerialBusModel", "to", "[I", true)
  | 22 => ("SerialBusModel", "work", "[I", true)
  | 23 => ("SerialBusModel", "word", "[I", true)
  | 24 => ("SerialBusModel", "oldValue", "[I", true)
  | 25 => ("SerialBusModel", "newValue", "[I", true)
  | 26 => ("SerialBusModel", "result", "[I", true)
  | 27 => ("SerialBusModel", "due", "[I", true)
  | 28 => ("SerialBusModel", "serial", "[I", true)
  | 29 => ("SerialBusModel", "serials", "I", false)
  | 30 => ("SerialBusModel", "label", "[I", true)
  | 31 => ("SerialBusModel", "of", "[I", true)
  | 32 => ("SerialBusModel", "sent", "[I", true)
  | 33 => ("SerialBusModel", "answer", "[I", true)
  | 34 => ("SerialBusModel", "isAnswer", "[Z", true)
  | 35 => ("SerialBusModel", "queue", "[I", true)
  | 36 => ("SerialBusModel", "clock", "I", false)
  | 37 => ("SerialBusModel", "patience", "I", false)
  | 38 => ("SerialBusModel", "resets", "I", false)
  | 39 => ("SerialBusModel", "packets", "I", false)
  | 40 => ("SerialBusModel", "talks", "I", false)
  | _ => ("SerialBusModel", "turns", "I", false)
def tt_M : Nat → FieldType := fun k => match k with
  | 0 => .int
  | 1 => .array .int
  | 2 => .array .boolean
  | 3 => .array .int
  | 4 => .array .int
  | 5 => .array .int
  | 6 => .array .int
  | 7 => .array .int
  | 8 => .array .boolean
  | 9 => .array .boolean
  | 10 => .array .boolean
  | 11 => .array .boolean
  | 12 => .array .boolean
  | 13 => .array .int
  | 14 => .array .int
  | 15 => .array .int
  | 16 => .array .int
  | 17 => .array .int
  | 18 => .array .int
  | 19 => .array .boolean
  | 20 => .array .int
  | 21 => .array .int
  | 22 => .array .int
  | 23 => .array .int
  | 24 => .array .int
  | 25 => .array .int
  | 26 => .array .int
  | 27 => .array .int
  | 28 => .array .int
  | 29 => .int
  | 30 => .array .int
  | 31 => .array .int
  | 32 => .array .int
  | 33 => .array .int
  | 34 => .array .boolean
  | 35 => .array .int
  | 36 => .int
  | 37 => .int
  | 38 => .int
  | 39 => .int
  | 40 => .int
  | _ => .int
theorem nm_M : ∀ a, a < 42 → ∀ b, b < 42 → a ≠ b → (ft_M a).2.1 ≠ (ft_M b).2.1 := by decide +kernel
theorem ty_M : ∀ k, k < 42 → parseFieldDescriptor (ft_M k).2.2.1 = some (tt_M k) := by decide +kernel
theorem in_M : ∀ w ∈ u_ws rn_M ft_M 42, w ∈ lw_tbl := by decide +kernel
def rn_L : String := "SerialBusLaw"
abbrev clz : List vw_C := [(rn_N, ft_N, 17), (rn_Q, ft_Q, 2), (rn_R, ft_R, 10), (rn_T, ft_T, 2), (rn_W, ft_W, 3), (rn_S, ft_S, 9), (rn_M, ft_M, 42)]
abbrev cd_N_init : ByteArray := prog_2_method_1_code
def my_N_init : MethodName := ⟨rn_N, "<init>", "()V"⟩
abbrev cd_N_startAnew : ByteArray := prog_2_method_2_code
def my_N_startAnew : MethodName := ⟨rn_N, "startAnew", "()V"⟩
abbrev cd_N_learn : ByteArray := prog_2_method_3_code
def my_N_learn : MethodName := ⟨rn_N, "learn", "(ZII)V"⟩
abbrev cd_N_takeBit : ByteArray := prog_2_method_4_code
def my_N_takeBit : MethodName := ⟨rn_N, "takeBit", "()I"⟩
abbrev cd_N_leastLabelThatDoesNotWait : ByteArray := prog_2_method_5_code
def my_N_leastLabelThatDoesNotWait : MethodName := ⟨rn_N, "leastLabelThatDoesNotWait", "()I"⟩
abbrev cd_N_waitingRequests : ByteArray := prog_2_method_6_code
def my_N_waitingRequests : MethodName := ⟨rn_N, "waitingRequests", "()I"⟩
abbrev cd_N_endLateRequests : ByteArray := prog_2_method_7_code
def my_N_endLateRequests : MethodName := ⟨rn_N, "endLateRequests", "(I)V"⟩
abbrev cd_N_waits : ByteArray := prog_2_method_8_code
def my_N_waits : MethodName := ⟨rn_N, "waits", "(I)Z"⟩
abbrev cd_Q_init : ByteArray := prog_3_method_1_code
def my_Q_init : MethodName := ⟨rn_Q, "<init>", "()V"⟩
abbrev cd_Q_isEmpty : ByteArray := prog_3_method_2_code
def my_Q_isEmpty : MethodName := ⟨rn_Q, "isEmpty", "()Z"⟩
abbrev cd_Q_isFull : ByteArray := prog_3_method_3_code
def my_Q_isFull : MethodName := ⟨rn_Q, "isFull", "()Z"⟩
abbrev cd_Q_append : ByteArray := prog_3_method_4_code
def my_Q_append : MethodName := ⟨rn_Q, "append", "(LSerialBus$Request;)V"⟩
abbrev cd_Q_takeFirst : ByteArray := prog_3_method_5_code
def my_Q_takeFirst : MethodName := ⟨rn_Q, "takeFirst", "()LSerialBus$Request;"⟩
abbrev cd_Q_drop : ByteArray := prog_3_method_6_code
def my_Q_drop : MethodName := ⟨rn_Q, "drop", "(LSerialBus$Request;)V"⟩
abbrev cd_Q_empty : ByteArray := prog_3_method_7_code
def my_Q_empty : MethodName := ⟨rn_Q, "empty", "()V"⟩
abbrev cd_Q_removeAt : ByteArray := prog_3_method_8_code
def my_Q_removeAt : MethodName := ⟨rn_Q, "removeAt", "(I)V"⟩
abbrev cd_R_init : ByteArray := prog_4_method_1_code
def my_R_init : MethodName := ⟨rn_R, "<init>", "(IIIIII)V"⟩
abbrev cd_R_endIfItWaits : ByteArray := prog_4_method_2_code
def my_R_endIfItWaits : MethodName := ⟨rn_R, "endIfItWaits", "(I)V"⟩
abbrev cd_R_workOn : ByteArray := prog_4_method_3_code
def my_R_workOn : MethodName := ⟨rn_R, "workOn", "([I)V"⟩
abbrev cd_T_init : ByteArray := prog_5_method_1_code
def my_T_init : MethodName := ⟨rn_T, "<init>", "()V"⟩
abbrev cd_T_findParents : ByteArray := prog_5_method_2_code
def my_T_findParents : MethodName := ⟨rn_T, "findParents", "(LSerialBus$Wiring;[LSerialBus$Node;I)Z"⟩
abbrev cd_T_settle : ByteArray := prog_5_method_3_code
def my_T_settle : MethodName := ⟨rn_T, "settle", "(LSerialBus$Wiring;[LSerialBus$Node;IZ)V"⟩
abbrev cd_T_openCables : ByteArray := prog_5_method_4_code
def my_T_openCables : MethodName := ⟨rn_T, "openCables", "(LSerialBus$Wiring;I)V"⟩
abbrev cd_T_someCableIsOpen : ByteArray := prog_5_method_5_code
def my_T_someCableIsOpen : MethodName := ⟨rn_T, "someCableIsOpen", "()Z"⟩
abbrev cd_T_chooseAskers : ByteArray := prog_5_method_6_code
def my_T_chooseAskers : MethodName := ⟨rn_T, "chooseAskers", "([LSerialBus$Node;I)V"⟩
abbrev cd_T_onlyOpenSocket : ByteArray := prog_5_method_7_code
def my_T_onlyOpenSocket : MethodName := ⟨rn_T, "onlyOpenSocket", "(I)I"⟩
abbrev cd_T_closeAskedCables : ByteArray := prog_5_method_8_code
def my_T_closeAskedCables : MethodName := ⟨rn_T, "closeAskedCables", "(LSerialBus$Wiring;[LSerialBus$Node;)V"⟩
abbrev cd_T_contend : ByteArray := prog_5_method_9_code
def my_T_contend : MethodName := ⟨rn_T, "contend", "([LSerialBus$Node;II)V"⟩
abbrev cd_T_close : ByteArray := prog_5_method_10_code
def my_T_close : MethodName := ⟨rn_T, "close", "(LSerialBus$Node;III)V"⟩
abbrev cd_T_findRoot : ByteArray := prog_5_method_11_code
def my_T_findRoot : MethodName := ⟨rn_T, "findRoot", "(LSerialBus$Wiring;[LSerialBus$Node;I)I"⟩
abbrev cd_T_giveNumbers : ByteArray := prog_5_method_12_code
def my_T_giveNumbers : MethodName := ⟨rn_T, "giveNumbers", "(LSerialBus$Wiring;[LSerialBus$Node;III)I"⟩
abbrev cd_T_findManager : ByteArray := prog_5_method_13_code
def my_T_findManager : MethodName := ⟨rn_T, "findManager", "(LSerialBus$Wiring;[LSerialBus$Node;I)I"⟩
abbrev cd_W_init : ByteArray := prog_6_method_1_code
def my_W_init : MethodName := ⟨rn_W, "<init>", "()V"⟩
abbrev cd_W_join : ByteArray := prog_6_method_2_code
def my_W_join : MethodName := ⟨rn_W, "join", "(IIII)V"⟩
abbrev cd_W_part : ByteArray := prog_6_method_3_code
def my_W_part : MethodName := ⟨rn_W, "part", "(II)V"⟩
abbrev cd_W_farNode : ByteArray := prog_6_method_4_code
def my_W_farNode : MethodName := ⟨rn_W, "farNode", "(II)I"⟩
abbrev cd_W_busOf : ByteArray := prog_6_method_5_code
def my_W_busOf : MethodName := ⟨rn_W, "busOf", "(I)I"⟩
abbrev cd_W_isBus : ByteArray := prog_6_method_6_code
def my_W_isBus : MethodName := ⟨rn_W, "isBus", "(I)Z"⟩
abbrev cd_W_buses : ByteArray := prog_6_method_7_code
def my_W_buses : MethodName := ⟨rn_W, "buses", "()I"⟩
abbrev cd_W_findBuses : ByteArray := prog_6_method_8_code
def my_W_findBuses : MethodName := ⟨rn_W, "findBuses", "()V"⟩
abbrev cd_S_init : ByteArray := prog_1_method_1_code
def my_S_init : MethodName := ⟨rn_S, "<init>", "()V"⟩
abbrev cd_S_plug : ByteArray := prog_1_method_2_code
def my_S_plug : MethodName := ⟨rn_S, "plug", "(IIII)I"⟩
abbrev cd_S_unplug : ByteArray := prog_1_method_3_code
def my_S_unplug : MethodName := ⟨rn_S, "unplug", "(II)I"⟩
abbrev cd_S_reset : ByteArray := prog_1_method_4_code
def my_S_reset : MethodName := ⟨rn_S, "reset", "(IIZZ)V"⟩
abbrev cd_S_ask : ByteArray := prog_1_method_5_code
def my_S_ask : MethodName := ⟨rn_S, "ask", "(IIIIII)I"⟩
abbrev cd_S_talk : ByteArray := prog_1_method_6_code
def my_S_talk : MethodName := ⟨rn_S, "talk", "(III)V"⟩
abbrev cd_S_time : ByteArray := prog_1_method_7_code
def my_S_time : MethodName := ⟨rn_S, "time", "(I)V"⟩
abbrev cd_S_tick : ByteArray := prog_1_method_8_code
def my_S_tick : MethodName := ⟨rn_S, "tick", "(I)I"⟩
abbrev cd_S_ended : ByteArray := prog_1_method_9_code
def my_S_ended : MethodName := ⟨rn_S, "ended", "(II)I"⟩
abbrev cd_S_value : ByteArray := prog_1_method_10_code
def my_S_value : MethodName := ⟨rn_S, "value", "(II)I"⟩
abbrev cd_S_about : ByteArray := prog_1_method_11_code
def my_S_about : MethodName := ⟨rn_S, "about", "(II)I"⟩
abbrev cd_S_word : ByteArray := prog_1_method_12_code
def my_S_word : MethodName := ⟨rn_S, "word", "(II)I"⟩
abbrev cd_S_count : ByteArray := prog_1_method_13_code
def my_S_count : MethodName := ⟨rn_S, "count", "(I)I"⟩
abbrev cd_S_checkNode : ByteArray := prog_1_method_14_code
def my_S_checkNode : MethodName := ⟨rn_S, "checkNode", "(I)V"⟩
abbrev cd_S_checkPort : ByteArray := prog_1_method_15_code
def my_S_checkPort : MethodName := ⟨rn_S, "checkPort", "(I)V"⟩
abbrev cd_S_checkLabel : ByteArray := prog_1_method_16_code
def my_S_checkLabel : MethodName := ⟨rn_S, "checkLabel", "(I)V"⟩
abbrev cd_S_checkWord : ByteArray := prog_1_method_17_code
def my_S_checkWord : MethodName := ⟨rn_S, "checkWord", "(I)V"⟩
abbrev cd_S_isDirty : ByteArray := prog_1_method_18_code
def my_S_isDirty : MethodName := ⟨rn_S, "isDirty", "(I)Z"⟩
abbrev cd_S_loopedBuses : ByteArray := prog_1_method_19_code
def my_S_loopedBuses : MethodName := ⟨rn_S, "loopedBuses", "()I"⟩
abbrev cd_S_runBus : ByteArray := prog_1_method_20_code
def my_S_runBus : MethodName := ⟨rn_S, "runBus", "(I)V"⟩
abbrev cd_S_resetBus : ByteArray := prog_1_method_21_code
def my_S_resetBus : MethodName := ⟨rn_S, "resetBus", "(I)V"⟩
abbrev cd_S_runSlot : ByteArray := prog_1_method_22_code
def my_S_runSlot : MethodName := ⟨rn_S, "runSlot", "(I)V"⟩
abbrev cd_S_takeUsedFromAll : ByteArray := prog_1_method_23_code
def my_S_takeUsedFromAll : MethodName := ⟨rn_S, "takeUsedFromAll", "(I)V"⟩
abbrev cd_S_sendFirstPacket : ByteArray := prog_1_method_24_code
def my_S_sendFirstPacket : MethodName := ⟨rn_S, "sendFirstPacket", "(LSerialBus$Node;I)V"⟩
abbrev cd_S_sendRequest : ByteArray := prog_1_method_25_code
def my_S_sendRequest : MethodName := ⟨rn_S, "sendRequest", "(LSerialBus$Request;LSerialBus$Node;I)V"⟩
abbrev cd_S_runCycle : ByteArray := prog_1_method_26_code
def my_S_runCycle : MethodName := ⟨rn_S, "runCycle", "(ILSerialBus$Node;)V"⟩
abbrev cd_S_nodeWithNumber : ByteArray := prog_1_method_27_code
def my_S_nodeWithNumber : MethodName := ⟨rn_S, "nodeWithNumber", "(II)I"⟩
abbrev cd_S_letOthersHear : ByteArray := prog_1_method_28_code
def my_S_letOthersHear : MethodName := ⟨rn_S, "letOthersHear", "(II)V"⟩
abbrev cd_S_endLateRequests : ByteArray := prog_1_method_29_code
def my_S_endLateRequests : MethodName := ⟨rn_S, "endLateRequests", "()V"⟩
abbrev cd_M_init : ByteArray := prog_8_method_1_code
def my_M_init : MethodName := ⟨rn_M, "<init>", "()V"⟩
abbrev cd_M_thrown : ByteArray := prog_8_method_2_code
def my_M_thrown : MethodName := ⟨rn_M, "thrown", "()I"⟩
abbrev cd_M_fail : ByteArray := prog_8_method_3_code
def my_M_fail : MethodName := ⟨rn_M, "fail", "(I)I"⟩
abbrev cd_M_out : ByteArray := prog_8_method_4_code
def my_M_out : MethodName := ⟨rn_M, "out", "(II)Z"⟩
abbrev cd_M_plug : ByteArray := prog_8_method_5_code
def my_M_plug : MethodName := ⟨rn_M, "plug", "(IIII)I"⟩
abbrev cd_M_unplug : ByteArray := prog_8_method_6_code
def my_M_unplug : MethodName := ⟨rn_M, "unplug", "(II)I"⟩
abbrev cd_M_cables : ByteArray := prog_8_method_7_code
def my_M_cables : MethodName := ⟨rn_M, "cables", "()I"⟩
abbrev cd_M_findBuses : ByteArray := prog_8_method_8_code
def my_M_findBuses : MethodName := ⟨rn_M, "findBuses", "()V"⟩
abbrev cd_M_busDirty : ByteArray := prog_8_method_9_code
def my_M_busDirty : MethodName := ⟨rn_M, "busDirty", "(I)Z"⟩
abbrev cd_M_reset : ByteArray := prog_8_method_10_code
def my_M_reset : MethodName := ⟨rn_M, "reset", "(IIZZ)V"⟩
abbrev cd_M_ask : ByteArray := prog_8_method_11_code
def my_M_ask : MethodName := ⟨rn_M, "ask", "(IIIIII)I"⟩
abbrev cd_M_put : ByteArray := prog_8_method_12_code
def my_M_put : MethodName := ⟨rn_M, "put", "(IIIIZI)V"⟩
abbrev cd_M_take : ByteArray := prog_8_method_13_code
def my_M_take : MethodName := ⟨rn_M, "take", "(II)V"⟩
abbrev cd_M_done : ByteArray := prog_8_method_14_code
def my_M_done : MethodName := ⟨rn_M, "done", "(I)I"⟩
abbrev cd_M_sendRequest : ByteArray := prog_8_method_15_code
def my_M_sendRequest : MethodName := ⟨rn_M, "sendRequest", "(IIII)V"⟩
abbrev cd_M_send : ByteArray := prog_8_method_16_code
def my_M_send : MethodName := ⟨rn_M, "send", "(I)V"⟩
abbrev cd_M_openAt : ByteArray := prog_8_method_17_code
def my_M_openAt : MethodName := ⟨rn_M, "openAt", "(I)I"⟩
abbrev cd_M_nextBit : ByteArray := prog_8_method_18_code
def my_M_nextBit : MethodName := ⟨rn_M, "nextBit", "(I)I"⟩
abbrev cd_M_close : ByteArray := prog_8_method_19_code
def my_M_close : MethodName := ⟨rn_M, "close", "(II)V"⟩
abbrev cd_M_round : ByteArray := prog_8_method_20_code
def my_M_round : MethodName := ⟨rn_M, "round", "(II)V"⟩
abbrev cd_M_anyOpen : ByteArray := prog_8_method_21_code
def my_M_anyOpen : MethodName := ⟨rn_M, "anyOpen", "(I)Z"⟩
abbrev cd_M_clean : ByteArray := prog_8_method_22_code
def my_M_clean : MethodName := ⟨rn_M, "clean", "(I)V"⟩
abbrev cd_M_child : ByteArray := prog_8_method_23_code
def my_M_child : MethodName := ⟨rn_M, "child", "(II)I"⟩
abbrev cd_M_giveNumbers : ByteArray := prog_8_method_24_code
def my_M_giveNumbers : MethodName := ⟨rn_M, "giveNumbers", "(I)V"⟩
abbrev cd_M_settle : ByteArray := prog_8_method_25_code
def my_M_settle : MethodName := ⟨rn_M, "settle", "(IZ)V"⟩
abbrev cd_M_resetBus : ByteArray := prog_8_method_26_code
def my_M_resetBus : MethodName := ⟨rn_M, "resetBus", "(I)V"⟩
abbrev cd_M_sender : ByteArray := prog_8_method_27_code
def my_M_sender : MethodName := ⟨rn_M, "sender", "(IZ)I"⟩
abbrev cd_M_slot : ByteArray := prog_8_method_28_code
def my_M_slot : MethodName := ⟨rn_M, "slot", "(I)V"⟩
abbrev cd_M_numbered : ByteArray := prog_8_method_29_code
def my_M_numbered : MethodName := ⟨rn_M, "numbered", "(II)I"⟩
abbrev cd_M_cycle : ByteArray := prog_8_method_30_code
def my_M_cycle : MethodName := ⟨rn_M, "cycle", "(I)V"⟩
abbrev cd_M_tickBus : ByteArray := prog_8_method_31_code
def my_M_tickBus : MethodName := ⟨rn_M, "tickBus", "(I)V"⟩
abbrev cd_M_comeLate : ByteArray := prog_8_method_32_code
def my_M_comeLate : MethodName := ⟨rn_M, "comeLate", "()V"⟩
abbrev cd_M_tick : ByteArray := prog_8_method_33_code
def my_M_tick : MethodName := ⟨rn_M, "tick", "(I)I"⟩
abbrev cd_M_talk : ByteArray := prog_8_method_34_code
def my_M_talk : MethodName := ⟨rn_M, "talk", "(III)V"⟩
abbrev cd_M_time : ByteArray := prog_8_method_35_code
def my_M_time : MethodName := ⟨rn_M, "time", "(I)V"⟩
abbrev cd_M_ended : ByteArray := prog_8_method_36_code
def my_M_ended : MethodName := ⟨rn_M, "ended", "(II)I"⟩
abbrev cd_M_value : ByteArray := prog_8_method_37_code
def my_M_value : MethodName := ⟨rn_M, "value", "(II)I"⟩
abbrev cd_M_waiting : ByteArray := prog_8_method_38_code
def my_M_waiting : MethodName := ⟨rn_M, "waiting", "(I)I"⟩
abbrev cd_M_about : ByteArray := prog_8_method_39_code
def my_M_about : MethodName := ⟨rn_M, "about", "(II)I"⟩
abbrev cd_M_word : ByteArray := prog_8_method_40_code
def my_M_word : MethodName := ⟨rn_M, "word", "(II)I"⟩
abbrev cd_M_count : ByteArray := prog_8_method_41_code
def my_M_count : MethodName := ⟨rn_M, "count", "(I)I"⟩
abbrev cd_L_plug : ByteArray := method_3_code
def my_L_plug : MethodName := ⟨rn_L, "plug", "(LSerialBus;IIII[J)I"⟩
abbrev cd_L_unplug : ByteArray := method_4_code
def my_L_unplug : MethodName := ⟨rn_L, "unplug", "(LSerialBus;II[J)I"⟩
abbrev cd_L_reset : ByteArray := method_5_code
def my_L_reset : MethodName := ⟨rn_L, "reset", "(LSerialBus;IIZZ)I"⟩
abbrev cd_L_ask : ByteArray := method_6_code
def my_L_ask : MethodName := ⟨rn_L, "ask", "(LSerialBus;IIIIII[J)I"⟩
abbrev cd_L_talk : ByteArray := method_7_code
def my_L_talk : MethodName := ⟨rn_L, "talk", "(LSerialBus;III)I"⟩
abbrev cd_L_time : ByteArray := method_8_code
def my_L_time : MethodName := ⟨rn_L, "time", "(LSerialBus;I)I"⟩
abbrev cd_L_tick : ByteArray := method_9_code
def my_L_tick : MethodName := ⟨rn_L, "tick", "(LSerialBus;I[J)I"⟩
abbrev cd_L_ended : ByteArray := method_10_code
def my_L_ended : MethodName := ⟨rn_L, "ended", "(LSerialBus;II[J)I"⟩
abbrev cd_L_value : ByteArray := method_11_code
def my_L_value : MethodName := ⟨rn_L, "value", "(LSerialBus;II[J)I"⟩
abbrev cd_L_about : ByteArray := method_12_code
def my_L_about : MethodName := ⟨rn_L, "about", "(LSerialBus;II[J)I"⟩
abbrev cd_L_word : ByteArray := method_13_code
def my_L_word : MethodName := ⟨rn_L, "word", "(LSerialBus;II[J)I"⟩
abbrev cd_L_law : ByteArray := code
def my_L_law : MethodName := ⟨rn_L, "law", "([I)Z"⟩
end
section
theorem dc_N_init_0 : decode cd_N_init 0 = .ok (.aload_n 0, 1) := by decide +kernel
theorem dc_N_init_1 : decode cd_N_init 1 = .ok (.invokespecial 3, 3) := by decide +kernel
theorem dc_N_init_4 : decode cd_N_init 4 = .ok (.aload_n 0, 1) := by decide +kernel
theorem dc_N_init_5 : decode cd_N_init 5 = .ok (.bipush 8, 2) := by decide +kernel
theorem dc_N_init_7 : decode cd_N_init 7 = .ok (.newarray .int, 2) := by decide +kernel
theorem dc_N_init_9 : decode cd_N_init 9 = .ok (.putfield 9, 3) := by decide +kernel
theorem dc_N_init_12 : decode cd_N_init 12 = .ok (.aload_n 0, 1) := by decide +kernel
theorem dc_N_init_13 : decode cd_N_init 13 = .ok (.new 15, 3) := by decide +kernel
theorem dc_N_init_16 : decode cd_N_init 16 = .ok (.dup, 1) := by decide +kernel
theorem dc_N_init_17 : decode cd_N_init 17 = .ok (.invokespecial 17, 3) := by decide +kernel
theorem dc_N_init_20 : decode cd_N_init 20 = .ok (.putfield 18, 3) := by decide +kernel
theorem dc_N_init_23 : decode cd_N_init 23 = .ok (.aload_n 0, 1) := by decide +kernel
theorem dc_N_init_24 : decode cd_N_init 24 = .ok (.iconst 4, 1) := by decide +kernel
theorem dc_N_init_25 : decode cd_N_init 25 = .ok (.anewarray 22, 3) := by decide +kernel
theorem dc_N_init_28 : decode cd_N_init 28 = .ok (.putfield 24, 3) := by decide +kernel
theorem dc_N_init_31 : decode cd_N_init 31 = .ok (.aload_n 0, 1) := by decide +kernel
theorem dc_N_init_32 : decode cd_N_init 32 = .ok (.iconst 1, 1) := by decide +kernel
theorem dc_N_init_33 : decode cd_N_init 33 = .ok (.putfield 28, 3) := by decide +kernel
theorem dc_N_init_36 : decode cd_N_init 36 = .ok (.aload_n 0, 1) := by decide +kernel
theorem dc_N_init_37 : decode cd_N_init 37 = .ok (.iconst (-1), 1) := by decide +kernel
theorem dc_N_init_38 : decode cd_N_init 38 = .ok (.putfield 32, 3) := by decide +kernel
theorem dc_N_init_41 : decode cd_N_init 41 = .ok (.aload_n 0, 1) := by decide +kernel
theorem dc_N_init_42 : decode cd_N_init 42 = .ok (.iconst (-1), 1) := by decide +kernel
theorem dc_N_init_43 : decode cd_N_init 43 = .ok (.putfield 36, 3) := by decide +kernel
theorem dc_N_init_46 : decode cd_N_init 46 = .ok (.aload_n 0, 1) := by decide +kernel
theorem dc_N_init_47 : decode cd_N_init 47 = .ok (.iconst (-1), 1) := by decide +kernel
theorem dc_N_init_48 : decode cd_N_init 48 = .ok (.putfield 39, 3) := by decide +kernel
theorem dc_N_init_51 : decode cd_N_init 51 = .ok (.aload_n 0, 1) := by decide +kernel
theorem dc_N_init_52 : decode cd_N_init 52 = .ok (.iconst (-1), 1) := by decide +kernel
theorem dc_N_init_53 : decode cd_N_init 53 = .ok (.putfield 42, 3) := by decide +kernel
theorem dc_N_init_56 : decode cd_N_init 56 = .ok (.aload_n 0, 1) := by decide +kernel
theorem dc_N_init_57 : decode cd_N_init 57 = .ok (.getfield 9, 3) := by decide +kernel
theorem dc_N_init_60 : decode cd_N_init 60 = .ok (.bipush 6, 2) := by decide +kernel
theorem dc_N_init_62 : decode cd_N_init 62 = .ok (.bipush 100, 2) := by decide +kernel
theorem dc_N_init_64 : decode cd_N_init 64 = .ok (.iastore, 1) := by decide +kernel
theorem dc_N_init_65 : decode cd_N_init 65 = .ok (.aload_n 0, 1) := by decide +kernel
theorem dc_N_init_66 : decode cd_N_init 66 = .ok (.getfield 9, 3) := by decide +kernel
theorem dc_N_init_69 : decode cd_N_init 69 = .ok (.bipush 7, 2) := by decide +kernel
theorem dc_N_init_71 : decode cd_N_init 71 = .ok (.iconst (-1), 1) := by decide +kernel
theorem dc_N_init_72 : decode cd_N_init 72 = .ok (.iastore, 1) := by decide +kernel
theorem dc_N_init_73 : decode cd_N_init 73 = .ok (.return_, 1) := by decide +kernel
theorem dc_N_startAnew_0 : decode cd_N_startAnew 0 = .ok (.iconst 0, 1) := by decide +kernel
theorem dc_N_startAnew_1 : decode cd_N_startAnew 1 = .ok (.istore_n 1, 1) := by decide +kernel
theorem dc_N_startAnew_2 : decode cd_N_startAnew 2 = .ok (.iload_n 1, 1) := by decide +kernel
theorem dc_N_startAnew_3 : decode cd_N_startAnew 3 = .ok (.iconst 4, 1) := by decide +kernel
theorem dc_N_startAnew_4 : decode cd_N_startAnew 4 = .ok (.if_icmp .ge 28, 3) := by decide +kernel
theorem dc_N_startAnew_7 : decode cd_N_startAnew 7 = .ok (.aload_n 0, 1) := by decide +kernel
theorem dc_N_startAnew_8 : decode cd_N_startAnew 8 = .ok (.getfield 24, 3) := by decide +kernel
theorem dc_N_startAnew_11 : decode cd_N_startAnew 11 = .ok (.iload_n 1, 1) := by decide +kernel
theorem dc_N_startAnew_12 : decode cd_N_startAnew 12 = .ok (.aaload, 1) := by decide +kernel
theorem dc_N_startAnew_13 : decode cd_N_startAnew 13 = .ok (.ifnull 13, 3) := by decide +kernel
theorem dc_N_startAnew_16 : decode cd_N_startAnew 16 = .ok (.aload_n 0, 1) := by decide +kernel
theorem dc_N_startAnew_17 : decode cd_N_startAnew 17 = .ok (.getfield 24, 3) := by decide +kernel
theorem dc_N_startAnew_20 : decode cd_N_startAnew 20 = .ok (.iload_n 1, 1) := by decide +kernel
theorem dc_N_startAnew_21 : decode cd_N_startAnew 21 = .ok (.aaload, 1) := by decide +kernel
theorem dc_N_startAnew_22 : decode cd_N_startAnew 22 = .ok (.iconst 1, 1) := by decide +kernel
theorem dc_N_startAnew_23 : decode cd_N_startAnew 23 = .ok (.invokevirtual 45, 3) := by decide +kernel
theorem dc_N_startAnew_26 : decode cd_N_startAnew 26 = .ok (.iinc 1 1, 3) := by decide +kernel
theorem dc_N_startAnew_29 : decode cd_N_startAnew 29 = .ok (.goto (-27), 3) := by decide +kernel
theorem dc_N_startAnew_32 : decode cd_N_startAnew 32 = .ok (.aload_n 0, 1) := by decide +kernel
theorem dc_N_startAnew_33 : decode cd_N_startAnew 33 = .ok (.getfield 18, 3) := by decide +kernel
theorem dc_N_startAnew_36 : decode cd_N_startAnew 36 = .ok (.invokevirtual 49, 3) := by decide +kernel
theorem dc_N_startAnew_39 : decode cd_N_startAnew 39 = .ok (.aload_n 0, 1) := by decide +kernel
theorem dc_N_startAnew_40 : decode cd_N_startAnew 40 = .ok (.iconst 0, 1) := by decide +kernel
theorem dc_N_startAnew_41 : decode cd_N_startAnew 41 = .ok (.putfield 52, 3) := by decide +kernel
theorem dc_N_startAnew_44 : decode cd_N_startAnew 44 = .ok (.aload_n 0, 1) := by decide +kernel
theorem dc_N_startAnew_45 : decode cd_N_startAnew 45 = .ok (.getfield 9, 3) := by decide +kernel
theorem dc_N_startAnew_48 : decode cd_N_startAnew 48 = .ok (.bipush 6, 2) := by decide +kernel
theorem dc_N_startAnew_50 : decode cd_N_startAnew 50 = .ok (.bipush 100, 2) := by decide +kernel
theorem dc_N_startAnew_52 : decode cd_N_startAnew 52 = .ok (.iastore, 1) := by decide +kernel
theorem dc_N_startAnew_53 : decode cd_N_startAnew 53 = .ok (.aload_n 0, 1) := by decide +kernel
theorem dc_N_startAnew_54 : decode cd_N_startAnew 54 = .ok (.getfield 9, 3) := by decide +kernel
theorem dc_N_startAnew_57 : decode cd_N_startAnew 57 = .ok (.bipush 7, 2) := by decide +kernel
theorem dc_N_startAnew_59 : decode cd_N_startAnew 59 = .ok (.iconst (-1), 1) := by decide +kernel
theorem dc_N_startAnew_60 : decode cd_N_startAnew 60 = .ok (.iastore, 1) := by decide +kernel
theorem dc_N_startAnew_61 : decode cd_N_startAnew 61 = .ok (.aload_n 0, 1) := by decide +kernel
theorem dc_N_startAnew_62 : decode cd_N_startAnew 62 = .ok (.iconst (-1), 1) := by decide +kernel
theorem dc_N_startAnew_63 : decode cd_N_startAnew 63 = .ok (.putfield 32, 3) := by decide +kernel
theorem dc_N_startAnew_66 : decode cd_N_startAnew 66 = .ok (.aload_n 0, 1) := by decide +kernel
theorem dc_N_startAnew_67 : decode cd_N_startAnew 67 = .ok (.iconst (-1), 1) := by decide +kernel
theorem dc_N_startAnew_68 : decode cd_N_startAnew 68 = .ok (.putfield 36, 3) := by decide +kernel
theorem dc_N_startAnew_71 : decode cd_N_startAnew 71 = .ok (.aload_n 0, 1) := by decide +kernel
theorem dc_N_startAnew_72 : decode cd_N_startAnew 72 = .ok (.iconst 0, 1) := by decide +kernel
theorem dc_N_startAnew_73 : decode cd_N_startAnew 73 = .ok (.putfield 28, 3) := by decide +kernel
theorem dc_N_startAnew_76 : decode cd_N_startAnew 76 = .ok (.return_, 1) := by decide +kernel
theorem dc_N_learn_0 : decode cd_N_learn 0 = .ok (.aload_n 0, 1) := by decide +kernel
theorem dc_N_learn_1 : decode cd_N_learn 1 = .ok (.iload_n 1, 1) := by decide +kernel
theorem dc_N_learn_2 : decode cd_N_learn 2 = .ok (.putfield 55, 3) := by decide +kernel
theorem dc_N_learn_5 : decode cd_N_learn 5 = .ok (.aload_n 0, 1) := by decide +kernel
theorem dc_N_learn_6 : decode cd_N_learn 6 = .ok (.iload_n 2, 1) := by decide +kernel
theorem dc_N_learn_7 : decode cd_N_learn 7 = .ok (.putfield 39, 3) := by decide +kernel
theorem dc_N_learn_10 : decode cd_N_learn 10 = .ok (.aload_n 0, 1) := by decide +kernel
theorem dc_N_learn_11 : decode cd_N_learn 11 = .ok (.iload_n 3, 1) := by decide +kernel
theorem dc_N_learn_12 : decode cd_N_learn 12 = .ok (.putfield 42, 3) := by decide +kernel
theorem dc_N_learn_15 : decode cd_N_learn 15 = .ok (.iload_n 1, 1) := by decide +kernel
theorem dc_N_learn_16 : decode cd_N_learn 16 = .ok (.ifCond .eq 8, 3) := by decide +kernel
theorem dc_N_learn_19 : decode cd_N_learn 19 = .ok (.aload_n 0, 1) := by decide +kernel
theorem dc_N_learn_20 : decode cd_N_learn 20 = .ok (.iconst (-1), 1) := by decide +kernel
theorem dc_N_learn_21 : decode cd_N_learn 21 = .ok (.putfield 36, 3) := by decide +kernel
theorem dc_N_learn_24 : decode cd_N_learn 24 = .ok (.return_, 1) := by decide +kernel
theorem dc_N_takeBit_0 : decode cd_N_takeBit 0 = .ok (.aload_n 0, 1) := by decide +kernel
theorem dc_N_takeBit_1 : decode cd_N_takeBit 1 = .ok (.getfield 58, 3) := by decide +kernel
theorem dc_N_takeBit_4 : decode cd_N_takeBit 4 = .ok (.aload_n 0, 1) := by decide +kernel
theorem dc_N_takeBit_5 : decode cd_N_takeBit 5 = .ok (.getfield 61, 3) := by decide +kernel
theorem dc_N_takeBit_8 : decode cd_N_takeBit 8 = .ok (.ishr, 1) := by decide +kernel
theorem dc_N_takeBit_9 : decode cd_N_takeBit 9 = .ok (.iconst 1, 1) := by decide +kernel
theorem dc_N_takeBit_10 : decode cd_N_takeBit 10 = .ok (.iand, 1) := by decide +kernel
theorem dc_N_takeBit_11 : decode cd_N_takeBit 11 = .ok (.istore_n 1, 1) := by decide +kernel
theorem dc_N_takeBit_12 : decode cd_N_takeBit 12 = .ok (.aload_n 0, 1) := by decide +kernel
theorem dc_N_takeBit_13 : decode cd_N_takeBit 13 = .ok (.aload_n 0, 1) := by decide +kernel
theorem dc_N_takeBit_14 : decode cd_N_takeBit 14 = .ok (.getfield 61, 3) := by decide +kernel
theorem dc_N_takeBit_17 : decode cd_N_takeBit 17 = .ok (.iconst 1, 1) := by decide +kernel
theorem dc_N_takeBit_18 : decode cd_N_takeBit 18 = .ok (.iadd, 1) := by decide +kernel
theorem dc_N_takeBit_19 : decode cd_N_takeBit 19 = .ok (.bipush 16, 2) := by decide +kernel
theorem dc_N_takeBit_21 : decode cd_N_takeBit 21 = .ok (.irem, 1) := by decide +kernel
theorem dc_N_takeBit_22 : decode cd_N_takeBit 22 = .ok (.putfield 61, 3) := by decide +kernel
theorem dc_N_takeBit_25 : decode cd_N_takeBit 25 = .ok (.iload_n 1, 1) := by decide +kernel
theorem dc_N_takeBit_26 : decode cd_N_takeBit 26 = .ok (.ireturn, 1) := by decide +kernel
theorem dc_N_leastLabelThatDoesNotWait_0 : decode cd_N_leastLabelThatDoesNotWait 0 = .ok (.iconst 0, 1) := by decide +kernel
theorem dc_N_leastLabelThatDoesNotWait_1 : decode cd_N_leastLabelThatDoesNotWait 1 = .ok (.istore_n 1, 1) := by decide +kernel
theorem dc_N_leastLabelThatDoesNotWait_2 : decode cd_N_leastLabelThatDoesNotWait 2 = .ok (.iload_n 1, 1) := by decide +kernel
theorem dc_N_leastLabelThatDoesNotWait_3 : decode cd_N_leastLabelThatDoesNotWait 3 = .ok (.iconst 4, 1) := by decide +kernel
theorem dc_N_leastLabelThatDoesNotWait_4 : decode cd_N_leastLabelThatDoesNotWait 4 = .ok (.if_icmp .ge 19, 3) := by decide +kernel
theorem dc_N_leastLabelThatDoesNotWait_7 : decode cd_N_leastLabelThatDoesNotWait 7 = .ok (.aload_n 0, 1) := by decide +kernel
theorem dc_N_leastLabelThatDoesNotWait_8 : decode cd_N_leastLabelThatDoesNotWait 8 = .ok (.iload_n 1, 1) := by decide +kernel
theorem dc_N_leastLabelThatDoesNotWait_9 : decode cd_N_leastLabelThatDoesNotWait 9 = .ok (.invokevirtual 64, 3) := by decide +kernel
theorem dc_N_leastLabelThatDoesNotWait_12 : decode cd_N_leastLabelThatDoesNotWait 12 = .ok (.ifCond .ne 5, 3) := by decide +kernel
theorem dc_N_leastLabelThatDoesNotWait_15 : decode cd_N_leastLabelThatDoesNotWait 15 = .ok (.iload_n 1, 1) := by decide +kernel
theorem dc_N_leastLabelThatDoesNotWait_16 : decode cd_N_leastLabelThatDoesNotWait 16 = .ok (.ireturn, 1) := by decide +kernel
theorem dc_N_leastLabelThatDoesNotWait_17 : decode cd_N_leastLabelThatDoesNotWait 17 = .ok (.iinc 1 1, 3) := by decide +kernel
theorem dc_N_leastLabelThatDoesNotWait_20 : decode cd_N_leastLabelThatDoesNotWait 20 = .ok (.goto (-18), 3) := by decide +kernel
theorem dc_N_leastLabelThatDoesNotWait_23 : decode cd_N_leastLabelThatDoesNotWait 23 = .ok (.iconst (-1), 1) := by decide +kernel
theorem dc_N_leastLabelThatDoesNotWait_24 : decode cd_N_leastLabelThatDoesNotWait 24 = .ok (.ireturn, 1) := by decide +kernel
theorem dc_N_waitingRequests_0 : decode cd_N_waitingRequests 0 = .ok (.iconst 0, 1) := by decide +kernel
theorem dc_N_waitingRequests_1 : decode cd_N_waitingRequests 1 = .ok (.istore_n 1, 1) := by decide +kernel
theorem dc_N_waitingRequests_2 : decode cd_N_waitingRequests 2 = .ok (.iconst 0, 1) := by decide +kernel
theorem dc_N_waitingRequests_3 : decode cd_N_waitingRequests 3 = .ok (.istore_n 2, 1) := by decide +kernel
theorem dc_N_waitingRequests_4 : decode cd_N_waitingRequests 4 = .ok (.iload_n 2, 1) := by decide +kernel
theorem dc_N_waitingRequests_5 : decode cd_N_waitingRequests 5 = .ok (.iconst 4, 1) := by decide +kernel
theorem dc_N_waitingRequests_6 : decode cd_N_waitingRequests 6 = .ok (.if_icmp .ge 20, 3) := by decide +kernel
theorem dc_N_waitingRequests_9 : decode cd_N_waitingRequests 9 = .ok (.aload_n 0, 1) := by decide +kernel
theorem dc_N_waitingRequests_10 : decode cd_N_waitingRequests 10 = .ok (.iload_n 2, 1) := by decide +kernel
theorem dc_N_waitingRequests_11 : decode cd_N_waitingRequests 11 = .ok (.invokevirtual 64, 3) := by decide +kernel
theorem dc_N_waitingRequests_14 : decode cd_N_waitingRequests 14 = .ok (.ifCond .eq 6, 3) := by decide +kernel
theorem dc_N_waitingRequests_17 : decode cd_N_waitingRequests 17 = .ok (.iinc 1 1, 3) := by decide +kernel
theorem dc_N_waitingRequests_20 : decode cd_N_waitingRequests 20 = .ok (.iinc 2 1, 3) := by decide +kernel
theorem dc_N_waitingRequests_23 : decode cd_N_waitingRequests 23 = .ok (.goto (-19), 3) := by decide +kernel
theorem dc_N_waitingRequests_26 : decode cd_N_waitingRequests 26 = .ok (.iload_n 1, 1) := by decide +kernel
theorem dc_N_waitingRequests_27 : decode cd_N_waitingRequests 27 = .ok (.ireturn, 1) := by decide +kernel
theorem dc_N_endLateRequests_0 : decode cd_N_endLateRequests 0 = .ok (.iconst 0, 1) := by decide +kernel
theorem dc_N_endLateRequests_1 : decode cd_N_endLateRequests 1 = .ok (.istore_n 2, 1) := by decide +kernel
theorem dc_N_endLateRequests_2 : decode cd_N_endLateRequests 2 = .ok (.iload_n 2, 1) := by decide +kernel
theorem dc_N_endLateRequests_3 : decode cd_N_endLateRequests 3 = .ok (.iconst 4, 1) := by decide +kernel
theorem dc_N_endLateRequests_4 : decode cd_N_endLateRequests 4 = .ok (.if_icmp .ge 56, 3) := by decide +kernel
theorem dc_N_endLateRequests_7 : decode cd_N_endLateRequests 7 = .ok (.aload_n 0, 1) := by decide +kernel
theorem dc_N_endLateRequests_8 : decode cd_N_endLateRequests 8 = .ok (.getfield 24, 3) := by decide +kernel
theorem dc_N_endLateRequests_11 : decode cd_N_endLateRequests 11 = .ok (.iload_n 2, 1) := by decide +kernel
theorem dc_N_endLateRequests_12 : decode cd_N_endLateRequests 12 = .ok (.aaload, 1) := by decide +kernel
theorem dc_N_endLateRequests_13 : decode cd_N_endLateRequests 13 = .ok (.astore_n 3, 1) := by decide +kernel
theorem dc_N_endLateRequests_14 : decode cd_N_endLateRequests 14 = .ok (.aload_n 3, 1) := by decide +kernel
theorem dc_N_endLateRequests_15 : decode cd_N_endLateRequests 15 = .ok (.ifnull 39, 3) := by decide +kernel
theorem dc_N_endLateRequests_18 : decode cd_N_endLateRequests 18 = .ok (.aload_n 3, 1) := by decide +kernel
theorem dc_N_endLateRequests_19 : decode cd_N_endLateRequests 19 = .ok (.getfield 68, 3) := by decide +kernel
theorem dc_N_endLateRequests_22 : decode cd_N_endLateRequests 22 = .ok (.iconst (-1), 1) := by decide +kernel
theorem dc_N_endLateRequests_23 : decode cd_N_endLateRequests 23 = .ok (.if_icmp .ne 31, 3) := by decide +kernel
theorem dc_N_endLateRequests_26 : decode cd_N_endLateRequests 26 = .ok (.aload_n 3, 1) := by decide +kernel
theorem dc_N_endLateRequests_27 : decode cd_N_endLateRequests 27 = .ok (.getfield 71, 3) := by decide +kernel
theorem dc_N_endLateRequests_30 : decode cd_N_endLateRequests 30 = .ok (.iload_n 1, 1) := by decide +kernel
theorem dc_N_endLateRequests_31 : decode cd_N_endLateRequests 31 = .ok (.if_icmp .gt 23, 3) := by decide +kernel
theorem dc_N_endLateRequests_34 : decode cd_N_endLateRequests 34 = .ok (.aload_n 3, 1) := by decide +kernel
theorem dc_N_endLateRequests_35 : decode cd_N_endLateRequests 35 = .ok (.iconst 4, 1) := by decide +kernel
theorem dc_N_endLateRequests_36 : decode cd_N_endLateRequests 36 = .ok (.invokevirtual 45, 3) := by decide +kernel
theorem dc_N_endLateRequests_39 : decode cd_N_endLateRequests 39 = .ok (.aload_n 3, 1) := by decide +kernel
theorem dc_N_endLateRequests_40 : decode cd_N_endLateRequests 40 = .ok (.getfield 74, 3) := by decide +kernel
theorem dc_N_endLateRequests_43 : decode cd_N_endLateRequests 43 = .ok (.ifCond .ne 11, 3) := by decide +kernel
theorem dc_N_endLateRequests_46 : decode cd_N_endLateRequests 46 = .ok (.aload_n 0, 1) := by decide +kernel
theorem dc_N_endLateRequests_47 : decode cd_N_endLateRequests 47 = .ok (.getfield 18, 3) := by decide +kernel
theorem dc_N_endLateRequests_50 : decode cd_N_endLateRequests 50 = .ok (.aload_n 3, 1) := by decide +kernel
theorem dc_N_endLateRequests_51 : decode cd_N_endLateRequests 51 = .ok (.invokevirtual 77, 3) := by decide +kernel
theorem dc_N_endLateRequests_54 : decode cd_N_endLateRequests 54 = .ok (.iinc 2 1, 3) := by decide +kernel
theorem dc_N_endLateRequests_57 : decode cd_N_endLateRequests 57 = .ok (.goto (-55), 3) := by decide +kernel
theorem dc_N_endLateRequests_60 : decode cd_N_endLateRequests 60 = .ok (.return_, 1) := by decide +kernel
theorem dc_N_waits_0 : decode cd_N_waits 0 = .ok (.aload_n 0, 1) := by decide +kernel
theorem dc_N_waits_1 : decode cd_N_waits 1 = .ok (.getfield 24, 3) := by decide +kernel
theorem dc_N_waits_4 : decode cd_N_waits 4 = .ok (.iload_n 1, 1) := by decide +kernel
theorem dc_N_waits_5 : decode cd_N_waits 5 = .ok (.aaload, 1) := by decide +kernel
theorem dc_N_waits_6 : decode cd_N_waits 6 = .ok (.ifnull 20, 3) := by decide +kernel
theorem dc_N_waits_9 : decode cd_N_waits 9 = .ok (.aload_n 0, 1) := by decide +kernel
theorem dc_N_waits_10 : decode cd_N_waits 10 = .ok (.getfield 24, 3) := by decide +kernel
theorem dc_N_waits_13 : decode cd_N_waits 13 = .ok (.iload_n 1, 1) := by decide +kernel
theorem dc_N_waits_14 : decode cd_N_waits 14 = .ok (.aaload, 1) := by decide +kernel
theorem dc_N_waits_15 : decode cd_N_waits 15 = .ok (.getfield 68, 3) := by decide +kernel
theorem dc_N_waits_18 : decode cd_N_waits 18 = .ok (.iconst (-1), 1) := by decide +kernel
theorem dc_N_waits_19 : decode cd_N_waits 19 = .ok (.if_icmp .ne 7, 3) := by decide +kernel
theorem dc_N_waits_22 : decode cd_N_waits 22 = .ok (.iconst 1, 1) := by decide +kernel
theorem dc_N_waits_23 : decode cd_N_waits 23 = .ok (.goto 4, 3) := by decide +kernel
theorem dc_N_waits_26 : decode cd_N_waits 26 = .ok (.iconst 0, 1) := by decide +kernel
theorem dc_N_waits_27 : decode cd_N_waits 27 = .ok (.ireturn, 1) := by decide +kernel
theorem dc_Q_init_0 : decode cd_Q_init 0 = .ok (.aload_n 0, 1) := by decide +kernel
theorem dc_Q_init_1 : decode cd_Q_init 1 = .ok (.invokespecial 3, 3) := by decide +kernel
theorem dc_Q_init_4 : decode cd_Q_init 4 = .ok (.aload_n 0, 1) := by decide +kernel
theorem dc_Q_init_5 : decode cd_Q_init 5 = .ok (.bipush 6, 2) := by decide +kernel
theorem dc_Q_init_7 : decode cd_Q_init 7 = .ok (.anewarray 9, 3) := by decide +kernel
theorem dc_Q_init_10 : decode cd_Q_init 10 = .ok (.putfield 11, 3) := by decide +kernel
theorem dc_Q_init_13 : decode cd_Q_init 13 = .ok (.return_, 1) := by decide +kernel
theorem dc_Q_isEmpty_0 : decode cd_Q_isEmpty 0 = .ok (.aload_n 0, 1) := by decide +kernel
theorem dc_Q_isEmpty_1 : decode cd_Q_isEmpty 1 = .ok (.getfield 17, 3) := by decide +kernel
theorem dc_Q_isEmpty_4 : decode cd_Q_isEmpty 4 = .ok (.ifCond .ne 7, 3) := by decide +kernel
theorem dc_Q_isEmpty_7 : decode cd_Q_isEmpty 7 = .ok (.iconst 1, 1) := by decide +kernel
theorem dc_Q_isEmpty_8 : decode cd_Q_isEmpty 8 = .ok (.goto 4, 3) := by decide +kernel
theorem dc_Q_isEmpty_11 : decode cd_Q_isEmpty 11 = .ok (.iconst 0, 1) := by decide +kernel
theorem dc_Q_isEmpty_12 : decode cd_Q_isEmpty 12 = .ok (.ireturn, 1) := by decide +kernel
theorem dc_Q_isFull_0 : decode cd_Q_isFull 0 = .ok (.aload_n 0, 1) := by decide +kernel
theorem dc_Q_isFull_1 : decode cd_Q_isFull 1 = .ok (.getfield 17, 3) := by decide +kernel
theorem dc_Q_isFull_4 : decode cd_Q_isFull 4 = .ok (.bipush 6, 2) := by decide +kernel
theorem dc_Q_isFull_6 : decode cd_Q_isFull 6 = .ok (.if_icmp .lt 7, 3) := by decide +kernel
theorem dc_Q_isFull_9 : decode cd_Q_isFull 9 = .ok (.iconst 1, 1) := by decide +kernel
theorem dc_Q_isFull_10 : decode cd_Q_isFull 10 = .ok (.goto 4, 3) := by decide +kernel
theorem dc_Q_isFull_13 : decode cd_Q_isFull 13 = .ok (.iconst 0, 1) := by decide +kernel
theorem dc_Q_isFull_14 : decode cd_Q_isFull 14 = .ok (.ireturn, 1) := by decide +kernel
theorem dc_Q_append_0 : decode cd_Q_append 0 = .ok (.aload_n 0, 1) := by decide +kernel
theorem dc_Q_append_1 : decode cd_Q_append 1 = .ok (.invokevirtual 21, 3) := by decide +kernel
theorem dc_Q_append_4 : decode cd_Q_append 4 = .ok (.ifCond .ne 23, 3) := by decide +kernel
theorem dc_Q_append_7 : decode cd_Q_append 7 = .ok (.aload_n 0, 1) := by decide +kernel
theorem dc_Q_append_8 : decode cd_Q_append 8 = .ok (.getfield 11, 3) := by decide +kernel
theorem dc_Q_append_11 : decode cd_Q_append 11 = .ok (.aload_n 0, 1) := by decide +kernel
theorem dc_Q_append_12 : decode cd_Q_append 12 = .ok (.getfield 17, 3) := by decide +kernel
theorem dc_Q_append_15 : decode cd_Q_append 15 = .ok (.aload_n 1, 1) := by decide +kernel
theorem dc_Q_append_16 : decode cd_Q_append 16 = .ok (.aastore, 1) := by decide +kernel
theorem dc_Q_append_17 : decode cd_Q_append 17 = .ok (.aload_n 0, 1) := by decide +kernel
theorem dc_Q_append_18 : decode cd_Q_append 18 = .ok (.dup, 1) := by decide +kernel
theorem dc_Q_append_19 : decode cd_Q_append 19 = .ok (.getfield 17, 3) := by decide +kernel
theorem dc_Q_append_22 : decode cd_Q_append 22 = .ok (.iconst 1, 1) := by decide +kernel
theorem dc_Q_append_23 : decode cd_Q_append 23 = .ok (.iadd, 1) := by decide +kernel
theorem dc_Q_append_24 : decode cd_Q_append 24 = .ok (.putfield 17, 3) := by decide +kernel
theorem dc_Q_append_27 : decode cd_Q_append 27 = .ok (.return_, 1) := by decide +kernel
theorem dc_Q_takeFirst_0 : decode cd_Q_takeFirst 0 = .ok (.aload_n 0, 1) := by decide +kernel
theorem dc_Q_takeFirst_1 : decode cd_Q_takeFirst 1 = .ok (.invokevirtual 25, 3) := by decide +kernel
theorem dc_Q_takeFirst_4 : decode cd_Q_takeFirst 4 = .ok (.ifCond .eq 5, 3) := by decide +kernel
theorem dc_Q_takeFirst_7 : decode cd_Q_takeFirst 7 = .ok (.aconst_null, 1) := by decide +kernel
theorem dc_Q_takeFirst_8 : decode cd_Q_takeFirst 8 = .ok (.areturn, 1) := by decide +kernel
theorem dc_Q_takeFirst_9 : decode cd_Q_takeFirst 9 = .ok (.aload_n 0, 1) := by decide +kernel
theorem dc_Q_takeFirst_10 : decode cd_Q_takeFirst 10 = .ok (.getfield 11, 3) := by decide +kernel
theorem dc_Q_takeFirst_13 : decode cd_Q_takeFirst 13 = .ok (.iconst 0, 1) := by decide +kernel
theorem dc_Q_takeFirst_14 : decode cd_Q_takeFirst 14 = .ok (.aaload, 1) := by decide +kernel
theorem dc_Q_takeFirst_15 : decode cd_Q_takeFirst 15 = .ok (.astore_n 1, 1) := by decide +kernel
theorem dc_Q_takeFirst_16 : decode cd_Q_takeFirst 16 = .ok (.aload_n 0, 1) := by decide +kernel
theorem dc_Q_takeFirst_17 : decode cd_Q_takeFirst 17 = .ok (.iconst 0, 1) := by decide +kernel
theorem dc_Q_takeFirst_18 : decode cd_Q_takeFirst 18 = .ok (.invokevirtual 28, 3) := by decide +kernel
theorem dc_Q_takeFirst_21 : decode cd_Q_takeFirst 21 = .ok (.aload_n 1, 1) := by decide +kernel
theorem dc_Q_takeFirst_22 : decode cd_Q_takeFirst 22 = .ok (.areturn, 1) := by decide +kernel
theorem dc_Q_drop_0 : decode cd_Q_drop 0 = .ok (.iconst 0, 1) := by decide +kernel
theorem dc_Q_drop_1 : decode cd_Q_drop 1 = .ok (.istore_n 2, 1) := by decide +kernel
theorem dc_Q_drop_2 : decode cd_Q_drop 2 = .ok (.iload_n 2, 1) := by decide +kernel
theorem dc_Q_drop_3 : decode cd_Q_drop 3 = .ok (.aload_n 0, 1) := by decide +kernel
theorem dc_Q_drop_4 : decode cd_Q_drop 4 = .ok (.getfield 17, 3) := by decide +kernel
theorem dc_Q_drop_7 : decode cd_Q_drop 7 = .ok (.if_icmp .ge 25, 3) := by decide +kernel
theorem dc_Q_drop_10 : decode cd_Q_drop 10 = .ok (.aload_n 0, 1) := by decide +kernel
theorem dc_Q_drop_11 : decode cd_Q_drop 11 = .ok (.getfield 11, 3) := by decide +kernel
theorem dc_Q_drop_14 : decode cd_Q_drop 14 = .ok (.iload_n 2, 1) := by decide +kernel
theorem dc_Q_drop_15 : decode cd_Q_drop 15 = .ok (.aaload, 1) := by decide +kernel
theorem dc_Q_drop_16 : decode cd_Q_drop 16 = .ok (.aload_n 1, 1) := by decide +kernel
theorem dc_Q_drop_17 : decode cd_Q_drop 17 = .ok (.if_acmp .ne 9, 3) := by decide +kernel
theorem dc_Q_drop_20 : decode cd_Q_drop 20 = .ok (.aload_n 0, 1) := by decide +kernel
theorem dc_Q_drop_21 : decode cd_Q_drop 21 = .ok (.iload_n 2, 1) := by decide +kernel
theorem dc_Q_drop_22 : decode cd_Q_drop 22 = .ok (.invokevirtual 28, 3) := by decide +kernel
theorem dc_Q_drop_25 : decode cd_Q_drop 25 = .ok (.return_, 1) := by decide +kernel
theorem dc_Q_drop_26 : decode cd_Q_drop 26 = .ok (.iinc 2 1, 3) := by decide +kernel
theorem dc_Q_drop_29 : decode cd_Q_drop 29 = .ok (.goto (-27), 3) := by decide +kernel
theorem dc_Q_drop_32 : decode cd_Q_drop 32 = .ok (.return_, 1) := by decide +kernel
theorem dc_Q_empty_0 : decode cd_Q_empty 0 = .ok (.iconst 0, 1) := by decide +kernel
theorem dc_Q_empty_1 : decode cd_Q_empty 1 = .ok (.istore_n 1, 1) := by decide +kernel
theorem dc_Q_empty_2 : decode cd_Q_empty 2 = .ok (.iload_n 1, 1) := by decide +kernel
theorem dc_Q_empty_3 : decode cd_Q_empty 3 = .ok (.bipush 6, 2) := by decide +kernel
theorem dc_Q_empty_5 : decode cd_Q_empty 5 = .ok (.if_icmp .ge 16, 3) := by decide +kernel
theorem dc_Q_empty_8 : decode cd_Q_empty 8 = .ok (.aload_n 0, 1) := by decide +kernel
theorem dc_Q_empty_9 : decode cd_Q_empty 9 = .ok (.getfield 11, 3) := by decide +kernel
theorem dc_Q_empty_12 : decode cd_Q_empty 12 = .ok (.iload_n 1, 1) := by decide +kernel
theorem dc_Q_empty_13 : decode cd_Q_empty 13 = .ok (.aconst_null, 1) := by decide +kernel
theorem dc_Q_empty_14 : decode cd_Q_empty 14 = .ok (.aastore, 1) := by decide +kernel
theorem dc_Q_empty_15 : decode cd_Q_empty 15 = .ok (.iinc 1 1, 3) := by decide +kernel
theorem dc_Q_empty_18 : decode cd_Q_empty 18 = .ok (.goto (-16), 3) := by decide +kernel
theorem dc_Q_empty_21 : decode cd_Q_empty 21 = .ok (.aload_n 0, 1) := by decide +kernel
theorem dc_Q_empty_22 : decode cd_Q_empty 22 = .ok (.iconst 0, 1) := by decide +kernel
theorem dc_Q_empty_23 : decode cd_Q_empty 23 = .ok (.putfield 17, 3) := by decide +kernel
theorem dc_Q_empty_26 : decode cd_Q_empty 26 = .ok (.return_, 1) := by decide +kernel
theorem dc_Q_removeAt_0 : decode cd_Q_removeAt 0 = .ok (.iload_n 1, 1) := by decide +kernel
theorem dc_Q_removeAt_1 : decode cd_Q_removeAt 1 = .ok (.istore_n 2, 1) := by decide +kernel
theorem dc_Q_removeAt_2 : decode cd_Q_removeAt 2 = .ok (.iload_n 2, 1) := by decide +kernel
theorem dc_Q_removeAt_3 : decode cd_Q_removeAt 3 = .ok (.iconst 1, 1) := by decide +kernel
theorem dc_Q_removeAt_4 : decode cd_Q_removeAt 4 = .ok (.iadd, 1) := by decide +kernel
theorem dc_Q_removeAt_5 : decode cd_Q_removeAt 5 = .ok (.aload_n 0, 1) := by decide +kernel
theorem dc_Q_removeAt_6 : decode cd_Q_removeAt 6 = .ok (.getfield 17, 3) := by decide +kernel
theorem dc_Q_removeAt_9 : decode cd_Q_removeAt 9 = .ok (.if_icmp .ge 23, 3) := by decide +kernel
theorem dc_Q_removeAt_12 : decode cd_Q_removeAt 12 = .ok (.aload_n 0, 1) := by decide +kernel
theorem dc_Q_removeAt_13 : decode cd_Q_removeAt 13 = .ok (.getfield 11, 3) := by decide +kernel
theorem dc_Q_removeAt_16 : decode cd_Q_removeAt 16 = .ok (.iload_n 2, 1) := by decide +kernel
theorem dc_Q_removeAt_17 : decode cd_Q_removeAt 17 = .ok (.aload_n 0, 1) := by decide +kernel
theorem dc_Q_removeAt_18 : decode cd_Q_removeAt 18 = .ok (.getfield 11, 3) := by decide +kernel
theorem dc_Q_removeAt_21 : decode cd_Q_removeAt 21 = .ok (.iload_n 2, 1) := by decide +kernel
theorem dc_Q_removeAt_22 : decode cd_Q_removeAt 22 = .ok (.iconst 1, 1) := by decide +kernel
theorem dc_Q_removeAt_23 : decode cd_Q_removeAt 23 = .ok (.iadd, 1) := by decide +kernel
theorem dc_Q_removeAt_24 : decode cd_Q_removeAt 24 = .ok (.aaload, 1) := by decide +kernel
theorem dc_Q_removeAt_25 : decode cd_Q_removeAt 25 = .ok (.aastore, 1) := by decide +kernel
theorem dc_Q_removeAt_26 : decode cd_Q_removeAt 26 = .ok (.iinc 2 1, 3) := by decide +kernel
theorem dc_Q_removeAt_29 : decode cd_Q_removeAt 29 = .ok (.goto (-27), 3) := by decide +kernel
theorem dc_Q_removeAt_32 : decode cd_Q_removeAt 32 = .ok (.aload_n 0, 1) := by decide +kernel
theorem dc_Q_removeAt_33 : decode cd_Q_removeAt 33 = .ok (.dup, 1) := by decide +kernel
theorem dc_Q_removeAt_34 : decode cd_Q_removeAt 34 = .ok (.getfield 17, 3) := by decide +kernel
theorem dc_Q_removeAt_37 : decode cd_Q_removeAt 37 = .ok (.iconst 1, 1) := by decide +kernel
theorem dc_Q_removeAt_38 : decode cd_Q_removeAt 38 = .ok (.isub, 1) := by decide +kernel
theorem dc_Q_removeAt_39 : decode cd_Q_removeAt 39 = .ok (.putfield 17, 3) := by decide +kernel
theorem dc_Q_removeAt_42 : decode cd_Q_removeAt 42 = .ok (.aload_n 0, 1) := by decide +kernel
theorem dc_Q_removeAt_43 : decode cd_Q_removeAt 43 = .ok (.getfield 11, 3) := by decide +kernel
theorem dc_Q_removeAt_46 : decode cd_Q_removeAt 46 = .ok (.aload_n 0, 1) := by decide +kernel
theorem dc_Q_removeAt_47 : decode cd_Q_removeAt 47 = .ok (.getfield 17, 3) := by decide +kernel
theorem dc_Q_removeAt_50 : decode cd_Q_removeAt 50 = .ok (.aconst_null, 1) := by decide +kernel
theorem dc_Q_removeAt_51 : decode cd_Q_removeAt 51 = .ok (.aastore, 1) := by decide +kernel
theorem dc_Q_removeAt_52 : decode cd_Q_removeAt 52 = .ok (.return_, 1) := by decide +kernel
theorem dc_R_init_0 : decode cd_R_init 0 = .ok (.aload_n 0, 1) := by decide +kernel
theorem dc_R_init_1 : decode cd_R_init 1 = .ok (.invokespecial 3, 3) := by decide +kernel
theorem dc_R_init_4 : decode cd_R_init 4 = .ok (.aload_n 0, 1) := by decide +kernel
theorem dc_R_init_5 : decode cd_R_init 5 = .ok (.iconst (-1), 1) := by decide +kernel
theorem dc_R_init_6 : decode cd_R_init 6 = .ok (.putfield 9, 3) := by decide +kernel
theorem dc_R_init_9 : decode cd_R_init 9 = .ok (.aload_n 0, 1) := by decide +kernel
theorem dc_R_init_10 : decode cd_R_init 10 = .ok (.iload_n 1, 1) := by decide +kernel
theorem dc_R_init_11 : decode cd_R_init 11 = .ok (.putfield 15, 3) := by decide +kernel
theorem dc_R_init_14 : decode cd_R_init 14 = .ok (.aload_n 0, 1) := by decide +kernel
theorem dc_R_init_15 : decode cd_R_init 15 = .ok (.iload_n 2, 1) := by decide +kernel
theorem dc_R_init_16 : decode cd_R_init 16 = .ok (.putfield 18, 3) := by decide +kernel
theorem dc_R_init_19 : decode cd_R_init 19 = .ok (.aload_n 0, 1) := by decide +kernel
theorem dc_R_init_20 : decode cd_R_init 20 = .ok (.iload_n 3, 1) := by decide +kernel
theorem dc_R_init_21 : decode cd_R_init 21 = .ok (.putfield 21, 3) := by decide +kernel
theorem dc_R_init_24 : decode cd_R_init 24 = .ok (.aload_n 0, 1) := by decide +kernel
theorem dc_R_init_25 : decode cd_R_init 25 = .ok (.iload 4, 2) := by decide +kernel
theorem dc_R_init_27 : decode cd_R_init 27 = .ok (.putfield 24, 3) := by decide +kernel
theorem dc_R_init_30 : decode cd_R_init 30 = .ok (.aload_n 0, 1) := by decide +kernel
theorem dc_R_init_31 : decode cd_R_init 31 = .ok (.iload 5, 2) := by decide +kernel
theorem dc_R_init_33 : decode cd_R_init 33 = .ok (.putfield 27, 3) := by decide +kernel
theorem dc_R_init_36 : decode cd_R_init 36 = .ok (.aload_n 0, 1) := by decide +kernel
theorem dc_R_init_37 : decode cd_R_init 37 = .ok (.iload 6, 2) := by decide +kernel
theorem dc_R_init_39 : decode cd_R_init 39 = .ok (.putfield 30, 3) := by decide +kernel
theorem dc_R_init_42 : decode cd_R_init 42 = .ok (.return_, 1) := by decide +kernel
theorem dc_R_endIfItWaits_0 : decode cd_R_endIfItWaits 0 = .ok (.aload_n 0, 1) := by decide +kernel
theorem dc_R_endIfItWaits_1 : decode cd_R_endIfItWaits 1 = .ok (.getfield 9, 3) := by decide +kernel
theorem dc_R_endIfItWaits_4 : decode cd_R_endIfItWaits 4 = .ok (.iconst (-1), 1) := by decide +kernel
theorem dc_R_endIfItWaits_5 : decode cd_R_endIfItWaits 5 = .ok (.if_icmp .ne 8, 3) := by decide +kernel
theorem dc_R_endIfItWaits_8 : decode cd_R_endIfItWaits 8 = .ok (.aload_n 0, 1) := by decide +kernel
theorem dc_R_endIfItWaits_9 : decode cd_R_endIfItWaits 9 = .ok (.iload_n 1, 1) := by decide +kernel
theorem dc_R_endIfItWaits_10 : decode cd_R_endIfItWaits 10 = .ok (.putfield 9, 3) := by decide +kernel
theorem dc_R_endIfItWaits_13 : decode cd_R_endIfItWaits 13 = .ok (.return_, 1) := by decide +kernel
theorem dc_R_workOn_0 : decode cd_R_workOn 0 = .ok (.aload_n 1, 1) := by decide +kernel
theorem dc_R_workOn_1 : decode cd_R_workOn 1 = .ok (.aload_n 0, 1) := by decide +kernel
theorem dc_R_workOn_2 : decode cd_R_workOn 2 = .ok (.getfield 21, 3) := by decide +kernel
theorem dc_R_workOn_5 : decode cd_R_workOn 5 = .ok (.iaload, 1) := by decide +kernel
theorem dc_R_workOn_6 : decode cd_R_workOn 6 = .ok (.istore_n 2, 1) := by decide +kernel
theorem dc_R_workOn_7 : decode cd_R_workOn 7 = .ok (.aload_n 0, 1) := by decide +kernel
theorem dc_R_workOn_8 : decode cd_R_workOn 8 = .ok (.aload_n 0, 1) := by decide +kernel
theorem dc_R_workOn_9 : decode cd_R_workOn 9 = .ok (.getfield 18, 3) := by decide +kernel
theorem dc_R_workOn_12 : decode cd_R_workOn 12 = .ok (.iconst 1, 1) := by decide +kernel
theorem dc_R_workOn_13 : decode cd_R_workOn 13 = .ok (.if_icmp .ne 7, 3) := by decide +kernel
theorem dc_R_workOn_16 : decode cd_R_workOn 16 = .ok (.iconst 0, 1) := by decide +kernel
theorem dc_R_workOn_17 : decode cd_R_workOn 17 = .ok (.goto 4, 3) := by decide +kernel
theorem dc_R_workOn_20 : decode cd_R_workOn 20 = .ok (.iload_n 2, 1) := by decide +kernel
theorem dc_R_workOn_21 : decode cd_R_workOn 21 = .ok (.putfield 33, 3) := by decide +kernel
theorem dc_R_workOn_24 : decode cd_R_workOn 24 = .ok (.aload_n 0, 1) := by decide +kernel
theorem dc_R_workOn_25 : decode cd_R_workOn 25 = .ok (.getfield 18, 3) := by decide +kernel
theorem dc_R_workOn_28 : decode cd_R_workOn 28 = .ok (.iconst 1, 1) := by decide +kernel
theorem dc_R_workOn_29 : decode cd_R_workOn 29 = .ok (.if_icmp .eq 19, 3) := by decide +kernel
theorem dc_R_workOn_32 : decode cd_R_workOn 32 = .ok (.aload_n 0, 1) := by decide +kernel
theorem dc_R_workOn_33 : decode cd_R_workOn 33 = .ok (.getfield 18, 3) := by decide +kernel
theorem dc_R_workOn_36 : decode cd_R_workOn 36 = .ok (.iconst 2, 1) := by decide +kernel
theorem dc_R_workOn_37 : decode cd_R_workOn 37 = .ok (.if_icmp .ne 21, 3) := by decide +kernel
theorem dc_R_workOn_40 : decode cd_R_workOn 40 = .ok (.iload_n 2, 1) := by decide +kernel
theorem dc_R_workOn_41 : decode cd_R_workOn 41 = .ok (.aload_n 0, 1) := by decide +kernel
theorem dc_R_workOn_42 : decode cd_R_workOn 42 = .ok (.getfield 24, 3) := by decide +kernel
theorem dc_R_workOn_45 : decode cd_R_workOn 45 = .ok (.if_icmp .ne 13, 3) := by decide +kernel
theorem dc_R_workOn_48 : decode cd_R_workOn 48 = .ok (.aload_n 1, 1) := by decide +kernel
theorem dc_R_workOn_49 : decode cd_R_workOn 49 = .ok (.aload_n 0, 1) := by decide +kernel
theorem dc_R_workOn_50 : decode cd_R_workOn 50 = .ok (.getfield 21, 3) := by decide +kernel
theorem dc_R_workOn_53 : decode cd_R_workOn 53 = .ok (.aload_n 0, 1) := by decide +kernel
theorem dc_R_workOn_54 : decode cd_R_workOn 54 = .ok (.getfield 27, 3) := by decide +kernel
theorem dc_R_workOn_57 : decode cd_R_workOn 57 = .ok (.iastore, 1) := by decide +kernel
theorem dc_R_workOn_58 : decode cd_R_workOn 58 = .ok (.aload_n 0, 1) := by decide +kernel
theorem dc_R_workOn_59 : decode cd_R_workOn 59 = .ok (.iconst 1, 1) := by decide +kernel
theorem dc_R_workOn_60 : decode cd_R_workOn 60 = .ok (.putfield 36, 3) := by decide +kernel
theorem dc_R_workOn_63 : decode cd_R_workOn 63 = .ok (.return_, 1) := by decide +kernel
end
section
theorem dc_T_init_0 : decode cd_T_init 0 = .ok (.aload_n 0, 1) := by decide +kernel
theorem dc_T_init_1 : decode cd_T_init 1 = .ok (.invokespecial 3, 3) := by decide +kernel
theorem dc_T_init_4 : decode cd_T_init 4 = .ok (.aload_n 0, 1) := by decide +kernel
theorem dc_T_init_5 : decode cd_T_init 5 = .ok (.bipush 36, 2) := by decide +kernel
theorem dc_T_init_7 : decode cd_T_init 7 = .ok (.newarray .boolean, 2) := by decide +kernel
theorem dc_T_init_9 : decode cd_T_init 9 = .ok (.putfield 9, 3) := by decide +kernel
theorem dc_T_init_12 : decode cd_T_init 12 = .ok (.aload_n 0, 1) := by decide +kernel
theorem dc_T_init_13 : decode cd_T_init 13 = .ok (.bipush 12, 2) := by decide +kernel
theorem dc_T_init_15 : decode cd_T_init 15 = .ok (.newarray .int, 2) := by decide +kernel
theorem dc_T_init_17 : decode cd_T_init 17 = .ok (.putfield 15, 3) := by decide +kernel
theorem dc_T_init_20 : decode cd_T_init 20 = .ok (.return_, 1) := by decide +kernel
theorem dc_T_findParents_0 : decode cd_T_findParents 0 = .ok (.aload_n 0, 1) := by decide +kernel
theorem dc_T_findParents_1 : decode cd_T_findParents 1 = .ok (.aload_n 1, 1) := by decide +kernel
theorem dc_T_findParents_2 : decode cd_T_findParents 2 = .ok (.iload_n 3, 1) := by decide +kernel
theorem dc_T_findParents_3 : decode cd_T_findParents 3 = .ok (.invokevirtual 19, 3) := by decide +kernel
theorem dc_T_findParents_6 : decode cd_T_findParents 6 = .ok (.iconst 1, 1) := by decide +kernel
theorem dc_T_findParents_7 : decode cd_T_findParents 7 = .ok (.istore 4, 2) := by decide +kernel
theorem dc_T_findParents_9 : decode cd_T_findParents 9 = .ok (.iload 4, 2) := by decide +kernel
theorem dc_T_findParents_11 : decode cd_T_findParents 11 = .ok (.bipush 24, 2) := by decide +kernel
theorem dc_T_findParents_13 : decode cd_T_findParents 13 = .ok (.if_icmp .gt 29, 3) := by decide +kernel
theorem dc_T_findParents_16 : decode cd_T_findParents 16 = .ok (.aload_n 0, 1) := by decide +kernel
theorem dc_T_findParents_17 : decode cd_T_findParents 17 = .ok (.invokevirtual 23, 3) := by decide +kernel
theorem dc_T_findParents_20 : decode cd_T_findParents 20 = .ok (.ifCond .eq 22, 3) := by decide +kernel
theorem dc_T_findParents_23 : decode cd_T_findParents 23 = .ok (.aload_n 0, 1) := by decide +kernel
theorem dc_T_findParents_24 : decode cd_T_findParents 24 = .ok (.aload_n 2, 1) := by decide +kernel
theorem dc_T_findParents_25 : decode cd_T_findParents 25 = .ok (.iload 4, 2) := by decide +kernel
theorem dc_T_findParents_27 : decode cd_T_findParents 27 = .ok (.invokevirtual 27, 3) := by decide +kernel
theorem dc_T_findParents_30 : decode cd_T_findParents 30 = .ok (.aload_n 0, 1) := by decide +kernel
theorem dc_T_findParents_31 : decode cd_T_findParents 31 = .ok (.aload_n 1, 1) := by decide +kernel
theorem dc_T_findParents_32 : decode cd_T_findParents 32 = .ok (.aload_n 2, 1) := by decide +kernel
theorem dc_T_findParents_33 : decode cd_T_findParents 33 = .ok (.invokevirtual 31, 3) := by decide +kernel
theorem dc_T_findParents_36 : decode cd_T_findParents 36 = .ok (.iinc 4 1, 3) := by decide +kernel
theorem dc_T_findParents_39 : decode cd_T_findParents 39 = .ok (.goto (-30), 3) := by decide +kernel
theorem dc_T_findParents_42 : decode cd_T_findParents 42 = .ok (.aload_n 0, 1) := by decide +kernel
theorem dc_T_findParents_43 : decode cd_T_findParents 43 = .ok (.invokevirtual 23, 3) := by decide +kernel
theorem dc_T_findParents_46 : decode cd_T_findParents 46 = .ok (.ifCond .ne 7, 3) := by decide +kernel
theorem dc_T_findParents_49 : decode cd_T_findParents 49 = .ok (.iconst 1, 1) := by decide +kernel
theorem dc_T_findParents_50 : decode cd_T_findParents 50 = .ok (.goto 4, 3) := by decide +kernel
theorem dc_T_findParents_53 : decode cd_T_findParents 53 = .ok (.iconst 0, 1) := by decide +kernel
theorem dc_T_findParents_54 : decode cd_T_findParents 54 = .ok (.ireturn, 1) := by decide +kernel
theorem dc_T_settle_0 : decode cd_T_settle 0 = .ok (.iconst (-1), 1) := by decide +kernel
theorem dc_T_settle_1 : decode cd_T_settle 1 = .ok (.istore 5, 2) := by decide +kernel
theorem dc_T_settle_3 : decode cd_T_settle 3 = .ok (.iconst (-1), 1) := by decide +kernel
theorem dc_T_settle_4 : decode cd_T_settle 4 = .ok (.istore 6, 2) := by decide +kernel
theorem dc_T_settle_6 : decode cd_T_settle 6 = .ok (.iload 4, 2) := by decide +kernel
theorem dc_T_settle_8 : decode cd_T_settle 8 = .ok (.ifCond .ne 32, 3) := by decide +kernel
theorem dc_T_settle_11 : decode cd_T_settle 11 = .ok (.aload_n 0, 1) := by decide +kernel
theorem dc_T_settle_12 : decode cd_T_settle 12 = .ok (.aload_n 1, 1) := by decide +kernel
theorem dc_T_settle_13 : decode cd_T_settle 13 = .ok (.aload_n 2, 1) := by decide +kernel
theorem dc_T_settle_14 : decode cd_T_settle 14 = .ok (.iload_n 3, 1) := by decide +kernel
theorem dc_T_settle_15 : decode cd_T_settle 15 = .ok (.invokevirtual 35, 3) := by decide +kernel
theorem dc_T_settle_18 : decode cd_T_settle 18 = .ok (.istore 5, 2) := by decide +kernel
theorem dc_T_settle_20 : decode cd_T_settle 20 = .ok (.aload_n 0, 1) := by decide +kernel
theorem dc_T_settle_21 : decode cd_T_settle 21 = .ok (.aload_n 1, 1) := by decide +kernel
theorem dc_T_settle_22 : decode cd_T_settle 22 = .ok (.aload_n 2, 1) := by decide +kernel
theorem dc_T_settle_23 : decode cd_T_settle 23 = .ok (.iload 5, 2) := by decide +kernel
theorem dc_T_settle_25 : decode cd_T_settle 25 = .ok (.iconst 0, 1) := by decide +kernel
theorem dc_T_settle_26 : decode cd_T_settle 26 = .ok (.iconst 0, 1) := by decide +kernel
theorem dc_T_settle_27 : decode cd_T_settle 27 = .ok (.invokevirtual 39, 3) := by decide +kernel
theorem dc_T_settle_30 : decode cd_T_settle 30 = .ok (.pop, 1) := by decide +kernel
theorem dc_T_settle_31 : decode cd_T_settle 31 = .ok (.aload_n 0, 1) := by decide +kernel
theorem dc_T_settle_32 : decode cd_T_settle 32 = .ok (.aload_n 1, 1) := by decide +kernel
theorem dc_T_settle_33 : decode cd_T_settle 33 = .ok (.aload_n 2, 1) := by decide +kernel
theorem dc_T_settle_34 : decode cd_T_settle 34 = .ok (.iload_n 3, 1) := by decide +kernel
theorem dc_T_settle_35 : decode cd_T_settle 35 = .ok (.invokevirtual 43, 3) := by decide +kernel
theorem dc_T_settle_38 : decode cd_T_settle 38 = .ok (.istore 6, 2) := by decide +kernel
theorem dc_T_settle_40 : decode cd_T_settle 40 = .ok (.iconst 0, 1) := by decide +kernel
theorem dc_T_settle_41 : decode cd_T_settle 41 = .ok (.istore 7, 2) := by decide +kernel
theorem dc_T_settle_43 : decode cd_T_settle 43 = .ok (.iload 7, 2) := by decide +kernel
theorem dc_T_settle_45 : decode cd_T_settle 45 = .ok (.bipush 12, 2) := by decide +kernel
theorem dc_T_settle_47 : decode cd_T_settle 47 = .ok (.if_icmp .ge 32, 3) := by decide +kernel
theorem dc_T_settle_50 : decode cd_T_settle 50 = .ok (.aload_n 1, 1) := by decide +kernel
theorem dc_T_settle_51 : decode cd_T_settle 51 = .ok (.iload 7, 2) := by decide +kernel
theorem dc_T_settle_53 : decode cd_T_settle 53 = .ok (.invokevirtual 46, 3) := by decide +kernel
theorem dc_T_settle_56 : decode cd_T_settle 56 = .ok (.iload_n 3, 1) := by decide +kernel
theorem dc_T_settle_57 : decode cd_T_settle 57 = .ok (.if_icmp .ne 16, 3) := by decide +kernel
theorem dc_T_settle_60 : decode cd_T_settle 60 = .ok (.aload_n 2, 1) := by decide +kernel
theorem dc_T_settle_61 : decode cd_T_settle 61 = .ok (.iload 7, 2) := by decide +kernel
theorem dc_T_settle_63 : decode cd_T_settle 63 = .ok (.aaload, 1) := by decide +kernel
theorem dc_T_settle_64 : decode cd_T_settle 64 = .ok (.iload 4, 2) := by decide +kernel
theorem dc_T_settle_66 : decode cd_T_settle 66 = .ok (.iload 5, 2) := by decide +kernel
theorem dc_T_settle_68 : decode cd_T_settle 68 = .ok (.iload 6, 2) := by decide +kernel
theorem dc_T_settle_70 : decode cd_T_settle 70 = .ok (.invokevirtual 52, 3) := by decide +kernel
theorem dc_T_settle_73 : decode cd_T_settle 73 = .ok (.iinc 7 1, 3) := by decide +kernel
theorem dc_T_settle_76 : decode cd_T_settle 76 = .ok (.goto (-33), 3) := by decide +kernel
theorem dc_T_settle_79 : decode cd_T_settle 79 = .ok (.return_, 1) := by decide +kernel
theorem dc_T_openCables_0 : decode cd_T_openCables 0 = .ok (.iconst 0, 1) := by decide +kernel
theorem dc_T_openCables_1 : decode cd_T_openCables 1 = .ok (.istore_n 3, 1) := by decide +kernel
theorem dc_T_openCables_2 : decode cd_T_openCables 2 = .ok (.iload_n 3, 1) := by decide +kernel
theorem dc_T_openCables_3 : decode cd_T_openCables 3 = .ok (.bipush 36, 2) := by decide +kernel
theorem dc_T_openCables_5 : decode cd_T_openCables 5 = .ok (.if_icmp .ge 53, 3) := by decide +kernel
theorem dc_T_openCables_8 : decode cd_T_openCables 8 = .ok (.aload_n 1, 1) := by decide +kernel
theorem dc_T_openCables_9 : decode cd_T_openCables 9 = .ok (.iload_n 3, 1) := by decide +kernel
theorem dc_T_openCables_10 : decode cd_T_openCables 10 = .ok (.iconst 3, 1) := by decide +kernel
theorem dc_T_openCables_11 : decode cd_T_openCables 11 = .ok (.idiv, 1) := by decide +kernel
theorem dc_T_openCables_12 : decode cd_T_openCables 12 = .ok (.invokevirtual 46, 3) := by decide +kernel
theorem dc_T_openCables_15 : decode cd_T_openCables 15 = .ok (.iload_n 2, 1) := by decide +kernel
theorem dc_T_openCables_16 : decode cd_T_openCables 16 = .ok (.if_icmp .ne 7, 3) := by decide +kernel
theorem dc_T_openCables_19 : decode cd_T_openCables 19 = .ok (.iconst 1, 1) := by decide +kernel
theorem dc_T_openCables_20 : decode cd_T_openCables 20 = .ok (.goto 4, 3) := by decide +kernel
theorem dc_T_openCables_23 : decode cd_T_openCables 23 = .ok (.iconst 0, 1) := by decide +kernel
theorem dc_T_openCables_24 : decode cd_T_openCables 24 = .ok (.istore 4, 2) := by decide +kernel
theorem dc_T_openCables_26 : decode cd_T_openCables 26 = .ok (.aload_n 0, 1) := by decide +kernel
theorem dc_T_openCables_27 : decode cd_T_openCables 27 = .ok (.getfield 9, 3) := by decide +kernel
theorem dc_T_openCables_30 : decode cd_T_openCables 30 = .ok (.iload_n 3, 1) := by decide +kernel
theorem dc_T_openCables_31 : decode cd_T_openCables 31 = .ok (.iload 4, 2) := by decide +kernel
theorem dc_T_openCables_33 : decode cd_T_openCables 33 = .ok (.ifCond .eq 17, 3) := by decide +kernel
theorem dc_T_openCables_36 : decode cd_T_openCables 36 = .ok (.aload_n 1, 1) := by decide +kernel
theorem dc_T_openCables_37 : decode cd_T_openCables 37 = .ok (.getfield 58, 3) := by decide +kernel
theorem dc_T_openCables_40 : decode cd_T_openCables 40 = .ok (.iload_n 3, 1) := by decide +kernel
theorem dc_T_openCables_41 : decode cd_T_openCables 41 = .ok (.iaload, 1) := by decide +kernel
theorem dc_T_openCables_42 : decode cd_T_openCables 42 = .ok (.iconst (-1), 1) := by decide +kernel
theorem dc_T_openCables_43 : decode cd_T_openCables 43 = .ok (.if_icmp .eq 7, 3) := by decide +kernel
theorem dc_T_openCables_46 : decode cd_T_openCables 46 = .ok (.iconst 1, 1) := by decide +kernel
theorem dc_T_openCables_47 : decode cd_T_openCables 47 = .ok (.goto 4, 3) := by decide +kernel
theorem dc_T_openCables_50 : decode cd_T_openCables 50 = .ok (.iconst 0, 1) := by decide +kernel
theorem dc_T_openCables_51 : decode cd_T_openCables 51 = .ok (.bastore, 1) := by decide +kernel
theorem dc_T_openCables_52 : decode cd_T_openCables 52 = .ok (.iinc 3 1, 3) := by decide +kernel
theorem dc_T_openCables_55 : decode cd_T_openCables 55 = .ok (.goto (-53), 3) := by decide +kernel
theorem dc_T_openCables_58 : decode cd_T_openCables 58 = .ok (.return_, 1) := by decide +kernel
theorem dc_T_someCableIsOpen_0 : decode cd_T_someCableIsOpen 0 = .ok (.iconst 0, 1) := by decide +kernel
theorem dc_T_someCableIsOpen_1 : decode cd_T_someCableIsOpen 1 = .ok (.istore_n 1, 1) := by decide +kernel
theorem dc_T_someCableIsOpen_2 : decode cd_T_someCableIsOpen 2 = .ok (.iload_n 1, 1) := by decide +kernel
theorem dc_T_someCableIsOpen_3 : decode cd_T_someCableIsOpen 3 = .ok (.bipush 36, 2) := by decide +kernel
theorem dc_T_someCableIsOpen_5 : decode cd_T_someCableIsOpen 5 = .ok (.if_icmp .ge 20, 3) := by decide +kernel
theorem dc_T_someCableIsOpen_8 : decode cd_T_someCableIsOpen 8 = .ok (.aload_n 0, 1) := by decide +kernel
theorem dc_T_someCableIsOpen_9 : decode cd_T_someCableIsOpen 9 = .ok (.getfield 9, 3) := by decide +kernel
theorem dc_T_someCableIsOpen_12 : decode cd_T_someCableIsOpen 12 = .ok (.iload_n 1, 1) := by decide +kernel
theorem dc_T_someCableIsOpen_13 : decode cd_T_someCableIsOpen 13 = .ok (.baload, 1) := by decide +kernel
theorem dc_T_someCableIsOpen_14 : decode cd_T_someCableIsOpen 14 = .ok (.ifCond .eq 5, 3) := by decide +kernel
theorem dc_T_someCableIsOpen_17 : decode cd_T_someCableIsOpen 17 = .ok (.iconst 1, 1) := by decide +kernel
theorem dc_T_someCableIsOpen_18 : decode cd_T_someCableIsOpen 18 = .ok (.ireturn, 1) := by decide +kernel
theorem dc_T_someCableIsOpen_19 : decode cd_T_someCableIsOpen 19 = .ok (.iinc 1 1, 3) := by decide +kernel
theorem dc_T_someCableIsOpen_22 : decode cd_T_someCableIsOpen 22 = .ok (.goto (-20), 3) := by decide +kernel
theorem dc_T_someCableIsOpen_25 : decode cd_T_someCableIsOpen 25 = .ok (.iconst 0, 1) := by decide +kernel
theorem dc_T_someCableIsOpen_26 : decode cd_T_someCableIsOpen 26 = .ok (.ireturn, 1) := by decide +kernel
theorem dc_T_chooseAskers_0 : decode cd_T_chooseAskers 0 = .ok (.iconst 0, 1) := by decide +kernel
theorem dc_T_chooseAskers_1 : decode cd_T_chooseAskers 1 = .ok (.istore_n 3, 1) := by decide +kernel
theorem dc_T_chooseAskers_2 : decode cd_T_chooseAskers 2 = .ok (.iload_n 3, 1) := by decide +kernel
theorem dc_T_chooseAskers_3 : decode cd_T_chooseAskers 3 = .ok (.bipush 12, 2) := by decide +kernel
theorem dc_T_chooseAskers_5 : decode cd_T_chooseAskers 5 = .ok (.if_icmp .ge 50, 3) := by decide +kernel
theorem dc_T_chooseAskers_8 : decode cd_T_chooseAskers 8 = .ok (.aload_n 1, 1) := by decide +kernel
theorem dc_T_chooseAskers_9 : decode cd_T_chooseAskers 9 = .ok (.iload_n 3, 1) := by decide +kernel
theorem dc_T_chooseAskers_10 : decode cd_T_chooseAskers 10 = .ok (.aaload, 1) := by decide +kernel
theorem dc_T_chooseAskers_11 : decode cd_T_chooseAskers 11 = .ok (.getfield 61, 3) := by decide +kernel
theorem dc_T_chooseAskers_14 : decode cd_T_chooseAskers 14 = .ok (.ifCond .eq 12, 3) := by decide +kernel
theorem dc_T_chooseAskers_17 : decode cd_T_chooseAskers 17 = .ok (.iload_n 2, 1) := by decide +kernel
theorem dc_T_chooseAskers_18 : decode cd_T_chooseAskers 18 = .ok (.iconst 4, 1) := by decide +kernel
theorem dc_T_chooseAskers_19 : decode cd_T_chooseAskers 19 = .ok (.if_icmp .gt 7, 3) := by decide +kernel
theorem dc_T_chooseAskers_22 : decode cd_T_chooseAskers 22 = .ok (.iconst 1, 1) := by decide +kernel
theorem dc_T_chooseAskers_23 : decode cd_T_chooseAskers 23 = .ok (.goto 4, 3) := by decide +kernel
theorem dc_T_chooseAskers_26 : decode cd_T_chooseAskers 26 = .ok (.iconst 0, 1) := by decide +kernel
theorem dc_T_chooseAskers_27 : decode cd_T_chooseAskers 27 = .ok (.istore 4, 2) := by decide +kernel
theorem dc_T_chooseAskers_29 : decode cd_T_chooseAskers 29 = .ok (.aload_n 0, 1) := by decide +kernel
theorem dc_T_chooseAskers_30 : decode cd_T_chooseAskers 30 = .ok (.getfield 15, 3) := by decide +kernel
theorem dc_T_chooseAskers_33 : decode cd_T_chooseAskers 33 = .ok (.iload_n 3, 1) := by decide +kernel
theorem dc_T_chooseAskers_34 : decode cd_T_chooseAskers 34 = .ok (.iload 4, 2) := by decide +kernel
theorem dc_T_chooseAskers_36 : decode cd_T_chooseAskers 36 = .ok (.ifCond .eq 7, 3) := by decide +kernel
theorem dc_T_chooseAskers_39 : decode cd_T_chooseAskers 39 = .ok (.iconst (-1), 1) := by decide +kernel
theorem dc_T_chooseAskers_40 : decode cd_T_chooseAskers 40 = .ok (.goto 8, 3) := by decide +kernel
theorem dc_T_chooseAskers_43 : decode cd_T_chooseAskers 43 = .ok (.aload_n 0, 1) := by decide +kernel
theorem dc_T_chooseAskers_44 : decode cd_T_chooseAskers 44 = .ok (.iload_n 3, 1) := by decide +kernel
theorem dc_T_chooseAskers_45 : decode cd_T_chooseAskers 45 = .ok (.invokevirtual 65, 3) := by decide +kernel
theorem dc_T_chooseAskers_48 : decode cd_T_chooseAskers 48 = .ok (.iastore, 1) := by decide +kernel
theorem dc_T_chooseAskers_49 : decode cd_T_chooseAskers 49 = .ok (.iinc 3 1, 3) := by decide +kernel
theorem dc_T_chooseAskers_52 : decode cd_T_chooseAskers 52 = .ok (.goto (-50), 3) := by decide +kernel
theorem dc_T_chooseAskers_55 : decode cd_T_chooseAskers 55 = .ok (.return_, 1) := by decide +kernel
theorem dc_T_onlyOpenSocket_0 : decode cd_T_onlyOpenSocket 0 = .ok (.iconst (-1), 1) := by decide +kernel
theorem dc_T_onlyOpenSocket_1 : decode cd_T_onlyOpenSocket 1 = .ok (.istore_n 2, 1) := by decide +kernel
theorem dc_T_onlyOpenSocket_2 : decode cd_T_onlyOpenSocket 2 = .ok (.iconst 0, 1) := by decide +kernel
theorem dc_T_onlyOpenSocket_3 : decode cd_T_onlyOpenSocket 3 = .ok (.istore_n 3, 1) := by decide +kernel
theorem dc_T_onlyOpenSocket_4 : decode cd_T_onlyOpenSocket 4 = .ok (.iconst 0, 1) := by decide +kernel
theorem dc_T_onlyOpenSocket_5 : decode cd_T_onlyOpenSocket 5 = .ok (.istore 4, 2) := by decide +kernel
theorem dc_T_onlyOpenSocket_7 : decode cd_T_onlyOpenSocket 7 = .ok (.iload 4, 2) := by decide +kernel
theorem dc_T_onlyOpenSocket_9 : decode cd_T_onlyOpenSocket 9 = .ok (.iconst 3, 1) := by decide +kernel
theorem dc_T_onlyOpenSocket_10 : decode cd_T_onlyOpenSocket 10 = .ok (.if_icmp .ge 33, 3) := by decide +kernel
theorem dc_T_onlyOpenSocket_13 : decode cd_T_onlyOpenSocket 13 = .ok (.aload_n 0, 1) := by decide +kernel
theorem dc_T_onlyOpenSocket_14 : decode cd_T_onlyOpenSocket 14 = .ok (.getfield 9, 3) := by decide +kernel
theorem dc_T_onlyOpenSocket_17 : decode cd_T_onlyOpenSocket 17 = .ok (.iload_n 1, 1) := by decide +kernel
theorem dc_T_onlyOpenSocket_18 : decode cd_T_onlyOpenSocket 18 = .ok (.iconst 3, 1) := by decide +kernel
theorem dc_T_onlyOpenSocket_19 : decode cd_T_onlyOpenSocket 19 = .ok (.imul, 1) := by decide +kernel
theorem dc_T_onlyOpenSocket_20 : decode cd_T_onlyOpenSocket 20 = .ok (.iload 4, 2) := by decide +kernel
theorem dc_T_onlyOpenSocket_22 : decode cd_T_onlyOpenSocket 22 = .ok (.iadd, 1) := by decide +kernel
theorem dc_T_onlyOpenSocket_23 : decode cd_T_onlyOpenSocket 23 = .ok (.baload, 1) := by decide +kernel
theorem dc_T_onlyOpenSocket_24 : decode cd_T_onlyOpenSocket 24 = .ok (.ifCond .eq 13, 3) := by decide +kernel
theorem dc_T_onlyOpenSocket_27 : decode cd_T_onlyOpenSocket 27 = .ok (.iload_n 1, 1) := by decide +kernel
theorem dc_T_onlyOpenSocket_28 : decode cd_T_onlyOpenSocket 28 = .ok (.iconst 3, 1) := by decide +kernel
theorem dc_T_onlyOpenSocket_29 : decode cd_T_onlyOpenSocket 29 = .ok (.imul, 1) := by decide +kernel
theorem dc_T_onlyOpenSocket_30 : decode cd_T_onlyOpenSocket 30 = .ok (.iload 4, 2) := by decide +kernel
theorem dc_T_onlyOpenSocket_32 : decode cd_T_onlyOpenSocket 32 = .ok (.iadd, 1) := by decide +kernel
theorem dc_T_onlyOpenSocket_33 : decode cd_T_onlyOpenSocket 33 = .ok (.istore_n 2, 1) := by decide +kernel
theorem dc_T_onlyOpenSocket_34 : decode cd_T_onlyOpenSocket 34 = .ok (.iinc 3 1, 3) := by decide +kernel
theorem dc_T_onlyOpenSocket_37 : decode cd_T_onlyOpenSocket 37 = .ok (.iinc 4 1, 3) := by decide +kernel
theorem dc_T_onlyOpenSocket_40 : decode cd_T_onlyOpenSocket 40 = .ok (.goto (-33), 3) := by decide +kernel
theorem dc_T_onlyOpenSocket_43 : decode cd_T_onlyOpenSocket 43 = .ok (.iload_n 3, 1) := by decide +kernel
theorem dc_T_onlyOpenSocket_44 : decode cd_T_onlyOpenSocket 44 = .ok (.iconst 1, 1) := by decide +kernel
theorem dc_T_onlyOpenSocket_45 : decode cd_T_onlyOpenSocket 45 = .ok (.if_icmp .ne 7, 3) := by decide +kernel
theorem dc_T_onlyOpenSocket_48 : decode cd_T_onlyOpenSocket 48 = .ok (.iload_n 2, 1) := by decide +kernel
theorem dc_T_onlyOpenSocket_49 : decode cd_T_onlyOpenSocket 49 = .ok (.goto 4, 3) := by decide +kernel
theorem dc_T_onlyOpenSocket_52 : decode cd_T_onlyOpenSocket 52 = .ok (.iconst (-1), 1) := by decide +kernel
theorem dc_T_onlyOpenSocket_53 : decode cd_T_onlyOpenSocket 53 = .ok (.ireturn, 1) := by decide +kernel
theorem dc_T_closeAskedCables_0 : decode cd_T_closeAskedCables 0 = .ok (.iconst 0, 1) := by decide +kernel
theorem dc_T_closeAskedCables_1 : decode cd_T_closeAskedCables 1 = .ok (.istore_n 3, 1) := by decide +kernel
theorem dc_T_closeAskedCables_2 : decode cd_T_closeAskedCables 2 = .ok (.iload_n 3, 1) := by decide +kernel
theorem dc_T_closeAskedCables_3 : decode cd_T_closeAskedCables 3 = .ok (.bipush 12, 2) := by decide +kernel
theorem dc_T_closeAskedCables_5 : decode cd_T_closeAskedCables 5 = .ok (.if_icmp .ge 91, 3) := by decide +kernel
theorem dc_T_closeAskedCables_8 : decode cd_T_closeAskedCables 8 = .ok (.aload_n 0, 1) := by decide +kernel
theorem dc_T_closeAskedCables_9 : decode cd_T_closeAskedCables 9 = .ok (.getfield 15, 3) := by decide +kernel
theorem dc_T_closeAskedCables_12 : decode cd_T_closeAskedCables 12 = .ok (.iload_n 3, 1) := by decide +kernel
theorem dc_T_closeAskedCables_13 : decode cd_T_closeAskedCables 13 = .ok (.iaload, 1) := by decide +kernel
theorem dc_T_closeAskedCables_14 : decode cd_T_closeAskedCables 14 = .ok (.istore 4, 2) := by decide +kernel
theorem dc_T_closeAskedCables_16 : decode cd_T_closeAskedCables 16 = .ok (.iload 4, 2) := by decide +kernel
theorem dc_T_closeAskedCables_18 : decode cd_T_closeAskedCables 18 = .ok (.iconst (-1), 1) := by decide +kernel
theorem dc_T_closeAskedCables_19 : decode cd_T_closeAskedCables 19 = .ok (.if_icmp .ne 7, 3) := by decide +kernel
theorem dc_T_closeAskedCables_22 : decode cd_T_closeAskedCables 22 = .ok (.iconst (-1), 1) := by decide +kernel
theorem dc_T_closeAskedCables_23 : decode cd_T_closeAskedCables 23 = .ok (.goto 10, 3) := by decide +kernel
theorem dc_T_closeAskedCables_26 : decode cd_T_closeAskedCables 26 = .ok (.aload_n 1, 1) := by decide +kernel
theorem dc_T_closeAskedCables_27 : decode cd_T_closeAskedCables 27 = .ok (.getfield 58, 3) := by decide +kernel
theorem dc_T_closeAskedCables_30 : decode cd_T_closeAskedCables 30 = .ok (.iload 4, 2) := by decide +kernel
theorem dc_T_closeAskedCables_32 : decode cd_T_closeAskedCables 32 = .ok (.iaload, 1) := by decide +kernel
theorem dc_T_closeAskedCables_33 : decode cd_T_closeAskedCables 33 = .ok (.istore 5, 2) := by decide +kernel
theorem dc_T_closeAskedCables_35 : decode cd_T_closeAskedCables 35 = .ok (.iload 5, 2) := by decide +kernel
theorem dc_T_closeAskedCables_37 : decode cd_T_closeAskedCables 37 = .ok (.iconst (-1), 1) := by decide +kernel
theorem dc_T_closeAskedCables_38 : decode cd_T_closeAskedCables 38 = .ok (.if_icmp .eq 52, 3) := by decide +kernel
theorem dc_T_closeAskedCables_41 : decode cd_T_closeAskedCables 41 = .ok (.iload 5, 2) := by decide +kernel
theorem dc_T_closeAskedCables_43 : decode cd_T_closeAskedCables 43 = .ok (.iconst 3, 1) := by decide +kernel
theorem dc_T_closeAskedCables_44 : decode cd_T_closeAskedCables 44 = .ok (.idiv, 1) := by decide +kernel
theorem dc_T_closeAskedCables_45 : decode cd_T_closeAskedCables 45 = .ok (.istore 6, 2) := by decide +kernel
theorem dc_T_closeAskedCables_47 : decode cd_T_closeAskedCables 47 = .ok (.aload_n 0, 1) := by decide +kernel
theorem dc_T_closeAskedCables_48 : decode cd_T_closeAskedCables 48 = .ok (.getfield 15, 3) := by decide +kernel
theorem dc_T_closeAskedCables_51 : decode cd_T_closeAskedCables 51 = .ok (.iload 6, 2) := by decide +kernel
theorem dc_T_closeAskedCables_53 : decode cd_T_closeAskedCables 53 = .ok (.iaload, 1) := by decide +kernel
theorem dc_T_closeAskedCables_54 : decode cd_T_closeAskedCables 54 = .ok (.iload 5, 2) := by decide +kernel
theorem dc_T_closeAskedCables_56 : decode cd_T_closeAskedCables 56 = .ok (.if_icmp .eq 19, 3) := by decide +kernel
theorem dc_T_closeAskedCables_59 : decode cd_T_closeAskedCables 59 = .ok (.aload_n 0, 1) := by decide +kernel
theorem dc_T_closeAskedCables_60 : decode cd_T_closeAskedCables 60 = .ok (.aload_n 2, 1) := by decide +kernel
theorem dc_T_closeAskedCables_61 : decode cd_T_closeAskedCables 61 = .ok (.iload_n 3, 1) := by decide +kernel
theorem dc_T_closeAskedCables_62 : decode cd_T_closeAskedCables 62 = .ok (.aaload, 1) := by decide +kernel
theorem dc_T_closeAskedCables_63 : decode cd_T_closeAskedCables 63 = .ok (.iload 6, 2) := by decide +kernel
theorem dc_T_closeAskedCables_65 : decode cd_T_closeAskedCables 65 = .ok (.iload 4, 2) := by decide +kernel
theorem dc_T_closeAskedCables_67 : decode cd_T_closeAskedCables 67 = .ok (.iload 5, 2) := by decide +kernel
theorem dc_T_closeAskedCables_69 : decode cd_T_closeAskedCables 69 = .ok (.invokevirtual 68, 3) := by decide +kernel
theorem dc_T_closeAskedCables_72 : decode cd_T_closeAskedCables 72 = .ok (.goto 18, 3) := by decide +kernel
theorem dc_T_closeAskedCables_75 : decode cd_T_closeAskedCables 75 = .ok (.iload_n 3, 1) := by decide +kernel
theorem dc_T_closeAskedCables_76 : decode cd_T_closeAskedCables 76 = .ok (.iload 6, 2) := by decide +kernel
theorem dc_T_closeAskedCables_78 : decode cd_T_closeAskedCables 78 = .ok (.if_icmp .ge 12, 3) := by decide +kernel
theorem dc_T_closeAskedCables_81 : decode cd_T_closeAskedCables 81 = .ok (.aload_n 0, 1) := by decide +kernel
theorem dc_T_closeAskedCables_82 : decode cd_T_closeAskedCables 82 = .ok (.aload_n 2, 1) := by decide +kernel
theorem dc_T_closeAskedCables_83 : decode cd_T_closeAskedCables 83 = .ok (.iload 4, 2) := by decide +kernel
theorem dc_T_closeAskedCables_85 : decode cd_T_closeAskedCables 85 = .ok (.iload 5, 2) := by decide +kernel
theorem dc_T_closeAskedCables_87 : decode cd_T_closeAskedCables 87 = .ok (.invokevirtual 72, 3) := by decide +kernel
theorem dc_T_closeAskedCables_90 : decode cd_T_closeAskedCables 90 = .ok (.iinc 3 1, 3) := by decide +kernel
theorem dc_T_closeAskedCables_93 : decode cd_T_closeAskedCables 93 = .ok (.goto (-91), 3) := by decide +kernel
theorem dc_T_closeAskedCables_96 : decode cd_T_closeAskedCables 96 = .ok (.return_, 1) := by decide +kernel
theorem dc_T_contend_0 : decode cd_T_contend 0 = .ok (.iload_n 2, 1) := by decide +kernel
theorem dc_T_contend_1 : decode cd_T_contend 1 = .ok (.iconst 3, 1) := by decide +kernel
theorem dc_T_contend_2 : decode cd_T_contend 2 = .ok (.idiv, 1) := by decide +kernel
theorem dc_T_contend_3 : decode cd_T_contend 3 = .ok (.istore 4, 2) := by decide +kernel
theorem dc_T_contend_5 : decode cd_T_contend 5 = .ok (.iload_n 3, 1) := by decide +kernel
theorem dc_T_contend_6 : decode cd_T_contend 6 = .ok (.iconst 3, 1) := by decide +kernel
theorem dc_T_contend_7 : decode cd_T_contend 7 = .ok (.idiv, 1) := by decide +kernel
theorem dc_T_contend_8 : decode cd_T_contend 8 = .ok (.istore 5, 2) := by decide +kernel
theorem dc_T_contend_10 : decode cd_T_contend 10 = .ok (.aload_n 1, 1) := by decide +kernel
theorem dc_T_contend_11 : decode cd_T_contend 11 = .ok (.iload 4, 2) := by decide +kernel
theorem dc_T_contend_13 : decode cd_T_contend 13 = .ok (.aaload, 1) := by decide +kernel
theorem dc_T_contend_14 : decode cd_T_contend 14 = .ok (.invokevirtual 76, 3) := by decide +kernel
theorem dc_T_contend_17 : decode cd_T_contend 17 = .ok (.istore 6, 2) := by decide +kernel
theorem dc_T_contend_19 : decode cd_T_contend 19 = .ok (.aload_n 1, 1) := by decide +kernel
theorem dc_T_contend_20 : decode cd_T_contend 20 = .ok (.iload 5, 2) := by decide +kernel
theorem dc_T_contend_22 : decode cd_T_contend 22 = .ok (.aaload, 1) := by decide +kernel
theorem dc_T_contend_23 : decode cd_T_contend 23 = .ok (.invokevirtual 76, 3) := by decide +kernel
theorem dc_T_contend_26 : decode cd_T_contend 26 = .ok (.istore 7, 2) := by decide +kernel
theorem dc_T_contend_28 : decode cd_T_contend 28 = .ok (.iload 6, 2) := by decide +kernel
theorem dc_T_contend_30 : decode cd_T_contend 30 = .ok (.iload 7, 2) := by decide +kernel
theorem dc_T_contend_32 : decode cd_T_contend 32 = .ok (.if_icmp .ge 18, 3) := by decide +kernel
theorem dc_T_contend_35 : decode cd_T_contend 35 = .ok (.aload_n 0, 1) := by decide +kernel
theorem dc_T_contend_36 : decode cd_T_contend 36 = .ok (.aload_n 1, 1) := by decide +kernel
theorem dc_T_contend_37 : decode cd_T_contend 37 = .ok (.iload 4, 2) := by decide +kernel
theorem dc_T_contend_39 : decode cd_T_contend 39 = .ok (.aaload, 1) := by decide +kernel
theorem dc_T_contend_40 : decode cd_T_contend 40 = .ok (.iload 5, 2) := by decide +kernel
theorem dc_T_contend_42 : decode cd_T_contend 42 = .ok (.iload_n 2, 1) := by decide +kernel
theorem dc_T_contend_43 : decode cd_T_contend 43 = .ok (.iload_n 3, 1) := by decide +kernel
theorem dc_T_contend_44 : decode cd_T_contend 44 = .ok (.invokevirtual 68, 3) := by decide +kernel
theorem dc_T_contend_47 : decode cd_T_contend 47 = .ok (.goto 22, 3) := by decide +kernel
theorem dc_T_contend_50 : decode cd_T_contend 50 = .ok (.iload 6, 2) := by decide +kernel
theorem dc_T_contend_52 : decode cd_T_contend 52 = .ok (.iload 7, 2) := by decide +kernel
theorem dc_T_contend_54 : decode cd_T_contend 54 = .ok (.if_icmp .le 15, 3) := by decide +kernel
theorem dc_T_contend_57 : decode cd_T_contend 57 = .ok (.aload_n 0, 1) := by decide +kernel
theorem dc_T_contend_58 : decode cd_T_contend 58 = .ok (.aload_n 1, 1) := by decide +kernel
theorem dc_T_contend_59 : decode cd_T_contend 59 = .ok (.iload 5, 2) := by decide +kernel
theorem dc_T_contend_61 : decode cd_T_contend 61 = .ok (.aaload, 1) := by decide +kernel
theorem dc_T_contend_62 : decode cd_T_contend 62 = .ok (.iload 4, 2) := by decide +kernel
theorem dc_T_contend_64 : decode cd_T_contend 64 = .ok (.iload_n 2, 1) := by decide +kernel
theorem dc_T_contend_65 : decode cd_T_contend 65 = .ok (.iload_n 3, 1) := by decide +kernel
theorem dc_T_contend_66 : decode cd_T_contend 66 = .ok (.invokevirtual 68, 3) := by decide +kernel
theorem dc_T_contend_69 : decode cd_T_contend 69 = .ok (.return_, 1) := by decide +kernel
theorem dc_T_close_0 : decode cd_T_close 0 = .ok (.aload_n 1, 1) := by decide +kernel
theorem dc_T_close_1 : decode cd_T_close 1 = .ok (.iload_n 2, 1) := by decide +kernel
theorem dc_T_close_2 : decode cd_T_close 2 = .ok (.putfield 80, 3) := by decide +kernel
theorem dc_T_close_5 : decode cd_T_close 5 = .ok (.aload_n 0, 1) := by decide +kernel
theorem dc_T_close_6 : decode cd_T_close 6 = .ok (.getfield 9, 3) := by decide +kernel
theorem dc_T_close_9 : decode cd_T_close 9 = .ok (.iload_n 3, 1) := by decide +kernel
theorem dc_T_close_10 : decode cd_T_close 10 = .ok (.iconst 0, 1) := by decide +kernel
theorem dc_T_close_11 : decode cd_T_close 11 = .ok (.bastore, 1) := by decide +kernel
theorem dc_T_close_12 : decode cd_T_close 12 = .ok (.aload_n 0, 1) := by decide +kernel
theorem dc_T_close_13 : decode cd_T_close 13 = .ok (.getfield 9, 3) := by decide +kernel
theorem dc_T_close_16 : decode cd_T_close 16 = .ok (.iload 4, 2) := by decide +kernel
theorem dc_T_close_18 : decode cd_T_close 18 = .ok (.iconst 0, 1) := by decide +kernel
theorem dc_T_close_19 : decode cd_T_close 19 = .ok (.bastore, 1) := by decide +kernel
theorem dc_T_close_20 : decode cd_T_close 20 = .ok (.return_, 1) := by decide +kernel
theorem dc_T_findRoot_0 : decode cd_T_findRoot 0 = .ok (.iconst 0, 1) := by decide +kernel
theorem dc_T_findRoot_1 : decode cd_T_findRoot 1 = .ok (.istore 4, 2) := by decide +kernel
theorem dc_T_findRoot_3 : decode cd_T_findRoot 3 = .ok (.iload 4, 2) := by decide +kernel
theorem dc_T_findRoot_5 : decode cd_T_findRoot 5 = .ok (.bipush 12, 2) := by decide +kernel
theorem dc_T_findRoot_7 : decode cd_T_findRoot 7 = .ok (.if_icmp .ge 33, 3) := by decide +kernel
theorem dc_T_findRoot_10 : decode cd_T_findRoot 10 = .ok (.aload_n 1, 1) := by decide +kernel
theorem dc_T_findRoot_11 : decode cd_T_findRoot 11 = .ok (.iload 4, 2) := by decide +kernel
theorem dc_T_findRoot_13 : decode cd_T_findRoot 13 = .ok (.invokevirtual 46, 3) := by decide +kernel
theorem dc_T_findRoot_16 : decode cd_T_findRoot 16 = .ok (.iload_n 3, 1) := by decide +kernel
theorem dc_T_findRoot_17 : decode cd_T_findRoot 17 = .ok (.if_icmp .ne 17, 3) := by decide +kernel
theorem dc_T_findRoot_20 : decode cd_T_findRoot 20 = .ok (.aload_n 2, 1) := by decide +kernel
theorem dc_T_findRoot_21 : decode cd_T_findRoot 21 = .ok (.iload 4, 2) := by decide +kernel
theorem dc_T_findRoot_23 : decode cd_T_findRoot 23 = .ok (.aaload, 1) := by decide +kernel
theorem dc_T_findRoot_24 : decode cd_T_findRoot 24 = .ok (.getfield 80, 3) := by decide +kernel
theorem dc_T_findRoot_27 : decode cd_T_findRoot 27 = .ok (.iconst (-1), 1) := by decide +kernel
theorem dc_T_findRoot_28 : decode cd_T_findRoot 28 = .ok (.if_icmp .ne 6, 3) := by decide +kernel
theorem dc_T_findRoot_31 : decode cd_T_findRoot 31 = .ok (.iload 4, 2) := by decide +kernel
theorem dc_T_findRoot_33 : decode cd_T_findRoot 33 = .ok (.ireturn, 1) := by decide +kernel
theorem dc_T_findRoot_34 : decode cd_T_findRoot 34 = .ok (.iinc 4 1, 3) := by decide +kernel
theorem dc_T_findRoot_37 : decode cd_T_findRoot 37 = .ok (.goto (-34), 3) := by decide +kernel
theorem dc_T_findRoot_40 : decode cd_T_findRoot 40 = .ok (.iload_n 3, 1) := by decide +kernel
theorem dc_T_findRoot_41 : decode cd_T_findRoot 41 = .ok (.ireturn, 1) := by decide +kernel
theorem dc_T_giveNumbers_0 : decode cd_T_giveNumbers 0 = .ok (.iload 5, 2) := by decide +kernel
theorem dc_T_giveNumbers_2 : decode cd_T_giveNumbers 2 = .ok (.bipush 12, 2) := by decide +kernel
theorem dc_T_giveNumbers_4 : decode cd_T_giveNumbers 4 = .ok (.if_icmp .lt 6, 3) := by decide +kernel
theorem dc_T_giveNumbers_7 : decode cd_T_giveNumbers 7 = .ok (.iload 4, 2) := by decide +kernel
theorem dc_T_giveNumbers_9 : decode cd_T_giveNumbers 9 = .ok (.ireturn, 1) := by decide +kernel
theorem dc_T_giveNumbers_10 : decode cd_T_giveNumbers 10 = .ok (.iload 4, 2) := by decide +kernel
theorem dc_T_giveNumbers_12 : decode cd_T_giveNumbers 12 = .ok (.istore 6, 2) := by decide +kernel
theorem dc_T_giveNumbers_14 : decode cd_T_giveNumbers 14 = .ok (.iconst 0, 1) := by decide +kernel
theorem dc_T_giveNumbers_15 : decode cd_T_giveNumbers 15 = .ok (.istore 7, 2) := by decide +kernel
theorem dc_T_giveNumbers_17 : decode cd_T_giveNumbers 17 = .ok (.iload 7, 2) := by decide +kernel
theorem dc_T_giveNumbers_19 : decode cd_T_giveNumbers 19 = .ok (.iconst 3, 1) := by decide +kernel
theorem dc_T_giveNumbers_20 : decode cd_T_giveNumbers 20 = .ok (.if_icmp .ge 51, 3) := by decide +kernel
theorem dc_T_giveNumbers_23 : decode cd_T_giveNumbers 23 = .ok (.aload_n 1, 1) := by decide +kernel
theorem dc_T_giveNumbers_24 : decode cd_T_giveNumbers 24 = .ok (.iload_n 3, 1) := by decide +kernel
theorem dc_T_giveNumbers_25 : decode cd_T_giveNumbers 25 = .ok (.iload 7, 2) := by decide +kernel
theorem dc_T_giveNumbers_27 : decode cd_T_giveNumbers 27 = .ok (.invokevirtual 84, 3) := by decide +kernel
theorem dc_T_giveNumbers_30 : decode cd_T_giveNumbers 30 = .ok (.istore 8, 2) := by decide +kernel
theorem dc_T_giveNumbers_32 : decode cd_T_giveNumbers 32 = .ok (.iload 8, 2) := by decide +kernel
theorem dc_T_giveNumbers_34 : decode cd_T_giveNumbers 34 = .ok (.iconst (-1), 1) := by decide +kernel
theorem dc_T_giveNumbers_35 : decode cd_T_giveNumbers 35 = .ok (.if_icmp .eq 30, 3) := by decide +kernel
theorem dc_T_giveNumbers_38 : decode cd_T_giveNumbers 38 = .ok (.aload_n 2, 1) := by decide +kernel
theorem dc_T_giveNumbers_39 : decode cd_T_giveNumbers 39 = .ok (.iload 8, 2) := by decide +kernel
theorem dc_T_giveNumbers_41 : decode cd_T_giveNumbers 41 = .ok (.aaload, 1) := by decide +kernel
theorem dc_T_giveNumbers_42 : decode cd_T_giveNumbers 42 = .ok (.getfield 80, 3) := by decide +kernel
theorem dc_T_giveNumbers_45 : decode cd_T_giveNumbers 45 = .ok (.iload_n 3, 1) := by decide +kernel
theorem dc_T_giveNumbers_46 : decode cd_T_giveNumbers 46 = .ok (.if_icmp .ne 19, 3) := by decide +kernel
theorem dc_T_giveNumbers_49 : decode cd_T_giveNumbers 49 = .ok (.aload_n 0, 1) := by decide +kernel
theorem dc_T_giveNumbers_50 : decode cd_T_giveNumbers 50 = .ok (.aload_n 1, 1) := by decide +kernel
theorem dc_T_giveNumbers_51 : decode cd_T_giveNumbers 51 = .ok (.aload_n 2, 1) := by decide +kernel
theorem dc_T_giveNumbers_52 : decode cd_T_giveNumbers 52 = .ok (.iload 8, 2) := by decide +kernel
theorem dc_T_giveNumbers_54 : decode cd_T_giveNumbers 54 = .ok (.iload 6, 2) := by decide +kernel
theorem dc_T_giveNumbers_56 : decode cd_T_giveNumbers 56 = .ok (.iload 5, 2) := by decide +kernel
theorem dc_T_giveNumbers_58 : decode cd_T_giveNumbers 58 = .ok (.iconst 1, 1) := by decide +kernel
theorem dc_T_giveNumbers_59 : decode cd_T_giveNumbers 59 = .ok (.iadd, 1) := by decide +kernel
theorem dc_T_giveNumbers_60 : decode cd_T_giveNumbers 60 = .ok (.invokevirtual 39, 3) := by decide +kernel
theorem dc_T_giveNumbers_63 : decode cd_T_giveNumbers 63 = .ok (.istore 6, 2) := by decide +kernel
theorem dc_T_giveNumbers_65 : decode cd_T_giveNumbers 65 = .ok (.iinc 7 1, 3) := by decide +kernel
theorem dc_T_giveNumbers_68 : decode cd_T_giveNumbers 68 = .ok (.goto (-51), 3) := by decide +kernel
theorem dc_T_giveNumbers_71 : decode cd_T_giveNumbers 71 = .ok (.aload_n 2, 1) := by decide +kernel
theorem dc_T_giveNumbers_72 : decode cd_T_giveNumbers 72 = .ok (.iload_n 3, 1) := by decide +kernel
theorem dc_T_giveNumbers_73 : decode cd_T_giveNumbers 73 = .ok (.aaload, 1) := by decide +kernel
theorem dc_T_giveNumbers_74 : decode cd_T_giveNumbers 74 = .ok (.iload 6, 2) := by decide +kernel
theorem dc_T_giveNumbers_76 : decode cd_T_giveNumbers 76 = .ok (.putfield 88, 3) := by decide +kernel
theorem dc_T_giveNumbers_79 : decode cd_T_giveNumbers 79 = .ok (.iload 6, 2) := by decide +kernel
theorem dc_T_giveNumbers_81 : decode cd_T_giveNumbers 81 = .ok (.iconst 1, 1) := by decide +kernel
theorem dc_T_giveNumbers_82 : decode cd_T_giveNumbers 82 = .ok (.iadd, 1) := by decide +kernel
theorem dc_T_giveNumbers_83 : decode cd_T_giveNumbers 83 = .ok (.ireturn, 1) := by decide +kernel
theorem dc_T_findManager_0 : decode cd_T_findManager 0 = .ok (.iconst (-1), 1) := by decide +kernel
theorem dc_T_findManager_1 : decode cd_T_findManager 1 = .ok (.istore 4, 2) := by decide +kernel
theorem dc_T_findManager_3 : decode cd_T_findManager 3 = .ok (.iconst (-1), 1) := by decide +kernel
theorem dc_T_findManager_4 : decode cd_T_findManager 4 = .ok (.istore 5, 2) := by decide +kernel
theorem dc_T_findManager_6 : decode cd_T_findManager 6 = .ok (.iconst 0, 1) := by decide +kernel
theorem dc_T_findManager_7 : decode cd_T_findManager 7 = .ok (.istore 6, 2) := by decide +kernel
theorem dc_T_findManager_9 : decode cd_T_findManager 9 = .ok (.iload 6, 2) := by decide +kernel
theorem dc_T_findManager_11 : decode cd_T_findManager 11 = .ok (.bipush 12, 2) := by decide +kernel
theorem dc_T_findManager_13 : decode cd_T_findManager 13 = .ok (.if_icmp .ge 66, 3) := by decide +kernel
theorem dc_T_findManager_16 : decode cd_T_findManager 16 = .ok (.aload_n 1, 1) := by decide +kernel
theorem dc_T_findManager_17 : decode cd_T_findManager 17 = .ok (.iload 6, 2) := by decide +kernel
theorem dc_T_findManager_19 : decode cd_T_findManager 19 = .ok (.invokevirtual 46, 3) := by decide +kernel
theorem dc_T_findManager_22 : decode cd_T_findManager 22 = .ok (.iload_n 3, 1) := by decide +kernel
theorem dc_T_findManager_23 : decode cd_T_findManager 23 = .ok (.if_icmp .ne 17, 3) := by decide +kernel
theorem dc_T_findManager_26 : decode cd_T_findManager 26 = .ok (.aload_n 2, 1) := by decide +kernel
theorem dc_T_findManager_27 : decode cd_T_findManager 27 = .ok (.iload 6, 2) := by decide +kernel
theorem dc_T_findManager_29 : decode cd_T_findManager 29 = .ok (.aaload, 1) := by decide +kernel
theorem dc_T_findManager_30 : decode cd_T_findManager 30 = .ok (.getfield 91, 3) := by decide +kernel
theorem dc_T_findManager_33 : decode cd_T_findManager 33 = .ok (.ifCond .eq 7, 3) := by decide +kernel
theorem dc_T_findManager_36 : decode cd_T_findManager 36 = .ok (.iconst 1, 1) := by decide +kernel
theorem dc_T_findManager_37 : decode cd_T_findManager 37 = .ok (.goto 4, 3) := by decide +kernel
theorem dc_T_findManager_40 : decode cd_T_findManager 40 = .ok (.iconst 0, 1) := by decide +kernel
theorem dc_T_findManager_41 : decode cd_T_findManager 41 = .ok (.istore 7, 2) := by decide +kernel
theorem dc_T_findManager_43 : decode cd_T_findManager 43 = .ok (.iload 7, 2) := by decide +kernel
theorem dc_T_findManager_45 : decode cd_T_findManager 45 = .ok (.ifCond .eq 28, 3) := by decide +kernel
theorem dc_T_findManager_48 : decode cd_T_findManager 48 = .ok (.aload_n 2, 1) := by decide +kernel
theorem dc_T_findManager_49 : decode cd_T_findManager 49 = .ok (.iload 6, 2) := by decide +kernel
theorem dc_T_findManager_51 : decode cd_T_findManager 51 = .ok (.aaload, 1) := by decide +kernel
theorem dc_T_findManager_52 : decode cd_T_findManager 52 = .ok (.getfield 88, 3) := by decide +kernel
theorem dc_T_findManager_55 : decode cd_T_findManager 55 = .ok (.iload 5, 2) := by decide +kernel
theorem dc_T_findManager_57 : decode cd_T_findManager 57 = .ok (.if_icmp .le 16, 3) := by decide +kernel
theorem dc_T_findManager_60 : decode cd_T_findManager 60 = .ok (.iload 6, 2) := by decide +kernel
theorem dc_T_findManager_62 : decode cd_T_findManager 62 = .ok (.istore 4, 2) := by decide +kernel
theorem dc_T_findManager_64 : decode cd_T_findManager 64 = .ok (.aload_n 2, 1) := by decide +kernel
theorem dc_T_findManager_65 : decode cd_T_findManager 65 = .ok (.iload 6, 2) := by decide +kernel
theorem dc_T_findManager_67 : decode cd_T_findManager 67 = .ok (.aaload, 1) := by decide +kernel
theorem dc_T_findManager_68 : decode cd_T_findManager 68 = .ok (.getfield 88, 3) := by decide +kernel
theorem dc_T_findManager_71 : decode cd_T_findManager 71 = .ok (.istore 5, 2) := by decide +kernel
theorem dc_T_findManager_73 : decode cd_T_findManager 73 = .ok (.iinc 6 1, 3) := by decide +kernel
theorem dc_T_findManager_76 : decode cd_T_findManager 76 = .ok (.goto (-67), 3) := by decide +kernel
theorem dc_T_findManager_79 : decode cd_T_findManager 79 = .ok (.iload 4, 2) := by decide +kernel
theorem dc_T_findManager_81 : decode cd_T_findManager 81 = .ok (.ireturn, 1) := by decide +kernel
theorem dc_W_init_0 : decode cd_W_init 0 = .ok (.aload_n 0, 1) := by decide +kernel
theorem dc_W_init_1 : decode cd_W_init 1 = .ok (.invokespecial 3, 3) := by decide +kernel
theorem dc_W_init_4 : decode cd_W_init 4 = .ok (.aload_n 0, 1) := by decide +kernel
theorem dc_W_init_5 : decode cd_W_init 5 = .ok (.bipush 36, 2) := by decide +kernel
theorem dc_W_init_7 : decode cd_W_init 7 = .ok (.newarray .int, 2) := by decide +kernel
theorem dc_W_init_9 : decode cd_W_init 9 = .ok (.putfield 9, 3) := by decide +kernel
theorem dc_W_init_12 : decode cd_W_init 12 = .ok (.aload_n 0, 1) := by decide +kernel
theorem dc_W_init_13 : decode cd_W_init 13 = .ok (.bipush 12, 2) := by decide +kernel
theorem dc_W_init_15 : decode cd_W_init 15 = .ok (.newarray .int, 2) := by decide +kernel
theorem dc_W_init_17 : decode cd_W_init 17 = .ok (.putfield 15, 3) := by decide +kernel
theorem dc_W_init_20 : decode cd_W_init 20 = .ok (.aload_n 0, 1) := by decide +kernel
theorem dc_W_init_21 : decode cd_W_init 21 = .ok (.getfield 9, 3) := by decide +kernel
theorem dc_W_init_24 : decode cd_W_init 24 = .ok (.iconst (-1), 1) := by decide +kernel
theorem dc_W_init_25 : decode cd_W_init 25 = .ok (.invokestatic 18, 3) := by decide +kernel
theorem dc_W_init_28 : decode cd_W_init 28 = .ok (.aload_n 0, 1) := by decide +kernel
theorem dc_W_init_29 : decode cd_W_init 29 = .ok (.invokevirtual 24, 3) := by decide +kernel
theorem dc_W_init_32 : decode cd_W_init 32 = .ok (.return_, 1) := by decide +kernel
theorem dc_W_join_0 : decode cd_W_join 0 = .ok (.aload_n 0, 1) := by decide +kernel
theorem dc_W_join_1 : decode cd_W_join 1 = .ok (.getfield 9, 3) := by decide +kernel
theorem dc_W_join_4 : decode cd_W_join 4 = .ok (.iload_n 1, 1) := by decide +kernel
theorem dc_W_join_5 : decode cd_W_join 5 = .ok (.iconst 3, 1) := by decide +kernel
theorem dc_W_join_6 : decode cd_W_join 6 = .ok (.imul, 1) := by decide +kernel
theorem dc_W_join_7 : decode cd_W_join 7 = .ok (.iload_n 2, 1) := by decide +kernel
theorem dc_W_join_8 : decode cd_W_join 8 = .ok (.iadd, 1) := by decide +kernel
theorem dc_W_join_9 : decode cd_W_join 9 = .ok (.iload_n 3, 1) := by decide +kernel
theorem dc_W_join_10 : decode cd_W_join 10 = .ok (.iconst 3, 1) := by decide +kernel
theorem dc_W_join_11 : decode cd_W_join 11 = .ok (.imul, 1) := by decide +kernel
theorem dc_W_join_12 : decode cd_W_join 12 = .ok (.iload 4, 2) := by decide +kernel
theorem dc_W_join_14 : decode cd_W_join 14 = .ok (.iadd, 1) := by decide +kernel
theorem dc_W_join_15 : decode cd_W_join 15 = .ok (.iastore, 1) := by decide +kernel
theorem dc_W_join_16 : decode cd_W_join 16 = .ok (.aload_n 0, 1) := by decide +kernel
theorem dc_W_join_17 : decode cd_W_join 17 = .ok (.getfield 9, 3) := by decide +kernel
theorem dc_W_join_20 : decode cd_W_join 20 = .ok (.iload_n 3, 1) := by decide +kernel
theorem dc_W_join_21 : decode cd_W_join 21 = .ok (.iconst 3, 1) := by decide +kernel
theorem dc_W_join_22 : decode cd_W_join 22 = .ok (.imul, 1) := by decide +kernel
theorem dc_W_join_23 : decode cd_W_join 23 = .ok (.iload 4, 2) := by decide +kernel
theorem dc_W_join_25 : decode cd_W_join 25 = .ok (.iadd, 1) := by decide +kernel
theorem dc_W_join_26 : decode cd_W_join 26 = .ok (.iload_n 1, 1) := by decide +kernel
theorem dc_W_join_27 : decode cd_W_join 27 = .ok (.iconst 3, 1) := by decide +kernel
theorem dc_W_join_28 : decode cd_W_join 28 = .ok (.imul, 1) := by decide +kernel
theorem dc_W_join_29 : decode cd_W_join 29 = .ok (.iload_n 2, 1) := by decide +kernel
theorem dc_W_join_30 : decode cd_W_join 30 = .ok (.iadd, 1) := by decide +kernel
theorem dc_W_join_31 : decode cd_W_join 31 = .ok (.iastore, 1) := by decide +kernel
theorem dc_W_join_32 : decode cd_W_join 32 = .ok (.aload_n 0, 1) := by decide +kernel
theorem dc_W_join_33 : decode cd_W_join 33 = .ok (.dup, 1) := by decide +kernel
theorem dc_W_join_34 : decode cd_W_join 34 = .ok (.getfield 27, 3) := by decide +kernel
theorem dc_W_join_37 : decode cd_W_join 37 = .ok (.iconst 1, 1) := by decide +kernel
theorem dc_W_join_38 : decode cd_W_join 38 = .ok (.iadd, 1) := by decide +kernel
theorem dc_W_join_39 : decode cd_W_join 39 = .ok (.putfield 27, 3) := by decide +kernel
theorem dc_W_join_42 : decode cd_W_join 42 = .ok (.aload_n 0, 1) := by decide +kernel
theorem dc_W_join_43 : decode cd_W_join 43 = .ok (.invokevirtual 24, 3) := by decide +kernel
theorem dc_W_join_46 : decode cd_W_join 46 = .ok (.return_, 1) := by decide +kernel
theorem dc_W_part_0 : decode cd_W_part 0 = .ok (.iload_n 1, 1) := by decide +kernel
theorem dc_W_part_1 : decode cd_W_part 1 = .ok (.iconst 3, 1) := by decide +kernel
theorem dc_W_part_2 : decode cd_W_part 2 = .ok (.imul, 1) := by decide +kernel
theorem dc_W_part_3 : decode cd_W_part 3 = .ok (.iload_n 2, 1) := by decide +kernel
theorem dc_W_part_4 : decode cd_W_part 4 = .ok (.iadd, 1) := by decide +kernel
theorem dc_W_part_5 : decode cd_W_part 5 = .ok (.istore_n 3, 1) := by decide +kernel
theorem dc_W_part_6 : decode cd_W_part 6 = .ok (.aload_n 0, 1) := by decide +kernel
theorem dc_W_part_7 : decode cd_W_part 7 = .ok (.getfield 9, 3) := by decide +kernel
theorem dc_W_part_10 : decode cd_W_part 10 = .ok (.iload_n 3, 1) := by decide +kernel
theorem dc_W_part_11 : decode cd_W_part 11 = .ok (.iaload, 1) := by decide +kernel
theorem dc_W_part_12 : decode cd_W_part 12 = .ok (.istore 4, 2) := by decide +kernel
theorem dc_W_part_14 : decode cd_W_part 14 = .ok (.iload 4, 2) := by decide +kernel
theorem dc_W_part_16 : decode cd_W_part 16 = .ok (.iconst (-1), 1) := by decide +kernel
theorem dc_W_part_17 : decode cd_W_part 17 = .ok (.if_icmp .ne 4, 3) := by decide +kernel
theorem dc_W_part_20 : decode cd_W_part 20 = .ok (.return_, 1) := by decide +kernel
theorem dc_W_part_21 : decode cd_W_part 21 = .ok (.aload_n 0, 1) := by decide +kernel
theorem dc_W_part_22 : decode cd_W_part 22 = .ok (.getfield 9, 3) := by decide +kernel
theorem dc_W_part_25 : decode cd_W_part 25 = .ok (.iload_n 3, 1) := by decide +kernel
theorem dc_W_part_26 : decode cd_W_part 26 = .ok (.iconst (-1), 1) := by decide +kernel
theorem dc_W_part_27 : decode cd_W_part 27 = .ok (.iastore, 1) := by decide +kernel
theorem dc_W_part_28 : decode cd_W_part 28 = .ok (.aload_n 0, 1) := by decide +kernel
theorem dc_W_part_29 : decode cd_W_part 29 = .ok (.getfield 9, 3) := by decide +kernel
theorem dc_W_part_32 : decode cd_W_part 32 = .ok (.iload 4, 2) := by decide +kernel
theorem dc_W_part_34 : decode cd_W_part 34 = .ok (.iconst (-1), 1) := by decide +kernel
theorem dc_W_part_35 : decode cd_W_part 35 = .ok (.iastore, 1) := by decide +kernel
theorem dc_W_part_36 : decode cd_W_part 36 = .ok (.aload_n 0, 1) := by decide +kernel
theorem dc_W_part_37 : decode cd_W_part 37 = .ok (.dup, 1) := by decide +kernel
theorem dc_W_part_38 : decode cd_W_part 38 = .ok (.getfield 27, 3) := by decide +kernel
theorem dc_W_part_41 : decode cd_W_part 41 = .ok (.iconst 1, 1) := by decide +kernel
theorem dc_W_part_42 : decode cd_W_part 42 = .ok (.isub, 1) := by decide +kernel
theorem dc_W_part_43 : decode cd_W_part 43 = .ok (.putfield 27, 3) := by decide +kernel
theorem dc_W_part_46 : decode cd_W_part 46 = .ok (.aload_n 0, 1) := by decide +kernel
theorem dc_W_part_47 : decode cd_W_part 47 = .ok (.invokevirtual 24, 3) := by decide +kernel
theorem dc_W_part_50 : decode cd_W_part 50 = .ok (.return_, 1) := by decide +kernel
theorem dc_W_farNode_0 : decode cd_W_farNode 0 = .ok (.aload_n 0, 1) := by decide +kernel
theorem dc_W_farNode_1 : decode cd_W_farNode 1 = .ok (.getfield 9, 3) := by decide +kernel
theorem dc_W_farNode_4 : decode cd_W_farNode 4 = .ok (.iload_n 1, 1) := by decide +kernel
theorem dc_W_farNode_5 : decode cd_W_farNode 5 = .ok (.iconst 3, 1) := by decide +kernel
theorem dc_W_farNode_6 : decode cd_W_farNode 6 = .ok (.imul, 1) := by decide +kernel
theorem dc_W_farNode_7 : decode cd_W_farNode 7 = .ok (.iload_n 2, 1) := by decide +kernel
theorem dc_W_farNode_8 : decode cd_W_farNode 8 = .ok (.iadd, 1) := by decide +kernel
theorem dc_W_farNode_9 : decode cd_W_farNode 9 = .ok (.iaload, 1) := by decide +kernel
theorem dc_W_farNode_10 : decode cd_W_farNode 10 = .ok (.istore_n 3, 1) := by decide +kernel
theorem dc_W_farNode_11 : decode cd_W_farNode 11 = .ok (.iload_n 3, 1) := by decide +kernel
theorem dc_W_farNode_12 : decode cd_W_farNode 12 = .ok (.iconst (-1), 1) := by decide +kernel
theorem dc_W_farNode_13 : decode cd_W_farNode 13 = .ok (.if_icmp .ne 7, 3) := by decide +kernel
theorem dc_W_farNode_16 : decode cd_W_farNode 16 = .ok (.iconst (-1), 1) := by decide +kernel
theorem dc_W_farNode_17 : decode cd_W_farNode 17 = .ok (.goto 6, 3) := by decide +kernel
theorem dc_W_farNode_20 : decode cd_W_farNode 20 = .ok (.iload_n 3, 1) := by decide +kernel
theorem dc_W_farNode_21 : decode cd_W_farNode 21 = .ok (.iconst 3, 1) := by decide +kernel
theorem dc_W_farNode_22 : decode cd_W_farNode 22 = .ok (.idiv, 1) := by decide +kernel
theorem dc_W_farNode_23 : decode cd_W_farNode 23 = .ok (.ireturn, 1) := by decide +kernel
theorem dc_W_busOf_0 : decode cd_W_busOf 0 = .ok (.aload_n 0, 1) := by decide +kernel
theorem dc_W_busOf_1 : decode cd_W_busOf 1 = .ok (.getfield 15, 3) := by decide +kernel
theorem dc_W_busOf_4 : decode cd_W_busOf 4 = .ok (.iload_n 1, 1) := by decide +kernel
theorem dc_W_busOf_5 : decode cd_W_busOf 5 = .ok (.iaload, 1) := by decide +kernel
theorem dc_W_busOf_6 : decode cd_W_busOf 6 = .ok (.ireturn, 1) := by decide +kernel
theorem dc_W_isBus_0 : decode cd_W_isBus 0 = .ok (.aload_n 0, 1) := by decide +kernel
theorem dc_W_isBus_1 : decode cd_W_isBus 1 = .ok (.getfield 15, 3) := by decide +kernel
theorem dc_W_isBus_4 : decode cd_W_isBus 4 = .ok (.iload_n 1, 1) := by decide +kernel
theorem dc_W_isBus_5 : decode cd_W_isBus 5 = .ok (.iaload, 1) := by decide +kernel
theorem dc_W_isBus_6 : decode cd_W_isBus 6 = .ok (.iload_n 1, 1) := by decide +kernel
theorem dc_W_isBus_7 : decode cd_W_isBus 7 = .ok (.if_icmp .ne 7, 3) := by decide +kernel
theorem dc_W_isBus_10 : decode cd_W_isBus 10 = .ok (.iconst 1, 1) := by decide +kernel
theorem dc_W_isBus_11 : decode cd_W_isBus 11 = .ok (.goto 4, 3) := by decide +kernel
theorem dc_W_isBus_14 : decode cd_W_isBus 14 = .ok (.iconst 0, 1) := by decide +kernel
theorem dc_W_isBus_15 : decode cd_W_isBus 15 = .ok (.ireturn, 1) := by decide +kernel
theorem dc_W_buses_0 : decode cd_W_buses 0 = .ok (.iconst 0, 1) := by decide +kernel
theorem dc_W_buses_1 : decode cd_W_buses 1 = .ok (.istore_n 1, 1) := by decide +kernel
theorem dc_W_buses_2 : decode cd_W_buses 2 = .ok (.iconst 0, 1) := by decide +kernel
theorem dc_W_buses_3 : decode cd_W_buses 3 = .ok (.istore_n 2, 1) := by decide +kernel
theorem dc_W_buses_4 : decode cd_W_buses 4 = .ok (.iload_n 2, 1) := by decide +kernel
theorem dc_W_buses_5 : decode cd_W_buses 5 = .ok (.bipush 12, 2) := by decide +kernel
theorem dc_W_buses_7 : decode cd_W_buses 7 = .ok (.if_icmp .ge 20, 3) := by decide +kernel
theorem dc_W_buses_10 : decode cd_W_buses 10 = .ok (.aload_n 0, 1) := by decide +kernel
theorem dc_W_buses_11 : decode cd_W_buses 11 = .ok (.iload_n 2, 1) := by decide +kernel
theorem dc_W_buses_12 : decode cd_W_buses 12 = .ok (.invokevirtual 31, 3) := by decide +kernel
theorem dc_W_buses_15 : decode cd_W_buses 15 = .ok (.ifCond .eq 6, 3) := by decide +kernel
theorem dc_W_buses_18 : decode cd_W_buses 18 = .ok (.iinc 1 1, 3) := by decide +kernel
theorem dc_W_buses_21 : decode cd_W_buses 21 = .ok (.iinc 2 1, 3) := by decide +kernel
theorem dc_W_buses_24 : decode cd_W_buses 24 = .ok (.goto (-20), 3) := by decide +kernel
theorem dc_W_buses_27 : decode cd_W_buses 27 = .ok (.iload_n 1, 1) := by decide +kernel
theorem dc_W_buses_28 : decode cd_W_buses 28 = .ok (.ireturn, 1) := by decide +kernel
theorem dc_W_findBuses_0 : decode cd_W_findBuses 0 = .ok (.iconst 0, 1) := by decide +kernel
theorem dc_W_findBuses_1 : decode cd_W_findBuses 1 = .ok (.istore_n 1, 1) := by decide +kernel
theorem dc_W_findBuses_2 : decode cd_W_findBuses 2 = .ok (.iload_n 1, 1) := by decide +kernel
theorem dc_W_findBuses_3 : decode cd_W_findBuses 3 = .ok (.bipush 12, 2) := by decide +kernel
theorem dc_W_findBuses_5 : decode cd_W_findBuses 5 = .ok (.if_icmp .ge 16, 3) := by decide +kernel
theorem dc_W_findBuses_8 : decode cd_W_findBuses 8 = .ok (.aload_n 0, 1) := by decide +kernel
theorem dc_W_findBuses_9 : decode cd_W_findBuses 9 = .ok (.getfield 15, 3) := by decide +kernel
theorem dc_W_findBuses_12 : decode cd_W_findBuses 12 = .ok (.iload_n 1, 1) := by decide +kernel
theorem dc_W_findBuses_13 : decode cd_W_findBuses 13 = .ok (.iload_n 1, 1) := by decide +kernel
theorem dc_W_findBuses_14 : decode cd_W_findBuses 14 = .ok (.iastore, 1) := by decide +kernel
theorem dc_W_findBuses_15 : decode cd_W_findBuses 15 = .ok (.iinc 1 1, 3) := by decide +kernel
theorem dc_W_findBuses_18 : decode cd_W_findBuses 18 = .ok (.goto (-16), 3) := by decide +kernel
theorem dc_W_findBuses_21 : decode cd_W_findBuses 21 = .ok (.iconst 1, 1) := by decide +kernel
theorem dc_W_findBuses_22 : decode cd_W_findBuses 22 = .ok (.istore_n 1, 1) := by decide +kernel
theorem dc_W_findBuses_23 : decode cd_W_findBuses 23 = .ok (.iload_n 1, 1) := by decide +kernel
theorem dc_W_findBuses_24 : decode cd_W_findBuses 24 = .ok (.bipush 12, 2) := by decide +kernel
theorem dc_W_findBuses_26 : decode cd_W_findBuses 26 = .ok (.if_icmp .ge 69, 3) := by decide +kernel
theorem dc_W_findBuses_29 : decode cd_W_findBuses 29 = .ok (.iconst 0, 1) := by decide +kernel
theorem dc_W_findBuses_30 : decode cd_W_findBuses 30 = .ok (.istore_n 2, 1) := by decide +kernel
theorem dc_W_findBuses_31 : decode cd_W_findBuses 31 = .ok (.iload_n 2, 1) := by decide +kernel
theorem dc_W_findBuses_32 : decode cd_W_findBuses 32 = .ok (.bipush 36, 2) := by decide +kernel
theorem dc_W_findBuses_34 : decode cd_W_findBuses 34 = .ok (.if_icmp .ge 55, 3) := by decide +kernel
theorem dc_W_findBuses_37 : decode cd_W_findBuses 37 = .ok (.aload_n 0, 1) := by decide +kernel
theorem dc_W_findBuses_38 : decode cd_W_findBuses 38 = .ok (.getfield 9, 3) := by decide +kernel
theorem dc_W_findBuses_41 : decode cd_W_findBuses 41 = .ok (.iload_n 2, 1) := by decide +kernel
theorem dc_W_findBuses_42 : decode cd_W_findBuses 42 = .ok (.iaload, 1) := by decide +kernel
theorem dc_W_findBuses_43 : decode cd_W_findBuses 43 = .ok (.iconst (-1), 1) := by decide +kernel
theorem dc_W_findBuses_44 : decode cd_W_findBuses 44 = .ok (.if_icmp .eq 39, 3) := by decide +kernel
theorem dc_W_findBuses_47 : decode cd_W_findBuses 47 = .ok (.iload_n 2, 1) := by decide +kernel
theorem dc_W_findBuses_48 : decode cd_W_findBuses 48 = .ok (.iconst 3, 1) := by decide +kernel
theorem dc_W_findBuses_49 : decode cd_W_findBuses 49 = .ok (.idiv, 1) := by decide +kernel
theorem dc_W_findBuses_50 : decode cd_W_findBuses 50 = .ok (.istore_n 3, 1) := by decide +kernel
theorem dc_W_findBuses_51 : decode cd_W_findBuses 51 = .ok (.aload_n 0, 1) := by decide +kernel
theorem dc_W_findBuses_52 : decode cd_W_findBuses 52 = .ok (.getfield 9, 3) := by decide +kernel
theorem dc_W_findBuses_55 : decode cd_W_findBuses 55 = .ok (.iload_n 2, 1) := by decide +kernel
theorem dc_W_findBuses_56 : decode cd_W_findBuses 56 = .ok (.iaload, 1) := by decide +kernel
theorem dc_W_findBuses_57 : decode cd_W_findBuses 57 = .ok (.iconst 3, 1) := by decide +kernel
theorem dc_W_findBuses_58 : decode cd_W_findBuses 58 = .ok (.idiv, 1) := by decide +kernel
theorem dc_W_findBuses_59 : decode cd_W_findBuses 59 = .ok (.istore 4, 2) := by decide +kernel
theorem dc_W_findBuses_61 : decode cd_W_findBuses 61 = .ok (.aload_n 0, 1) := by decide +kernel
theorem dc_W_findBuses_62 : decode cd_W_findBuses 62 = .ok (.getfield 15, 3) := by decide +kernel
theorem dc_W_findBuses_65 : decode cd_W_findBuses 65 = .ok (.iload_n 3, 1) := by decide +kernel
theorem dc_W_findBuses_66 : decode cd_W_findBuses 66 = .ok (.aload_n 0, 1) := by decide +kernel
theorem dc_W_findBuses_67 : decode cd_W_findBuses 67 = .ok (.getfield 15, 3) := by decide +kernel
theorem dc_W_findBuses_70 : decode cd_W_findBuses 70 = .ok (.iload_n 3, 1) := by decide +kernel
theorem dc_W_findBuses_71 : decode cd_W_findBuses 71 = .ok (.iaload, 1) := by decide +kernel
theorem dc_W_findBuses_72 : decode cd_W_findBuses 72 = .ok (.aload_n 0, 1) := by decide +kernel
theorem dc_W_findBuses_73 : decode cd_W_findBuses 73 = .ok (.getfield 15, 3) := by decide +kernel
theorem dc_W_findBuses_76 : decode cd_W_findBuses 76 = .ok (.iload 4, 2) := by decide +kernel
theorem dc_W_findBuses_78 : decode cd_W_findBuses 78 = .ok (.iaload, 1) := by decide +kernel
theorem dc_W_findBuses_79 : decode cd_W_findBuses 79 = .ok (.invokestatic 35, 3) := by decide +kernel
theorem dc_W_findBuses_82 : decode cd_W_findBuses 82 = .ok (.iastore, 1) := by decide +kernel
theorem dc_W_findBuses_83 : decode cd_W_findBuses 83 = .ok (.iinc 2 1, 3) := by decide +kernel
theorem dc_W_findBuses_86 : decode cd_W_findBuses 86 = .ok (.goto (-55), 3) := by decide +kernel
theorem dc_W_findBuses_89 : decode cd_W_findBuses 89 = .ok (.iinc 1 1, 3) := by decide +kernel
theorem dc_W_findBuses_92 : decode cd_W_findBuses 92 = .ok (.goto (-69), 3) := by decide +kernel
theorem dc_W_findBuses_95 : decode cd_W_findBuses 95 = .ok (.return_, 1) := by decide +kernel
end
section
theorem dc_S_init_0 : decode cd_S_init 0 = .ok (.aload_n 0, 1) := by decide +kernel
theorem dc_S_init_1 : decode cd_S_init 1 = .ok (.invokespecial 3, 3) := by decide +kernel
theorem dc_S_init_4 : decode cd_S_init 4 = .ok (.aload_n 0, 1) := by decide +kernel
theorem dc_S_init_5 : decode cd_S_init 5 = .ok (.new 9, 3) := by decide +kernel
theorem dc_S_init_8 : decode cd_S_init 8 = .ok (.dup, 1) := by decide +kernel
theorem dc_S_init_9 : decode cd_S_init 9 = .ok (.invokespecial 11, 3) := by decide +kernel
theorem dc_S_init_12 : decode cd_S_init 12 = .ok (.putfield 12, 3) := by decide +kernel
theorem dc_S_init_15 : decode cd_S_init 15 = .ok (.aload_n 0, 1) := by decide +kernel
theorem dc_S_init_16 : decode cd_S_init 16 = .ok (.new 16, 3) := by decide +kernel
theorem dc_S_init_19 : decode cd_S_init 19 = .ok (.dup, 1) := by decide +kernel
theorem dc_S_init_20 : decode cd_S_init 20 = .ok (.invokespecial 18, 3) := by decide +kernel
theorem dc_S_init_23 : decode cd_S_init 23 = .ok (.putfield 19, 3) := by decide +kernel
theorem dc_S_init_26 : decode cd_S_init 26 = .ok (.aload_n 0, 1) := by decide +kernel
theorem dc_S_init_27 : decode cd_S_init 27 = .ok (.bipush 12, 2) := by decide +kernel
theorem dc_S_init_29 : decode cd_S_init 29 = .ok (.anewarray 23, 3) := by decide +kernel
theorem dc_S_init_32 : decode cd_S_init 32 = .ok (.putfield 25, 3) := by decide +kernel
theorem dc_S_init_35 : decode cd_S_init 35 = .ok (.iconst 0, 1) := by decide +kernel
theorem dc_S_init_36 : decode cd_S_init 36 = .ok (.istore_n 1, 1) := by decide +kernel
theorem dc_S_init_37 : decode cd_S_init 37 = .ok (.iload_n 1, 1) := by decide +kernel
theorem dc_S_init_38 : decode cd_S_init 38 = .ok (.bipush 12, 2) := by decide +kernel
theorem dc_S_init_40 : decode cd_S_init 40 = .ok (.if_icmp .ge 22, 3) := by decide +kernel
theorem dc_S_init_43 : decode cd_S_init 43 = .ok (.aload_n 0, 1) := by decide +kernel
theorem dc_S_init_44 : decode cd_S_init 44 = .ok (.getfield 25, 3) := by decide +kernel
theorem dc_S_init_47 : decode cd_S_init 47 = .ok (.iload_n 1, 1) := by decide +kernel
theorem dc_S_init_48 : decode cd_S_init 48 = .ok (.new 23, 3) := by decide +kernel
theorem dc_S_init_51 : decode cd_S_init 51 = .ok (.dup, 1) := by decide +kernel
theorem dc_S_init_52 : decode cd_S_init 52 = .ok (.invokespecial 29, 3) := by decide +kernel
theorem dc_S_init_55 : decode cd_S_init 55 = .ok (.aastore, 1) := by decide +kernel
theorem dc_S_init_56 : decode cd_S_init 56 = .ok (.iinc 1 1, 3) := by decide +kernel
theorem dc_S_init_59 : decode cd_S_init 59 = .ok (.goto (-22), 3) := by decide +kernel
theorem dc_S_init_62 : decode cd_S_init 62 = .ok (.aload_n 0, 1) := by decide +kernel
theorem dc_S_init_63 : decode cd_S_init 63 = .ok (.bipush 20, 2) := by decide +kernel
theorem dc_S_init_65 : decode cd_S_init 65 = .ok (.putfield 30, 3) := by decide +kernel
theorem dc_S_init_68 : decode cd_S_init 68 = .ok (.return_, 1) := by decide +kernel
theorem dc_S_plug_0 : decode cd_S_plug 0 = .ok (.iload_n 1, 1) := by decide +kernel
theorem dc_S_plug_1 : decode cd_S_plug 1 = .ok (.invokestatic 34, 3) := by decide +kernel
theorem dc_S_plug_4 : decode cd_S_plug 4 = .ok (.iload_n 3, 1) := by decide +kernel
theorem dc_S_plug_5 : decode cd_S_plug 5 = .ok (.invokestatic 34, 3) := by decide +kernel
theorem dc_S_plug_8 : decode cd_S_plug 8 = .ok (.iload_n 2, 1) := by decide +kernel
theorem dc_S_plug_9 : decode cd_S_plug 9 = .ok (.invokestatic 38, 3) := by decide +kernel
theorem dc_S_plug_12 : decode cd_S_plug 12 = .ok (.iload 4, 2) := by decide +kernel
theorem dc_S_plug_14 : decode cd_S_plug 14 = .ok (.invokestatic 38, 3) := by decide +kernel
theorem dc_S_plug_17 : decode cd_S_plug 17 = .ok (.iload_n 1, 1) := by decide +kernel
theorem dc_S_plug_18 : decode cd_S_plug 18 = .ok (.iload_n 3, 1) := by decide +kernel
theorem dc_S_plug_19 : decode cd_S_plug 19 = .ok (.if_icmp .ne 13, 3) := by decide +kernel
theorem dc_S_plug_22 : decode cd_S_plug 22 = .ok (.new 41, 3) := by decide +kernel
theorem dc_S_plug_25 : decode cd_S_plug 25 = .ok (.dup, 1) := by decide +kernel
theorem dc_S_plug_26 : decode cd_S_plug 26 = .ok (.ldc 43, 2) := by decide +kernel
theorem dc_S_plug_28 : decode cd_S_plug 28 = .ok (.invokespecial 45, 3) := by decide +kernel
theorem dc_S_plug_31 : decode cd_S_plug 31 = .ok (.athrow, 1) := by decide +kernel
theorem dc_S_plug_32 : decode cd_S_plug 32 = .ok (.aload_n 0, 1) := by decide +kernel
theorem dc_S_plug_33 : decode cd_S_plug 33 = .ok (.getfield 12, 3) := by decide +kernel
theorem dc_S_plug_36 : decode cd_S_plug 36 = .ok (.iload_n 1, 1) := by decide +kernel
theorem dc_S_plug_37 : decode cd_S_plug 37 = .ok (.iload_n 2, 1) := by decide +kernel
theorem dc_S_plug_38 : decode cd_S_plug 38 = .ok (.invokevirtual 48, 3) := by decide +kernel
theorem dc_S_plug_41 : decode cd_S_plug 41 = .ok (.iconst (-1), 1) := by decide +kernel
theorem dc_S_plug_42 : decode cd_S_plug 42 = .ok (.if_icmp .ne 17, 3) := by decide +kernel
theorem dc_S_plug_45 : decode cd_S_plug 45 = .ok (.aload_n 0, 1) := by decide +kernel
theorem dc_S_plug_46 : decode cd_S_plug 46 = .ok (.getfield 12, 3) := by decide +kernel
theorem dc_S_plug_49 : decode cd_S_plug 49 = .ok (.iload_n 3, 1) := by decide +kernel
theorem dc_S_plug_50 : decode cd_S_plug 50 = .ok (.iload 4, 2) := by decide +kernel
theorem dc_S_plug_52 : decode cd_S_plug 52 = .ok (.invokevirtual 48, 3) := by decide +kernel
theorem dc_S_plug_55 : decode cd_S_plug 55 = .ok (.iconst (-1), 1) := by decide +kernel
theorem dc_S_plug_56 : decode cd_S_plug 56 = .ok (.if_icmp .eq 13, 3) := by decide +kernel
theorem dc_S_plug_59 : decode cd_S_plug 59 = .ok (.new 52, 3) := by decide +kernel
theorem dc_S_plug_62 : decode cd_S_plug 62 = .ok (.dup, 1) := by decide +kernel
theorem dc_S_plug_63 : decode cd_S_plug 63 = .ok (.ldc 54, 2) := by decide +kernel
theorem dc_S_plug_65 : decode cd_S_plug 65 = .ok (.invokespecial 56, 3) := by decide +kernel
theorem dc_S_plug_68 : decode cd_S_plug 68 = .ok (.athrow, 1) := by decide +kernel
theorem dc_S_plug_69 : decode cd_S_plug 69 = .ok (.aload_n 0, 1) := by decide +kernel
theorem dc_S_plug_70 : decode cd_S_plug 70 = .ok (.getfield 12, 3) := by decide +kernel
theorem dc_S_plug_73 : decode cd_S_plug 73 = .ok (.iload_n 1, 1) := by decide +kernel
theorem dc_S_plug_74 : decode cd_S_plug 74 = .ok (.iload_n 2, 1) := by decide +kernel
theorem dc_S_plug_75 : decode cd_S_plug 75 = .ok (.iload_n 3, 1) := by decide +kernel
theorem dc_S_plug_76 : decode cd_S_plug 76 = .ok (.iload 4, 2) := by decide +kernel
theorem dc_S_plug_78 : decode cd_S_plug 78 = .ok (.invokevirtual 57, 3) := by decide +kernel
theorem dc_S_plug_81 : decode cd_S_plug 81 = .ok (.aload_n 0, 1) := by decide +kernel
theorem dc_S_plug_82 : decode cd_S_plug 82 = .ok (.getfield 25, 3) := by decide +kernel
theorem dc_S_plug_85 : decode cd_S_plug 85 = .ok (.iload_n 1, 1) := by decide +kernel
theorem dc_S_plug_86 : decode cd_S_plug 86 = .ok (.aaload, 1) := by decide +kernel
theorem dc_S_plug_87 : decode cd_S_plug 87 = .ok (.iconst 1, 1) := by decide +kernel
theorem dc_S_plug_88 : decode cd_S_plug 88 = .ok (.putfield 61, 3) := by decide +kernel
theorem dc_S_plug_91 : decode cd_S_plug 91 = .ok (.aload_n 0, 1) := by decide +kernel
theorem dc_S_plug_92 : decode cd_S_plug 92 = .ok (.getfield 25, 3) := by decide +kernel
theorem dc_S_plug_95 : decode cd_S_plug 95 = .ok (.iload_n 3, 1) := by decide +kernel
theorem dc_S_plug_96 : decode cd_S_plug 96 = .ok (.aaload, 1) := by decide +kernel
theorem dc_S_plug_97 : decode cd_S_plug 97 = .ok (.iconst 1, 1) := by decide +kernel
theorem dc_S_plug_98 : decode cd_S_plug 98 = .ok (.putfield 61, 3) := by decide +kernel
theorem dc_S_plug_101 : decode cd_S_plug 101 = .ok (.aload_n 0, 1) := by decide +kernel
theorem dc_S_plug_102 : decode cd_S_plug 102 = .ok (.getfield 12, 3) := by decide +kernel
theorem dc_S_plug_105 : decode cd_S_plug 105 = .ok (.getfield 65, 3) := by decide +kernel
theorem dc_S_plug_108 : decode cd_S_plug 108 = .ok (.ireturn, 1) := by decide +kernel
theorem dc_S_unplug_0 : decode cd_S_unplug 0 = .ok (.iload_n 1, 1) := by decide +kernel
theorem dc_S_unplug_1 : decode cd_S_unplug 1 = .ok (.invokestatic 34, 3) := by decide +kernel
theorem dc_S_unplug_4 : decode cd_S_unplug 4 = .ok (.iload_n 2, 1) := by decide +kernel
theorem dc_S_unplug_5 : decode cd_S_unplug 5 = .ok (.invokestatic 38, 3) := by decide +kernel
theorem dc_S_unplug_8 : decode cd_S_unplug 8 = .ok (.aload_n 0, 1) := by decide +kernel
theorem dc_S_unplug_9 : decode cd_S_unplug 9 = .ok (.getfield 12, 3) := by decide +kernel
theorem dc_S_unplug_12 : decode cd_S_unplug 12 = .ok (.iload_n 1, 1) := by decide +kernel
theorem dc_S_unplug_13 : decode cd_S_unplug 13 = .ok (.iload_n 2, 1) := by decide +kernel
theorem dc_S_unplug_14 : decode cd_S_unplug 14 = .ok (.invokevirtual 48, 3) := by decide +kernel
theorem dc_S_unplug_17 : decode cd_S_unplug 17 = .ok (.istore_n 3, 1) := by decide +kernel
theorem dc_S_unplug_18 : decode cd_S_unplug 18 = .ok (.iload_n 3, 1) := by decide +kernel
theorem dc_S_unplug_19 : decode cd_S_unplug 19 = .ok (.iconst (-1), 1) := by decide +kernel
theorem dc_S_unplug_20 : decode cd_S_unplug 20 = .ok (.if_icmp .ne 13, 3) := by decide +kernel
theorem dc_S_unplug_23 : decode cd_S_unplug 23 = .ok (.new 52, 3) := by decide +kernel
theorem dc_S_unplug_26 : decode cd_S_unplug 26 = .ok (.dup, 1) := by decide +kernel
theorem dc_S_unplug_27 : decode cd_S_unplug 27 = .ok (.ldc 68, 2) := by decide +kernel
theorem dc_S_unplug_29 : decode cd_S_unplug 29 = .ok (.invokespecial 56, 3) := by decide +kernel
theorem dc_S_unplug_32 : decode cd_S_unplug 32 = .ok (.athrow, 1) := by decide +kernel
theorem dc_S_unplug_33 : decode cd_S_unplug 33 = .ok (.aload_n 0, 1) := by decide +kernel
theorem dc_S_unplug_34 : decode cd_S_unplug 34 = .ok (.getfield 12, 3) := by decide +kernel
theorem dc_S_unplug_37 : decode cd_S_unplug 37 = .ok (.iload_n 1, 1) := by decide +kernel
theorem dc_S_unplug_38 : decode cd_S_unplug 38 = .ok (.iload_n 2, 1) := by decide +kernel
theorem dc_S_unplug_39 : decode cd_S_unplug 39 = .ok (.invokevirtual 70, 3) := by decide +kernel
theorem dc_S_unplug_42 : decode cd_S_unplug 42 = .ok (.aload_n 0, 1) := by decide +kernel
theorem dc_S_unplug_43 : decode cd_S_unplug 43 = .ok (.getfield 25, 3) := by decide +kernel
theorem dc_S_unplug_46 : decode cd_S_unplug 46 = .ok (.iload_n 1, 1) := by decide +kernel
theorem dc_S_unplug_47 : decode cd_S_unplug 47 = .ok (.aaload, 1) := by decide +kernel
theorem dc_S_unplug_48 : decode cd_S_unplug 48 = .ok (.iconst 1, 1) := by decide +kernel
theorem dc_S_unplug_49 : decode cd_S_unplug 49 = .ok (.putfield 61, 3) := by decide +kernel
theorem dc_S_unplug_52 : decode cd_S_unplug 52 = .ok (.aload_n 0, 1) := by decide +kernel
theorem dc_S_unplug_53 : decode cd_S_unplug 53 = .ok (.getfield 25, 3) := by decide +kernel
theorem dc_S_unplug_56 : decode cd_S_unplug 56 = .ok (.iload_n 3, 1) := by decide +kernel
theorem dc_S_unplug_57 : decode cd_S_unplug 57 = .ok (.aaload, 1) := by decide +kernel
theorem dc_S_unplug_58 : decode cd_S_unplug 58 = .ok (.iconst 1, 1) := by decide +kernel
theorem dc_S_unplug_59 : decode cd_S_unplug 59 = .ok (.putfield 61, 3) := by decide +kernel
theorem dc_S_unplug_62 : decode cd_S_unplug 62 = .ok (.iload_n 3, 1) := by decide +kernel
theorem dc_S_unplug_63 : decode cd_S_unplug 63 = .ok (.ireturn, 1) := by decide +kernel
theorem dc_S_reset_0 : decode cd_S_reset 0 = .ok (.iload_n 1, 1) := by decide +kernel
theorem dc_S_reset_1 : decode cd_S_reset 1 = .ok (.invokestatic 34, 3) := by decide +kernel
theorem dc_S_reset_4 : decode cd_S_reset 4 = .ok (.aload_n 0, 1) := by decide +kernel
theorem dc_S_reset_5 : decode cd_S_reset 5 = .ok (.getfield 25, 3) := by decide +kernel
theorem dc_S_reset_8 : decode cd_S_reset 8 = .ok (.iload_n 1, 1) := by decide +kernel
theorem dc_S_reset_9 : decode cd_S_reset 9 = .ok (.aaload, 1) := by decide +kernel
theorem dc_S_reset_10 : decode cd_S_reset 10 = .ok (.astore 5, 2) := by decide +kernel
theorem dc_S_reset_12 : decode cd_S_reset 12 = .ok (.aload 5, 2) := by decide +kernel
theorem dc_S_reset_14 : decode cd_S_reset 14 = .ok (.iload_n 2, 1) := by decide +kernel
theorem dc_S_reset_15 : decode cd_S_reset 15 = .ok (.ldc 74, 2) := by decide +kernel
theorem dc_S_reset_17 : decode cd_S_reset 17 = .ok (.iand, 1) := by decide +kernel
theorem dc_S_reset_18 : decode cd_S_reset 18 = .ok (.putfield 75, 3) := by decide +kernel
theorem dc_S_reset_21 : decode cd_S_reset 21 = .ok (.aload 5, 2) := by decide +kernel
theorem dc_S_reset_23 : decode cd_S_reset 23 = .ok (.iconst 0, 1) := by decide +kernel
theorem dc_S_reset_24 : decode cd_S_reset 24 = .ok (.putfield 78, 3) := by decide +kernel
theorem dc_S_reset_27 : decode cd_S_reset 27 = .ok (.aload 5, 2) := by decide +kernel
theorem dc_S_reset_29 : decode cd_S_reset 29 = .ok (.iload_n 3, 1) := by decide +kernel
theorem dc_S_reset_30 : decode cd_S_reset 30 = .ok (.putfield 81, 3) := by decide +kernel
theorem dc_S_reset_33 : decode cd_S_reset 33 = .ok (.aload 5, 2) := by decide +kernel
theorem dc_S_reset_35 : decode cd_S_reset 35 = .ok (.iload 4, 2) := by decide +kernel
theorem dc_S_reset_37 : decode cd_S_reset 37 = .ok (.putfield 84, 3) := by decide +kernel
theorem dc_S_reset_40 : decode cd_S_reset 40 = .ok (.aload 5, 2) := by decide +kernel
theorem dc_S_reset_42 : decode cd_S_reset 42 = .ok (.iconst 1, 1) := by decide +kernel
theorem dc_S_reset_43 : decode cd_S_reset 43 = .ok (.putfield 61, 3) := by decide +kernel
theorem dc_S_reset_46 : decode cd_S_reset 46 = .ok (.return_, 1) := by decide +kernel
theorem dc_S_ask_0 : decode cd_S_ask 0 = .ok (.iload_n 1, 1) := by decide +kernel
theorem dc_S_ask_1 : decode cd_S_ask 1 = .ok (.invokestatic 34, 3) := by decide +kernel
theorem dc_S_ask_4 : decode cd_S_ask 4 = .ok (.iload_n 2, 1) := by decide +kernel
theorem dc_S_ask_5 : decode cd_S_ask 5 = .ok (.invokestatic 34, 3) := by decide +kernel
theorem dc_S_ask_8 : decode cd_S_ask 8 = .ok (.iload 4, 2) := by decide +kernel
theorem dc_S_ask_10 : decode cd_S_ask 10 = .ok (.invokestatic 87, 3) := by decide +kernel
theorem dc_S_ask_13 : decode cd_S_ask 13 = .ok (.iload_n 3, 1) := by decide +kernel
theorem dc_S_ask_14 : decode cd_S_ask 14 = .ok (.ifCond .eq 23, 3) := by decide +kernel
theorem dc_S_ask_17 : decode cd_S_ask 17 = .ok (.iload_n 3, 1) := by decide +kernel
theorem dc_S_ask_18 : decode cd_S_ask 18 = .ok (.iconst 1, 1) := by decide +kernel
theorem dc_S_ask_19 : decode cd_S_ask 19 = .ok (.if_icmp .eq 18, 3) := by decide +kernel
theorem dc_S_ask_22 : decode cd_S_ask 22 = .ok (.iload_n 3, 1) := by decide +kernel
theorem dc_S_ask_23 : decode cd_S_ask 23 = .ok (.iconst 2, 1) := by decide +kernel
theorem dc_S_ask_24 : decode cd_S_ask 24 = .ok (.if_icmp .eq 13, 3) := by decide +kernel
theorem dc_S_ask_27 : decode cd_S_ask 27 = .ok (.new 41, 3) := by decide +kernel
theorem dc_S_ask_30 : decode cd_S_ask 30 = .ok (.dup, 1) := by decide +kernel
theorem dc_S_ask_31 : decode cd_S_ask 31 = .ok (.ldc 90, 2) := by decide +kernel
theorem dc_S_ask_33 : decode cd_S_ask 33 = .ok (.invokespecial 45, 3) := by decide +kernel
theorem dc_S_ask_36 : decode cd_S_ask 36 = .ok (.athrow, 1) := by decide +kernel
theorem dc_S_ask_37 : decode cd_S_ask 37 = .ok (.aload_n 0, 1) := by decide +kernel
theorem dc_S_ask_38 : decode cd_S_ask 38 = .ok (.getfield 25, 3) := by decide +kernel
theorem dc_S_ask_41 : decode cd_S_ask 41 = .ok (.iload_n 1, 1) := by decide +kernel
theorem dc_S_ask_42 : decode cd_S_ask 42 = .ok (.aaload, 1) := by decide +kernel
theorem dc_S_ask_43 : decode cd_S_ask 43 = .ok (.astore 7, 2) := by decide +kernel
theorem dc_S_ask_45 : decode cd_S_ask 45 = .ok (.aload 7, 2) := by decide +kernel
theorem dc_S_ask_47 : decode cd_S_ask 47 = .ok (.invokevirtual 92, 3) := by decide +kernel
theorem dc_S_ask_50 : decode cd_S_ask 50 = .ok (.istore 8, 2) := by decide +kernel
theorem dc_S_ask_52 : decode cd_S_ask 52 = .ok (.iload 8, 2) := by decide +kernel
theorem dc_S_ask_54 : decode cd_S_ask 54 = .ok (.iconst (-1), 1) := by decide +kernel
theorem dc_S_ask_55 : decode cd_S_ask 55 = .ok (.if_icmp .ne 13, 3) := by decide +kernel
theorem dc_S_ask_58 : decode cd_S_ask 58 = .ok (.new 52, 3) := by decide +kernel
theorem dc_S_ask_61 : decode cd_S_ask 61 = .ok (.dup, 1) := by decide +kernel
theorem dc_S_ask_62 : decode cd_S_ask 62 = .ok (.ldc 96, 2) := by decide +kernel
theorem dc_S_ask_64 : decode cd_S_ask 64 = .ok (.invokespecial 56, 3) := by decide +kernel
theorem dc_S_ask_67 : decode cd_S_ask 67 = .ok (.athrow, 1) := by decide +kernel
theorem dc_S_ask_68 : decode cd_S_ask 68 = .ok (.aload 7, 2) := by decide +kernel
theorem dc_S_ask_70 : decode cd_S_ask 70 = .ok (.getfield 98, 3) := by decide +kernel
theorem dc_S_ask_73 : decode cd_S_ask 73 = .ok (.invokevirtual 102, 3) := by decide +kernel
theorem dc_S_ask_76 : decode cd_S_ask 76 = .ok (.ifCond .eq 13, 3) := by decide +kernel
theorem dc_S_ask_79 : decode cd_S_ask 79 = .ok (.new 108, 3) := by decide +kernel
theorem dc_S_ask_82 : decode cd_S_ask 82 = .ok (.dup, 1) := by decide +kernel
theorem dc_S_ask_83 : decode cd_S_ask 83 = .ok (.ldc 110, 2) := by decide +kernel
theorem dc_S_ask_85 : decode cd_S_ask 85 = .ok (.invokespecial 112, 3) := by decide +kernel
theorem dc_S_ask_88 : decode cd_S_ask 88 = .ok (.athrow, 1) := by decide +kernel
theorem dc_S_ask_89 : decode cd_S_ask 89 = .ok (.new 113, 3) := by decide +kernel
theorem dc_S_ask_92 : decode cd_S_ask 92 = .ok (.dup, 1) := by decide +kernel
theorem dc_S_ask_93 : decode cd_S_ask 93 = .ok (.iload_n 2, 1) := by decide +kernel
theorem dc_S_ask_94 : decode cd_S_ask 94 = .ok (.iload_n 3, 1) := by decide +kernel
theorem dc_S_ask_95 : decode cd_S_ask 95 = .ok (.iload 4, 2) := by decide +kernel
theorem dc_S_ask_97 : decode cd_S_ask 97 = .ok (.iload 5, 2) := by decide +kernel
theorem dc_S_ask_99 : decode cd_S_ask 99 = .ok (.iload 6, 2) := by decide +kernel
theorem dc_S_ask_101 : decode cd_S_ask 101 = .ok (.aload_n 0, 1) := by decide +kernel
theorem dc_S_ask_102 : decode cd_S_ask 102 = .ok (.getfield 115, 3) := by decide +kernel
theorem dc_S_ask_105 : decode cd_S_ask 105 = .ok (.aload_n 0, 1) := by decide +kernel
theorem dc_S_ask_106 : decode cd_S_ask 106 = .ok (.getfield 30, 3) := by decide +kernel
theorem dc_S_ask_109 : decode cd_S_ask 109 = .ok (.iadd, 1) := by decide +kernel
theorem dc_S_ask_110 : decode cd_S_ask 110 = .ok (.invokespecial 118, 3) := by decide +kernel
theorem dc_S_ask_113 : decode cd_S_ask 113 = .ok (.astore 9, 2) := by decide +kernel
theorem dc_S_ask_115 : decode cd_S_ask 115 = .ok (.aload 7, 2) := by decide +kernel
theorem dc_S_ask_117 : decode cd_S_ask 117 = .ok (.getfield 121, 3) := by decide +kernel
theorem dc_S_ask_120 : decode cd_S_ask 120 = .ok (.iload 8, 2) := by decide +kernel
theorem dc_S_ask_122 : decode cd_S_ask 122 = .ok (.aload 9, 2) := by decide +kernel
theorem dc_S_ask_124 : decode cd_S_ask 124 = .ok (.aastore, 1) := by decide +kernel
theorem dc_S_ask_125 : decode cd_S_ask 125 = .ok (.aload 7, 2) := by decide +kernel
theorem dc_S_ask_127 : decode cd_S_ask 127 = .ok (.getfield 98, 3) := by decide +kernel
theorem dc_S_ask_130 : decode cd_S_ask 130 = .ok (.aload 9, 2) := by decide +kernel
theorem dc_S_ask_132 : decode cd_S_ask 132 = .ok (.invokevirtual 125, 3) := by decide +kernel
theorem dc_S_ask_135 : decode cd_S_ask 135 = .ok (.iload 8, 2) := by decide +kernel
theorem dc_S_ask_137 : decode cd_S_ask 137 = .ok (.ireturn, 1) := by decide +kernel
theorem dc_S_talk_0 : decode cd_S_talk 0 = .ok (.iload_n 1, 1) := by decide +kernel
theorem dc_S_talk_1 : decode cd_S_talk 1 = .ok (.invokestatic 34, 3) := by decide +kernel
theorem dc_S_talk_4 : decode cd_S_talk 4 = .ok (.iload_n 2, 1) := by decide +kernel
theorem dc_S_talk_5 : decode cd_S_talk 5 = .ok (.ifCond .lt 9, 3) := by decide +kernel
theorem dc_S_talk_8 : decode cd_S_talk 8 = .ok (.iload_n 2, 1) := by decide +kernel
theorem dc_S_talk_9 : decode cd_S_talk 9 = .ok (.bipush 32, 2) := by decide +kernel
theorem dc_S_talk_11 : decode cd_S_talk 11 = .ok (.if_icmp .lt 13, 3) := by decide +kernel
theorem dc_S_talk_14 : decode cd_S_talk 14 = .ok (.new 41, 3) := by decide +kernel
theorem dc_S_talk_17 : decode cd_S_talk 17 = .ok (.dup, 1) := by decide +kernel
theorem dc_S_talk_18 : decode cd_S_talk 18 = .ok (.ldc 129, 2) := by decide +kernel
theorem dc_S_talk_20 : decode cd_S_talk 20 = .ok (.invokespecial 45, 3) := by decide +kernel
theorem dc_S_talk_23 : decode cd_S_talk 23 = .ok (.athrow, 1) := by decide +kernel
theorem dc_S_talk_24 : decode cd_S_talk 24 = .ok (.iload_n 3, 1) := by decide +kernel
theorem dc_S_talk_25 : decode cd_S_talk 25 = .ok (.ifCond .lt 9, 3) := by decide +kernel
theorem dc_S_talk_28 : decode cd_S_talk 28 = .ok (.iload_n 3, 1) := by decide +kernel
theorem dc_S_talk_29 : decode cd_S_talk 29 = .ok (.bipush 100, 2) := by decide +kernel
theorem dc_S_talk_31 : decode cd_S_talk 31 = .ok (.if_icmp .le 13, 3) := by decide +kernel
theorem dc_S_talk_34 : decode cd_S_talk 34 = .ok (.new 41, 3) := by decide +kernel
theorem dc_S_talk_37 : decode cd_S_talk 37 = .ok (.dup, 1) := by decide +kernel
theorem dc_S_talk_38 : decode cd_S_talk 38 = .ok (.ldc 131, 2) := by decide +kernel
theorem dc_S_talk_40 : decode cd_S_talk 40 = .ok (.invokespecial 45, 3) := by decide +kernel
theorem dc_S_talk_43 : decode cd_S_talk 43 = .ok (.athrow, 1) := by decide +kernel
theorem dc_S_talk_44 : decode cd_S_talk 44 = .ok (.aload_n 0, 1) := by decide +kernel
theorem dc_S_talk_45 : decode cd_S_talk 45 = .ok (.getfield 25, 3) := by decide +kernel
theorem dc_S_talk_48 : decode cd_S_talk 48 = .ok (.iload_n 1, 1) := by decide +kernel
theorem dc_S_talk_49 : decode cd_S_talk 49 = .ok (.aaload, 1) := by decide +kernel
theorem dc_S_talk_50 : decode cd_S_talk 50 = .ok (.iload_n 2, 1) := by decide +kernel
theorem dc_S_talk_51 : decode cd_S_talk 51 = .ok (.putfield 133, 3) := by decide +kernel
theorem dc_S_talk_54 : decode cd_S_talk 54 = .ok (.aload_n 0, 1) := by decide +kernel
theorem dc_S_talk_55 : decode cd_S_talk 55 = .ok (.getfield 25, 3) := by decide +kernel
theorem dc_S_talk_58 : decode cd_S_talk 58 = .ok (.iload_n 1, 1) := by decide +kernel
theorem dc_S_talk_59 : decode cd_S_talk 59 = .ok (.aaload, 1) := by decide +kernel
theorem dc_S_talk_60 : decode cd_S_talk 60 = .ok (.iload_n 3, 1) := by decide +kernel
theorem dc_S_talk_61 : decode cd_S_talk 61 = .ok (.putfield 136, 3) := by decide +kernel
theorem dc_S_talk_64 : decode cd_S_talk 64 = .ok (.return_, 1) := by decide +kernel
theorem dc_S_time_0 : decode cd_S_time 0 = .ok (.iload_n 1, 1) := by decide +kernel
theorem dc_S_time_1 : decode cd_S_time 1 = .ok (.iconst 2, 1) := by decide +kernel
theorem dc_S_time_2 : decode cd_S_time 2 = .ok (.if_icmp .lt 9, 3) := by decide +kernel
theorem dc_S_time_5 : decode cd_S_time 5 = .ok (.iload_n 1, 1) := by decide +kernel
theorem dc_S_time_6 : decode cd_S_time 6 = .ok (.bipush 60, 2) := by decide +kernel
theorem dc_S_time_8 : decode cd_S_time 8 = .ok (.if_icmp .le 13, 3) := by decide +kernel
theorem dc_S_time_11 : decode cd_S_time 11 = .ok (.new 41, 3) := by decide +kernel
theorem dc_S_time_14 : decode cd_S_time 14 = .ok (.dup, 1) := by decide +kernel
theorem dc_S_time_15 : decode cd_S_time 15 = .ok (.ldc 139, 2) := by decide +kernel
theorem dc_S_time_17 : decode cd_S_time 17 = .ok (.invokespecial 45, 3) := by decide +kernel
theorem dc_S_time_20 : decode cd_S_time 20 = .ok (.athrow, 1) := by decide +kernel
theorem dc_S_time_21 : decode cd_S_time 21 = .ok (.aload_n 0, 1) := by decide +kernel
theorem dc_S_time_22 : decode cd_S_time 22 = .ok (.iload_n 1, 1) := by decide +kernel
theorem dc_S_time_23 : decode cd_S_time 23 = .ok (.putfield 30, 3) := by decide +kernel
theorem dc_S_time_26 : decode cd_S_time 26 = .ok (.return_, 1) := by decide +kernel
theorem dc_S_tick_0 : decode cd_S_tick 0 = .ok (.iload_n 1, 1) := by decide +kernel
theorem dc_S_tick_1 : decode cd_S_tick 1 = .ok (.iconst 1, 1) := by decide +kernel
theorem dc_S_tick_2 : decode cd_S_tick 2 = .ok (.if_icmp .lt 9, 3) := by decide +kernel
theorem dc_S_tick_5 : decode cd_S_tick 5 = .ok (.iload_n 1, 1) := by decide +kernel
theorem dc_S_tick_6 : decode cd_S_tick 6 = .ok (.bipush 50, 2) := by decide +kernel
theorem dc_S_tick_8 : decode cd_S_tick 8 = .ok (.if_icmp .le 13, 3) := by decide +kernel
theorem dc_S_tick_11 : decode cd_S_tick 11 = .ok (.new 41, 3) := by decide +kernel
theorem dc_S_tick_14 : decode cd_S_tick 14 = .ok (.dup, 1) := by decide +kernel
theorem dc_S_tick_15 : decode cd_S_tick 15 = .ok (.ldc 141, 2) := by decide +kernel
theorem dc_S_tick_17 : decode cd_S_tick 17 = .ok (.invokespecial 45, 3) := by decide +kernel
theorem dc_S_tick_20 : decode cd_S_tick 20 = .ok (.athrow, 1) := by decide +kernel
theorem dc_S_tick_21 : decode cd_S_tick 21 = .ok (.iconst 0, 1) := by decide +kernel
theorem dc_S_tick_22 : decode cd_S_tick 22 = .ok (.istore_n 2, 1) := by decide +kernel
theorem dc_S_tick_23 : decode cd_S_tick 23 = .ok (.iload_n 2, 1) := by decide +kernel
theorem dc_S_tick_24 : decode cd_S_tick 24 = .ok (.iload_n 1, 1) := by decide +kernel
theorem dc_S_tick_25 : decode cd_S_tick 25 = .ok (.if_icmp .ge 53, 3) := by decide +kernel
theorem dc_S_tick_28 : decode cd_S_tick 28 = .ok (.iconst 0, 1) := by decide +kernel
theorem dc_S_tick_29 : decode cd_S_tick 29 = .ok (.istore_n 3, 1) := by decide +kernel
theorem dc_S_tick_30 : decode cd_S_tick 30 = .ok (.iload_n 3, 1) := by decide +kernel
theorem dc_S_tick_31 : decode cd_S_tick 31 = .ok (.bipush 12, 2) := by decide +kernel
theorem dc_S_tick_33 : decode cd_S_tick 33 = .ok (.if_icmp .ge 25, 3) := by decide +kernel
theorem dc_S_tick_36 : decode cd_S_tick 36 = .ok (.aload_n 0, 1) := by decide +kernel
theorem dc_S_tick_37 : decode cd_S_tick 37 = .ok (.getfield 12, 3) := by decide +kernel
theorem dc_S_tick_40 : decode cd_S_tick 40 = .ok (.iload_n 3, 1) := by decide +kernel
theorem dc_S_tick_41 : decode cd_S_tick 41 = .ok (.invokevirtual 143, 3) := by decide +kernel
theorem dc_S_tick_44 : decode cd_S_tick 44 = .ok (.ifCond .eq 8, 3) := by decide +kernel
theorem dc_S_tick_47 : decode cd_S_tick 47 = .ok (.aload_n 0, 1) := by decide +kernel
theorem dc_S_tick_48 : decode cd_S_tick 48 = .ok (.iload_n 3, 1) := by decide +kernel
theorem dc_S_tick_49 : decode cd_S_tick 49 = .ok (.invokevirtual 147, 3) := by decide +kernel
theorem dc_S_tick_52 : decode cd_S_tick 52 = .ok (.iinc 3 1, 3) := by decide +kernel
theorem dc_S_tick_55 : decode cd_S_tick 55 = .ok (.goto (-25), 3) := by decide +kernel
theorem dc_S_tick_58 : decode cd_S_tick 58 = .ok (.aload_n 0, 1) := by decide +kernel
theorem dc_S_tick_59 : decode cd_S_tick 59 = .ok (.dup, 1) := by decide +kernel
theorem dc_S_tick_60 : decode cd_S_tick 60 = .ok (.getfield 115, 3) := by decide +kernel
theorem dc_S_tick_63 : decode cd_S_tick 63 = .ok (.iconst 1, 1) := by decide +kernel
theorem dc_S_tick_64 : decode cd_S_tick 64 = .ok (.iadd, 1) := by decide +kernel
theorem dc_S_tick_65 : decode cd_S_tick 65 = .ok (.putfield 115, 3) := by decide +kernel
theorem dc_S_tick_68 : decode cd_S_tick 68 = .ok (.aload_n 0, 1) := by decide +kernel
theorem dc_S_tick_69 : decode cd_S_tick 69 = .ok (.invokevirtual 150, 3) := by decide +kernel
theorem dc_S_tick_72 : decode cd_S_tick 72 = .ok (.iinc 2 1, 3) := by decide +kernel
theorem dc_S_tick_75 : decode cd_S_tick 75 = .ok (.goto (-52), 3) := by decide +kernel
theorem dc_S_tick_78 : decode cd_S_tick 78 = .ok (.aload_n 0, 1) := by decide +kernel
theorem dc_S_tick_79 : decode cd_S_tick 79 = .ok (.getfield 115, 3) := by decide +kernel
theorem dc_S_tick_82 : decode cd_S_tick 82 = .ok (.ireturn, 1) := by decide +kernel
theorem dc_S_ended_0 : decode cd_S_ended 0 = .ok (.iload_n 1, 1) := by decide +kernel
theorem dc_S_ended_1 : decode cd_S_ended 1 = .ok (.invokestatic 34, 3) := by decide +kernel
theorem dc_S_ended_4 : decode cd_S_ended 4 = .ok (.iload_n 2, 1) := by decide +kernel
theorem dc_S_ended_5 : decode cd_S_ended 5 = .ok (.invokestatic 153, 3) := by decide +kernel
theorem dc_S_ended_8 : decode cd_S_ended 8 = .ok (.aload_n 0, 1) := by decide +kernel
theorem dc_S_ended_9 : decode cd_S_ended 9 = .ok (.getfield 25, 3) := by decide +kernel
theorem dc_S_ended_12 : decode cd_S_ended 12 = .ok (.iload_n 1, 1) := by decide +kernel
theorem dc_S_ended_13 : decode cd_S_ended 13 = .ok (.aaload, 1) := by decide +kernel
theorem dc_S_ended_14 : decode cd_S_ended 14 = .ok (.getfield 121, 3) := by decide +kernel
theorem dc_S_ended_17 : decode cd_S_ended 17 = .ok (.iload_n 2, 1) := by decide +kernel
theorem dc_S_ended_18 : decode cd_S_ended 18 = .ok (.aaload, 1) := by decide +kernel
theorem dc_S_ended_19 : decode cd_S_ended 19 = .ok (.astore_n 3, 1) := by decide +kernel
theorem dc_S_ended_20 : decode cd_S_ended 20 = .ok (.aload_n 3, 1) := by decide +kernel
theorem dc_S_ended_21 : decode cd_S_ended 21 = .ok (.ifnonnull 13, 3) := by decide +kernel
theorem dc_S_ended_24 : decode cd_S_ended 24 = .ok (.new 52, 3) := by decide +kernel
theorem dc_S_ended_27 : decode cd_S_ended 27 = .ok (.dup, 1) := by decide +kernel
theorem dc_S_ended_28 : decode cd_S_ended 28 = .ok (.ldc 156, 2) := by decide +kernel
theorem dc_S_ended_30 : decode cd_S_ended 30 = .ok (.invokespecial 56, 3) := by decide +kernel
theorem dc_S_ended_33 : decode cd_S_ended 33 = .ok (.athrow, 1) := by decide +kernel
theorem dc_S_ended_34 : decode cd_S_ended 34 = .ok (.aload_n 3, 1) := by decide +kernel
theorem dc_S_ended_35 : decode cd_S_ended 35 = .ok (.getfield 158, 3) := by decide +kernel
theorem dc_S_ended_38 : decode cd_S_ended 38 = .ok (.ireturn, 1) := by decide +kernel
theorem dc_S_value_0 : decode cd_S_value 0 = .ok (.iload_n 1, 1) := by decide +kernel
theorem dc_S_value_1 : decode cd_S_value 1 = .ok (.invokestatic 34, 3) := by decide +kernel
theorem dc_S_value_4 : decode cd_S_value 4 = .ok (.iload_n 2, 1) := by decide +kernel
theorem dc_S_value_5 : decode cd_S_value 5 = .ok (.invokestatic 153, 3) := by decide +kernel
theorem dc_S_value_8 : decode cd_S_value 8 = .ok (.aload_n 0, 1) := by decide +kernel
theorem dc_S_value_9 : decode cd_S_value 9 = .ok (.getfield 25, 3) := by decide +kernel
theorem dc_S_value_12 : decode cd_S_value 12 = .ok (.iload_n 1, 1) := by decide +kernel
theorem dc_S_value_13 : decode cd_S_value 13 = .ok (.aaload, 1) := by decide +kernel
theorem dc_S_value_14 : decode cd_S_value 14 = .ok (.getfield 121, 3) := by decide +kernel
theorem dc_S_value_17 : decode cd_S_value 17 = .ok (.iload_n 2, 1) := by decide +kernel
theorem dc_S_value_18 : decode cd_S_value 18 = .ok (.aaload, 1) := by decide +kernel
theorem dc_S_value_19 : decode cd_S_value 19 = .ok (.astore_n 3, 1) := by decide +kernel
theorem dc_S_value_20 : decode cd_S_value 20 = .ok (.aload_n 3, 1) := by decide +kernel
theorem dc_S_value_21 : decode cd_S_value 21 = .ok (.ifnull 11, 3) := by decide +kernel
theorem dc_S_value_24 : decode cd_S_value 24 = .ok (.aload_n 3, 1) := by decide +kernel
theorem dc_S_value_25 : decode cd_S_value 25 = .ok (.getfield 158, 3) := by decide +kernel
theorem dc_S_value_28 : decode cd_S_value 28 = .ok (.iconst (-1), 1) := by decide +kernel
theorem dc_S_value_29 : decode cd_S_value 29 = .ok (.if_icmp .ne 13, 3) := by decide +kernel
theorem dc_S_value_32 : decode cd_S_value 32 = .ok (.new 52, 3) := by decide +kernel
theorem dc_S_value_35 : decode cd_S_value 35 = .ok (.dup, 1) := by decide +kernel
theorem dc_S_value_36 : decode cd_S_value 36 = .ok (.ldc 161, 2) := by decide +kernel
theorem dc_S_value_38 : decode cd_S_value 38 = .ok (.invokespecial 56, 3) := by decide +kernel
theorem dc_S_value_41 : decode cd_S_value 41 = .ok (.athrow, 1) := by decide +kernel
theorem dc_S_value_42 : decode cd_S_value 42 = .ok (.aload_n 0, 1) := by decide +kernel
theorem dc_S_value_43 : decode cd_S_value 43 = .ok (.getfield 25, 3) := by decide +kernel
theorem dc_S_value_46 : decode cd_S_value 46 = .ok (.iload_n 1, 1) := by decide +kernel
theorem dc_S_value_47 : decode cd_S_value 47 = .ok (.aaload, 1) := by decide +kernel
theorem dc_S_value_48 : decode cd_S_value 48 = .ok (.getfield 121, 3) := by decide +kernel
theorem dc_S_value_51 : decode cd_S_value 51 = .ok (.iload_n 2, 1) := by decide +kernel
theorem dc_S_value_52 : decode cd_S_value 52 = .ok (.aconst_null, 1) := by decide +kernel
theorem dc_S_value_53 : decode cd_S_value 53 = .ok (.aastore, 1) := by decide +kernel
theorem dc_S_value_54 : decode cd_S_value 54 = .ok (.aload_n 3, 1) := by decide +kernel
theorem dc_S_value_55 : decode cd_S_value 55 = .ok (.getfield 158, 3) := by decide +kernel
theorem dc_S_value_58 : decode cd_S_value 58 = .ok (.ifCond .eq 13, 3) := by decide +kernel
theorem dc_S_value_61 : decode cd_S_value 61 = .ok (.new 108, 3) := by decide +kernel
theorem dc_S_value_64 : decode cd_S_value 64 = .ok (.dup, 1) := by decide +kernel
theorem dc_S_value_65 : decode cd_S_value 65 = .ok (.ldc 163, 2) := by decide +kernel
theorem dc_S_value_67 : decode cd_S_value 67 = .ok (.invokespecial 112, 3) := by decide +kernel
theorem dc_S_value_70 : decode cd_S_value 70 = .ok (.athrow, 1) := by decide +kernel
theorem dc_S_value_71 : decode cd_S_value 71 = .ok (.aload_n 3, 1) := by decide +kernel
theorem dc_S_value_72 : decode cd_S_value 72 = .ok (.getfield 165, 3) := by decide +kernel
theorem dc_S_value_75 : decode cd_S_value 75 = .ok (.ireturn, 1) := by decide +kernel
theorem dc_S_about_0 : decode cd_S_about 0 = .ok (.iload_n 1, 1) := by decide +kernel
theorem dc_S_about_1 : decode cd_S_about 1 = .ok (.invokestatic 34, 3) := by decide +kernel
theorem dc_S_about_4 : decode cd_S_about 4 = .ok (.aload_n 0, 1) := by decide +kernel
theorem dc_S_about_5 : decode cd_S_about 5 = .ok (.getfield 25, 3) := by decide +kernel
theorem dc_S_about_8 : decode cd_S_about 8 = .ok (.iload_n 1, 1) := by decide +kernel
theorem dc_S_about_9 : decode cd_S_about 9 = .ok (.aaload, 1) := by decide +kernel
theorem dc_S_about_10 : decode cd_S_about 10 = .ok (.astore_n 3, 1) := by decide +kernel
theorem dc_S_about_11 : decode cd_S_about 11 = .ok (.iload_n 2, 1) := by decide +kernel
theorem dc_S_about_12 : decode cd_S_about 12 = .ok (.tableswitch 127 0 8 #[52, 76, 81, 86, 91, 99, 104, 109, 114], 52) := by decide +kernel
theorem dc_S_about_64 : decode cd_S_about 64 = .ok (.aload_n 0, 1) := by decide +kernel
theorem dc_S_about_65 : decode cd_S_about 65 = .ok (.aload_n 0, 1) := by decide +kernel
theorem dc_S_about_66 : decode cd_S_about 66 = .ok (.getfield 12, 3) := by decide +kernel
theorem dc_S_about_69 : decode cd_S_about 69 = .ok (.iload_n 1, 1) := by decide +kernel
theorem dc_S_about_70 : decode cd_S_about 70 = .ok (.invokevirtual 168, 3) := by decide +kernel
theorem dc_S_about_73 : decode cd_S_about 73 = .ok (.invokevirtual 172, 3) := by decide +kernel
theorem dc_S_about_76 : decode cd_S_about 76 = .ok (.ifCond .eq 7, 3) := by decide +kernel
theorem dc_S_about_79 : decode cd_S_about 79 = .ok (.iconst (-1), 1) := by decide +kernel
theorem dc_S_about_80 : decode cd_S_about 80 = .ok (.goto 7, 3) := by decide +kernel
theorem dc_S_about_83 : decode cd_S_about 83 = .ok (.aload_n 3, 1) := by decide +kernel
theorem dc_S_about_84 : decode cd_S_about 84 = .ok (.getfield 175, 3) := by decide +kernel
theorem dc_S_about_87 : decode cd_S_about 87 = .ok (.ireturn, 1) := by decide +kernel
theorem dc_S_about_88 : decode cd_S_about 88 = .ok (.aload_n 3, 1) := by decide +kernel
theorem dc_S_about_89 : decode cd_S_about 89 = .ok (.getfield 178, 3) := by decide +kernel
theorem dc_S_about_92 : decode cd_S_about 92 = .ok (.ireturn, 1) := by decide +kernel
theorem dc_S_about_93 : decode cd_S_about 93 = .ok (.aload_n 3, 1) := by decide +kernel
theorem dc_S_about_94 : decode cd_S_about 94 = .ok (.getfield 181, 3) := by decide +kernel
theorem dc_S_about_97 : decode cd_S_about 97 = .ok (.ireturn, 1) := by decide +kernel
theorem dc_S_about_98 : decode cd_S_about 98 = .ok (.aload_n 3, 1) := by decide +kernel
theorem dc_S_about_99 : decode cd_S_about 99 = .ok (.getfield 184, 3) := by decide +kernel
theorem dc_S_about_102 : decode cd_S_about 102 = .ok (.ireturn, 1) := by decide +kernel
theorem dc_S_about_103 : decode cd_S_about 103 = .ok (.aload_n 3, 1) := by decide +kernel
theorem dc_S_about_104 : decode cd_S_about 104 = .ok (.getfield 98, 3) := by decide +kernel
theorem dc_S_about_107 : decode cd_S_about 107 = .ok (.getfield 187, 3) := by decide +kernel
theorem dc_S_about_110 : decode cd_S_about 110 = .ok (.ireturn, 1) := by decide +kernel
theorem dc_S_about_111 : decode cd_S_about 111 = .ok (.aload_n 3, 1) := by decide +kernel
theorem dc_S_about_112 : decode cd_S_about 112 = .ok (.getfield 190, 3) := by decide +kernel
theorem dc_S_about_115 : decode cd_S_about 115 = .ok (.ireturn, 1) := by decide +kernel
theorem dc_S_about_116 : decode cd_S_about 116 = .ok (.aload_n 3, 1) := by decide +kernel
theorem dc_S_about_117 : decode cd_S_about 117 = .ok (.getfield 78, 3) := by decide +kernel
theorem dc_S_about_120 : decode cd_S_about 120 = .ok (.ireturn, 1) := by decide +kernel
theorem dc_S_about_121 : decode cd_S_about 121 = .ok (.aload_n 3, 1) := by decide +kernel
theorem dc_S_about_122 : decode cd_S_about 122 = .ok (.invokevirtual 193, 3) := by decide +kernel
theorem dc_S_about_125 : decode cd_S_about 125 = .ok (.ireturn, 1) := by decide +kernel
theorem dc_S_about_126 : decode cd_S_about 126 = .ok (.aload_n 3, 1) := by decide +kernel
theorem dc_S_about_127 : decode cd_S_about 127 = .ok (.getfield 196, 3) := by decide +kernel
theorem dc_S_about_130 : decode cd_S_about 130 = .ok (.ifCond .eq 7, 3) := by decide +kernel
theorem dc_S_about_133 : decode cd_S_about 133 = .ok (.iconst 1, 1) := by decide +kernel
theorem dc_S_about_134 : decode cd_S_about 134 = .ok (.goto 4, 3) := by decide +kernel
theorem dc_S_about_137 : decode cd_S_about 137 = .ok (.iconst 0, 1) := by decide +kernel
theorem dc_S_about_138 : decode cd_S_about 138 = .ok (.ireturn, 1) := by decide +kernel
theorem dc_S_about_139 : decode cd_S_about 139 = .ok (.new 41, 3) := by decide +kernel
theorem dc_S_about_142 : decode cd_S_about 142 = .ok (.dup, 1) := by decide +kernel
theorem dc_S_about_143 : decode cd_S_about 143 = .ok (.ldc 199, 2) := by decide +kernel
theorem dc_S_about_145 : decode cd_S_about 145 = .ok (.invokespecial 45, 3) := by decide +kernel
theorem dc_S_about_148 : decode cd_S_about 148 = .ok (.athrow, 1) := by decide +kernel
theorem dc_S_word_0 : decode cd_S_word 0 = .ok (.iload_n 1, 1) := by decide +kernel
theorem dc_S_word_1 : decode cd_S_word 1 = .ok (.invokestatic 34, 3) := by decide +kernel
theorem dc_S_word_4 : decode cd_S_word 4 = .ok (.iload_n 2, 1) := by decide +kernel
theorem dc_S_word_5 : decode cd_S_word 5 = .ok (.invokestatic 87, 3) := by decide +kernel
theorem dc_S_word_8 : decode cd_S_word 8 = .ok (.aload_n 0, 1) := by decide +kernel
theorem dc_S_word_9 : decode cd_S_word 9 = .ok (.getfield 25, 3) := by decide +kernel
theorem dc_S_word_12 : decode cd_S_word 12 = .ok (.iload_n 1, 1) := by decide +kernel
theorem dc_S_word_13 : decode cd_S_word 13 = .ok (.aaload, 1) := by decide +kernel
theorem dc_S_word_14 : decode cd_S_word 14 = .ok (.getfield 201, 3) := by decide +kernel
theorem dc_S_word_17 : decode cd_S_word 17 = .ok (.iload_n 2, 1) := by decide +kernel
theorem dc_S_word_18 : decode cd_S_word 18 = .ok (.iaload, 1) := by decide +kernel
theorem dc_S_word_19 : decode cd_S_word 19 = .ok (.ireturn, 1) := by decide +kernel
theorem dc_S_count_0 : decode cd_S_count 0 = .ok (.iload_n 1, 1) := by decide +kernel
theorem dc_S_count_1 : decode cd_S_count 1 = .ok (.tableswitch 93 0 7 #[47, 55, 63, 68, 73, 78, 83, 88], 47) := by decide +kernel
theorem dc_S_count_48 : decode cd_S_count 48 = .ok (.aload_n 0, 1) := by decide +kernel
theorem dc_S_count_49 : decode cd_S_count 49 = .ok (.getfield 12, 3) := by decide +kernel
theorem dc_S_count_52 : decode cd_S_count 52 = .ok (.getfield 65, 3) := by decide +kernel
theorem dc_S_count_55 : decode cd_S_count 55 = .ok (.ireturn, 1) := by decide +kernel
theorem dc_S_count_56 : decode cd_S_count 56 = .ok (.aload_n 0, 1) := by decide +kernel
theorem dc_S_count_57 : decode cd_S_count 57 = .ok (.getfield 12, 3) := by decide +kernel
theorem dc_S_count_60 : decode cd_S_count 60 = .ok (.invokevirtual 205, 3) := by decide +kernel
theorem dc_S_count_63 : decode cd_S_count 63 = .ok (.ireturn, 1) := by decide +kernel
theorem dc_S_count_64 : decode cd_S_count 64 = .ok (.aload_n 0, 1) := by decide +kernel
theorem dc_S_count_65 : decode cd_S_count 65 = .ok (.getfield 115, 3) := by decide +kernel
theorem dc_S_count_68 : decode cd_S_count 68 = .ok (.ireturn, 1) := by decide +kernel
theorem dc_S_count_69 : decode cd_S_count 69 = .ok (.aload_n 0, 1) := by decide +kernel
theorem dc_S_count_70 : decode cd_S_count 70 = .ok (.getfield 208, 3) := by decide +kernel
theorem dc_S_count_73 : decode cd_S_count 73 = .ok (.ireturn, 1) := by decide +kernel
theorem dc_S_count_74 : decode cd_S_count 74 = .ok (.aload_n 0, 1) := by decide +kernel
theorem dc_S_count_75 : decode cd_S_count 75 = .ok (.getfield 211, 3) := by decide +kernel
theorem dc_S_count_78 : decode cd_S_count 78 = .ok (.ireturn, 1) := by decide +kernel
theorem dc_S_count_79 : decode cd_S_count 79 = .ok (.aload_n 0, 1) := by decide +kernel
theorem dc_S_count_80 : decode cd_S_count 80 = .ok (.getfield 214, 3) := by decide +kernel
theorem dc_S_count_83 : decode cd_S_count 83 = .ok (.ireturn, 1) := by decide +kernel
theorem dc_S_count_84 : decode cd_S_count 84 = .ok (.aload_n 0, 1) := by decide +kernel
theorem dc_S_count_85 : decode cd_S_count 85 = .ok (.getfield 217, 3) := by decide +kernel
theorem dc_S_count_88 : decode cd_S_count 88 = .ok (.ireturn, 1) := by decide +kernel
theorem dc_S_count_89 : decode cd_S_count 89 = .ok (.aload_n 0, 1) := by decide +kernel
theorem dc_S_count_90 : decode cd_S_count 90 = .ok (.invokevirtual 220, 3) := by decide +kernel
theorem dc_S_count_93 : decode cd_S_count 93 = .ok (.ireturn, 1) := by decide +kernel
theorem dc_S_count_94 : decode cd_S_count 94 = .ok (.iconst (-1), 1) := by decide +kernel
theorem dc_S_count_95 : decode cd_S_count 95 = .ok (.ireturn, 1) := by decide +kernel
theorem dc_S_checkNode_0 : decode cd_S_checkNode 0 = .ok (.iload_n 0, 1) := by decide +kernel
theorem dc_S_checkNode_1 : decode cd_S_checkNode 1 = .ok (.ifCond .lt 9, 3) := by decide +kernel
theorem dc_S_checkNode_4 : decode cd_S_checkNode 4 = .ok (.iload_n 0, 1) := by decide +kernel
theorem dc_S_checkNode_5 : decode cd_S_checkNode 5 = .ok (.bipush 12, 2) := by decide +kernel
theorem dc_S_checkNode_7 : decode cd_S_checkNode 7 = .ok (.if_icmp .lt 13, 3) := by decide +kernel
theorem dc_S_checkNode_10 : decode cd_S_checkNode 10 = .ok (.new 223, 3) := by decide +kernel
theorem dc_S_checkNode_13 : decode cd_S_checkNode 13 = .ok (.dup, 1) := by decide +kernel
theorem dc_S_checkNode_14 : decode cd_S_checkNode 14 = .ok (.ldc 225, 2) := by decide +kernel
theorem dc_S_checkNode_16 : decode cd_S_checkNode 16 = .ok (.invokespecial 227, 3) := by decide +kernel
theorem dc_S_checkNode_19 : decode cd_S_checkNode 19 = .ok (.athrow, 1) := by decide +kernel
theorem dc_S_checkNode_20 : decode cd_S_checkNode 20 = .ok (.return_, 1) := by decide +kernel
theorem dc_S_checkPort_0 : decode cd_S_checkPort 0 = .ok (.iload_n 0, 1) := by decide +kernel
theorem dc_S_checkPort_1 : decode cd_S_checkPort 1 = .ok (.ifCond .lt 8, 3) := by decide +kernel
theorem dc_S_checkPort_4 : decode cd_S_checkPort 4 = .ok (.iload_n 0, 1) := by decide +kernel
theorem dc_S_checkPort_5 : decode cd_S_checkPort 5 = .ok (.iconst 3, 1) := by decide +kernel
theorem dc_S_checkPort_6 : decode cd_S_checkPort 6 = .ok (.if_icmp .lt 13, 3) := by decide +kernel
theorem dc_S_checkPort_9 : decode cd_S_checkPort 9 = .ok (.new 41, 3) := by decide +kernel
theorem dc_S_checkPort_12 : decode cd_S_checkPort 12 = .ok (.dup, 1) := by decide +kernel
theorem dc_S_checkPort_13 : decode cd_S_checkPort 13 = .ok (.ldc 228, 2) := by decide +kernel
theorem dc_S_checkPort_15 : decode cd_S_checkPort 15 = .ok (.invokespecial 45, 3) := by decide +kernel
theorem dc_S_checkPort_18 : decode cd_S_checkPort 18 = .ok (.athrow, 1) := by decide +kernel
theorem dc_S_checkPort_19 : decode cd_S_checkPort 19 = .ok (.return_, 1) := by decide +kernel
theorem dc_S_checkLabel_0 : decode cd_S_checkLabel 0 = .ok (.iload_n 0, 1) := by decide +kernel
theorem dc_S_checkLabel_1 : decode cd_S_checkLabel 1 = .ok (.ifCond .lt 8, 3) := by decide +kernel
theorem dc_S_checkLabel_4 : decode cd_S_checkLabel 4 = .ok (.iload_n 0, 1) := by decide +kernel
theorem dc_S_checkLabel_5 : decode cd_S_checkLabel 5 = .ok (.iconst 4, 1) := by decide +kernel
theorem dc_S_checkLabel_6 : decode cd_S_checkLabel 6 = .ok (.if_icmp .lt 13, 3) := by decide +kernel
theorem dc_S_checkLabel_9 : decode cd_S_checkLabel 9 = .ok (.new 41, 3) := by decide +kernel
theorem dc_S_checkLabel_12 : decode cd_S_checkLabel 12 = .ok (.dup, 1) := by decide +kernel
theorem dc_S_checkLabel_13 : decode cd_S_checkLabel 13 = .ok (.ldc 230, 2) := by decide +kernel
theorem dc_S_checkLabel_15 : decode cd_S_checkLabel 15 = .ok (.invokespecial 45, 3) := by decide +kernel
theorem dc_S_checkLabel_18 : decode cd_S_checkLabel 18 = .ok (.athrow, 1) := by decide +kernel
theorem dc_S_checkLabel_19 : decode cd_S_checkLabel 19 = .ok (.return_, 1) := by decide +kernel
theorem dc_S_checkWord_0 : decode cd_S_checkWord 0 = .ok (.iload_n 0, 1) := by decide +kernel
theorem dc_S_checkWord_1 : decode cd_S_checkWord 1 = .ok (.ifCond .lt 9, 3) := by decide +kernel
theorem dc_S_checkWord_4 : decode cd_S_checkWord 4 = .ok (.iload_n 0, 1) := by decide +kernel
theorem dc_S_checkWord_5 : decode cd_S_checkWord 5 = .ok (.bipush 8, 2) := by decide +kernel
theorem dc_S_checkWord_7 : decode cd_S_checkWord 7 = .ok (.if_icmp .lt 13, 3) := by decide +kernel
theorem dc_S_checkWord_10 : decode cd_S_checkWord 10 = .ok (.new 41, 3) := by decide +kernel
theorem dc_S_checkWord_13 : decode cd_S_checkWord 13 = .ok (.dup, 1) := by decide +kernel
theorem dc_S_checkWord_14 : decode cd_S_checkWord 14 = .ok (.ldc 232, 2) := by decide +kernel
theorem dc_S_checkWord_16 : decode cd_S_checkWord 16 = .ok (.invokespecial 45, 3) := by decide +kernel
theorem dc_S_checkWord_19 : decode cd_S_checkWord 19 = .ok (.athrow, 1) := by decide +kernel
theorem dc_S_checkWord_20 : decode cd_S_checkWord 20 = .ok (.return_, 1) := by decide +kernel
theorem dc_S_isDirty_0 : decode cd_S_isDirty 0 = .ok (.iconst 0, 1) := by decide +kernel
theorem dc_S_isDirty_1 : decode cd_S_isDirty 1 = .ok (.istore_n 2, 1) := by decide +kernel
theorem dc_S_isDirty_2 : decode cd_S_isDirty 2 = .ok (.iload_n 2, 1) := by decide +kernel
theorem dc_S_isDirty_3 : decode cd_S_isDirty 3 = .ok (.bipush 12, 2) := by decide +kernel
theorem dc_S_isDirty_5 : decode cd_S_isDirty 5 = .ok (.if_icmp .ge 35, 3) := by decide +kernel
theorem dc_S_isDirty_8 : decode cd_S_isDirty 8 = .ok (.aload_n 0, 1) := by decide +kernel
theorem dc_S_isDirty_9 : decode cd_S_isDirty 9 = .ok (.getfield 12, 3) := by decide +kernel
theorem dc_S_isDirty_12 : decode cd_S_isDirty 12 = .ok (.iload_n 2, 1) := by decide +kernel
theorem dc_S_isDirty_13 : decode cd_S_isDirty 13 = .ok (.invokevirtual 168, 3) := by decide +kernel
theorem dc_S_isDirty_16 : decode cd_S_isDirty 16 = .ok (.iload_n 1, 1) := by decide +kernel
theorem dc_S_isDirty_17 : decode cd_S_isDirty 17 = .ok (.if_icmp .ne 17, 3) := by decide +kernel
theorem dc_S_isDirty_20 : decode cd_S_isDirty 20 = .ok (.aload_n 0, 1) := by decide +kernel
theorem dc_S_isDirty_21 : decode cd_S_isDirty 21 = .ok (.getfield 25, 3) := by decide +kernel
theorem dc_S_isDirty_24 : decode cd_S_isDirty 24 = .ok (.iload_n 2, 1) := by decide +kernel
theorem dc_S_isDirty_25 : decode cd_S_isDirty 25 = .ok (.aaload, 1) := by decide +kernel
theorem dc_S_isDirty_26 : decode cd_S_isDirty 26 = .ok (.getfield 61, 3) := by decide +kernel
theorem dc_S_isDirty_29 : decode cd_S_isDirty 29 = .ok (.ifCond .eq 5, 3) := by decide +kernel
theorem dc_S_isDirty_32 : decode cd_S_isDirty 32 = .ok (.iconst 1, 1) := by decide +kernel
theorem dc_S_isDirty_33 : decode cd_S_isDirty 33 = .ok (.ireturn, 1) := by decide +kernel
theorem dc_S_isDirty_34 : decode cd_S_isDirty 34 = .ok (.iinc 2 1, 3) := by decide +kernel
theorem dc_S_isDirty_37 : decode cd_S_isDirty 37 = .ok (.goto (-35), 3) := by decide +kernel
theorem dc_S_isDirty_40 : decode cd_S_isDirty 40 = .ok (.iconst 0, 1) := by decide +kernel
theorem dc_S_isDirty_41 : decode cd_S_isDirty 41 = .ok (.ireturn, 1) := by decide +kernel
theorem dc_S_loopedBuses_0 : decode cd_S_loopedBuses 0 = .ok (.iconst 0, 1) := by decide +kernel
theorem dc_S_loopedBuses_1 : decode cd_S_loopedBuses 1 = .ok (.istore_n 1, 1) := by decide +kernel
theorem dc_S_loopedBuses_2 : decode cd_S_loopedBuses 2 = .ok (.iconst 0, 1) := by decide +kernel
theorem dc_S_loopedBuses_3 : decode cd_S_loopedBuses 3 = .ok (.istore_n 2, 1) := by decide +kernel
theorem dc_S_loopedBuses_4 : decode cd_S_loopedBuses 4 = .ok (.iload_n 2, 1) := by decide +kernel
theorem dc_S_loopedBuses_5 : decode cd_S_loopedBuses 5 = .ok (.bipush 12, 2) := by decide +kernel
theorem dc_S_loopedBuses_7 : decode cd_S_loopedBuses 7 = .ok (.if_icmp .ge 43, 3) := by decide +kernel
theorem dc_S_loopedBuses_10 : decode cd_S_loopedBuses 10 = .ok (.aload_n 0, 1) := by decide +kernel
theorem dc_S_loopedBuses_11 : decode cd_S_loopedBuses 11 = .ok (.getfield 12, 3) := by decide +kernel
theorem dc_S_loopedBuses_14 : decode cd_S_loopedBuses 14 = .ok (.iload_n 2, 1) := by decide +kernel
theorem dc_S_loopedBuses_15 : decode cd_S_loopedBuses 15 = .ok (.invokevirtual 143, 3) := by decide +kernel
theorem dc_S_loopedBuses_18 : decode cd_S_loopedBuses 18 = .ok (.ifCond .eq 26, 3) := by decide +kernel
theorem dc_S_loopedBuses_21 : decode cd_S_loopedBuses 21 = .ok (.aload_n 0, 1) := by decide +kernel
theorem dc_S_loopedBuses_22 : decode cd_S_loopedBuses 22 = .ok (.getfield 25, 3) := by decide +kernel
theorem dc_S_loopedBuses_25 : decode cd_S_loopedBuses 25 = .ok (.iload_n 2, 1) := by decide +kernel
theorem dc_S_loopedBuses_26 : decode cd_S_loopedBuses 26 = .ok (.aaload, 1) := by decide +kernel
theorem dc_S_loopedBuses_27 : decode cd_S_loopedBuses 27 = .ok (.getfield 234, 3) := by decide +kernel
theorem dc_S_loopedBuses_30 : decode cd_S_loopedBuses 30 = .ok (.ifCond .eq 14, 3) := by decide +kernel
theorem dc_S_loopedBuses_33 : decode cd_S_loopedBuses 33 = .ok (.aload_n 0, 1) := by decide +kernel
theorem dc_S_loopedBuses_34 : decode cd_S_loopedBuses 34 = .ok (.iload_n 2, 1) := by decide +kernel
theorem dc_S_loopedBuses_35 : decode cd_S_loopedBuses 35 = .ok (.invokevirtual 172, 3) := by decide +kernel
theorem dc_S_loopedBuses_38 : decode cd_S_loopedBuses 38 = .ok (.ifCond .ne 6, 3) := by decide +kernel
theorem dc_S_loopedBuses_41 : decode cd_S_loopedBuses 41 = .ok (.iinc 1 1, 3) := by decide +kernel
theorem dc_S_loopedBuses_44 : decode cd_S_loopedBuses 44 = .ok (.iinc 2 1, 3) := by decide +kernel
theorem dc_S_loopedBuses_47 : decode cd_S_loopedBuses 47 = .ok (.goto (-43), 3) := by decide +kernel
theorem dc_S_loopedBuses_50 : decode cd_S_loopedBuses 50 = .ok (.iload_n 1, 1) := by decide +kernel
theorem dc_S_loopedBuses_51 : decode cd_S_loopedBuses 51 = .ok (.ireturn, 1) := by decide +kernel
theorem dc_S_runBus_0 : decode cd_S_runBus 0 = .ok (.aload_n 0, 1) := by decide +kernel
theorem dc_S_runBus_1 : decode cd_S_runBus 1 = .ok (.iload_n 1, 1) := by decide +kernel
theorem dc_S_runBus_2 : decode cd_S_runBus 2 = .ok (.invokevirtual 172, 3) := by decide +kernel
theorem dc_S_runBus_5 : decode cd_S_runBus 5 = .ok (.ifCond .eq 11, 3) := by decide +kernel
theorem dc_S_runBus_8 : decode cd_S_runBus 8 = .ok (.aload_n 0, 1) := by decide +kernel
theorem dc_S_runBus_9 : decode cd_S_runBus 9 = .ok (.iload_n 1, 1) := by decide +kernel
theorem dc_S_runBus_10 : decode cd_S_runBus 10 = .ok (.invokevirtual 237, 3) := by decide +kernel
theorem dc_S_runBus_13 : decode cd_S_runBus 13 = .ok (.goto 59, 3) := by decide +kernel
theorem dc_S_runBus_16 : decode cd_S_runBus 16 = .ok (.aload_n 0, 1) := by decide +kernel
theorem dc_S_runBus_17 : decode cd_S_runBus 17 = .ok (.getfield 25, 3) := by decide +kernel
theorem dc_S_runBus_20 : decode cd_S_runBus 20 = .ok (.iload_n 1, 1) := by decide +kernel
theorem dc_S_runBus_21 : decode cd_S_runBus 21 = .ok (.aaload, 1) := by decide +kernel
theorem dc_S_runBus_22 : decode cd_S_runBus 22 = .ok (.getfield 234, 3) := by decide +kernel
theorem dc_S_runBus_25 : decode cd_S_runBus 25 = .ok (.ifCond .ne 47, 3) := by decide +kernel
theorem dc_S_runBus_28 : decode cd_S_runBus 28 = .ok (.aload_n 0, 1) := by decide +kernel
theorem dc_S_runBus_29 : decode cd_S_runBus 29 = .ok (.getfield 25, 3) := by decide +kernel
theorem dc_S_runBus_32 : decode cd_S_runBus 32 = .ok (.iload_n 1, 1) := by decide +kernel
theorem dc_S_runBus_33 : decode cd_S_runBus 33 = .ok (.aaload, 1) := by decide +kernel
theorem dc_S_runBus_34 : decode cd_S_runBus 34 = .ok (.getfield 184, 3) := by decide +kernel
theorem dc_S_runBus_37 : decode cd_S_runBus 37 = .ok (.istore_n 2, 1) := by decide +kernel
theorem dc_S_runBus_38 : decode cd_S_runBus 38 = .ok (.aload_n 0, 1) := by decide +kernel
theorem dc_S_runBus_39 : decode cd_S_runBus 39 = .ok (.getfield 115, 3) := by decide +kernel
theorem dc_S_runBus_42 : decode cd_S_runBus 42 = .ok (.bipush 8, 2) := by decide +kernel
theorem dc_S_runBus_44 : decode cd_S_runBus 44 = .ok (.irem, 1) := by decide +kernel
theorem dc_S_runBus_45 : decode cd_S_runBus 45 = .ok (.ifCond .ne 22, 3) := by decide +kernel
theorem dc_S_runBus_48 : decode cd_S_runBus 48 = .ok (.iload_n 2, 1) := by decide +kernel
theorem dc_S_runBus_49 : decode cd_S_runBus 49 = .ok (.iconst (-1), 1) := by decide +kernel
theorem dc_S_runBus_50 : decode cd_S_runBus 50 = .ok (.if_icmp .eq 17, 3) := by decide +kernel
theorem dc_S_runBus_53 : decode cd_S_runBus 53 = .ok (.aload_n 0, 1) := by decide +kernel
theorem dc_S_runBus_54 : decode cd_S_runBus 54 = .ok (.iload_n 1, 1) := by decide +kernel
theorem dc_S_runBus_55 : decode cd_S_runBus 55 = .ok (.aload_n 0, 1) := by decide +kernel
theorem dc_S_runBus_56 : decode cd_S_runBus 56 = .ok (.getfield 25, 3) := by decide +kernel
theorem dc_S_runBus_59 : decode cd_S_runBus 59 = .ok (.iload_n 2, 1) := by decide +kernel
theorem dc_S_runBus_60 : decode cd_S_runBus 60 = .ok (.aaload, 1) := by decide +kernel
theorem dc_S_runBus_61 : decode cd_S_runBus 61 = .ok (.invokevirtual 240, 3) := by decide +kernel
theorem dc_S_runBus_64 : decode cd_S_runBus 64 = .ok (.goto 8, 3) := by decide +kernel
theorem dc_S_runBus_67 : decode cd_S_runBus 67 = .ok (.aload_n 0, 1) := by decide +kernel
theorem dc_S_runBus_68 : decode cd_S_runBus 68 = .ok (.iload_n 1, 1) := by decide +kernel
theorem dc_S_runBus_69 : decode cd_S_runBus 69 = .ok (.invokevirtual 244, 3) := by decide +kernel
theorem dc_S_runBus_72 : decode cd_S_runBus 72 = .ok (.return_, 1) := by decide +kernel
theorem dc_S_resetBus_0 : decode cd_S_resetBus 0 = .ok (.iconst 0, 1) := by decide +kernel
theorem dc_S_resetBus_1 : decode cd_S_resetBus 1 = .ok (.istore_n 2, 1) := by decide +kernel
theorem dc_S_resetBus_2 : decode cd_S_resetBus 2 = .ok (.iload_n 2, 1) := by decide +kernel
theorem dc_S_resetBus_3 : decode cd_S_resetBus 3 = .ok (.bipush 12, 2) := by decide +kernel
theorem dc_S_resetBus_5 : decode cd_S_resetBus 5 = .ok (.if_icmp .ge 30, 3) := by decide +kernel
theorem dc_S_resetBus_8 : decode cd_S_resetBus 8 = .ok (.aload_n 0, 1) := by decide +kernel
theorem dc_S_resetBus_9 : decode cd_S_resetBus 9 = .ok (.getfield 12, 3) := by decide +kernel
theorem dc_S_resetBus_12 : decode cd_S_resetBus 12 = .ok (.iload_n 2, 1) := by decide +kernel
theorem dc_S_resetBus_13 : decode cd_S_resetBus 13 = .ok (.invokevirtual 168, 3) := by decide +kernel
theorem dc_S_resetBus_16 : decode cd_S_resetBus 16 = .ok (.iload_n 1, 1) := by decide +kernel
theorem dc_S_resetBus_17 : decode cd_S_resetBus 17 = .ok (.if_icmp .ne 12, 3) := by decide +kernel
theorem dc_S_resetBus_20 : decode cd_S_resetBus 20 = .ok (.aload_n 0, 1) := by decide +kernel
theorem dc_S_resetBus_21 : decode cd_S_resetBus 21 = .ok (.getfield 25, 3) := by decide +kernel
theorem dc_S_resetBus_24 : decode cd_S_resetBus 24 = .ok (.iload_n 2, 1) := by decide +kernel
theorem dc_S_resetBus_25 : decode cd_S_resetBus 25 = .ok (.aaload, 1) := by decide +kernel
theorem dc_S_resetBus_26 : decode cd_S_resetBus 26 = .ok (.invokevirtual 247, 3) := by decide +kernel
theorem dc_S_resetBus_29 : decode cd_S_resetBus 29 = .ok (.iinc 2 1, 3) := by decide +kernel
theorem dc_S_resetBus_32 : decode cd_S_resetBus 32 = .ok (.goto (-30), 3) := by decide +kernel
theorem dc_S_resetBus_35 : decode cd_S_resetBus 35 = .ok (.aload_n 0, 1) := by decide +kernel
theorem dc_S_resetBus_36 : decode cd_S_resetBus 36 = .ok (.getfield 19, 3) := by decide +kernel
theorem dc_S_resetBus_39 : decode cd_S_resetBus 39 = .ok (.aload_n 0, 1) := by decide +kernel
theorem dc_S_resetBus_40 : decode cd_S_resetBus 40 = .ok (.getfield 12, 3) := by decide +kernel
theorem dc_S_resetBus_43 : decode cd_S_resetBus 43 = .ok (.aload_n 0, 1) := by decide +kernel
theorem dc_S_resetBus_44 : decode cd_S_resetBus 44 = .ok (.getfield 25, 3) := by decide +kernel
theorem dc_S_resetBus_47 : decode cd_S_resetBus 47 = .ok (.iload_n 1, 1) := by decide +kernel
theorem dc_S_resetBus_48 : decode cd_S_resetBus 48 = .ok (.invokevirtual 250, 3) := by decide +kernel
theorem dc_S_resetBus_51 : decode cd_S_resetBus 51 = .ok (.ifCond .ne 7, 3) := by decide +kernel
theorem dc_S_resetBus_54 : decode cd_S_resetBus 54 = .ok (.iconst 1, 1) := by decide +kernel
theorem dc_S_resetBus_55 : decode cd_S_resetBus 55 = .ok (.goto 4, 3) := by decide +kernel
theorem dc_S_resetBus_58 : decode cd_S_resetBus 58 = .ok (.iconst 0, 1) := by decide +kernel
theorem dc_S_resetBus_59 : decode cd_S_resetBus 59 = .ok (.istore_n 2, 1) := by decide +kernel
theorem dc_S_resetBus_60 : decode cd_S_resetBus 60 = .ok (.aload_n 0, 1) := by decide +kernel
theorem dc_S_resetBus_61 : decode cd_S_resetBus 61 = .ok (.getfield 19, 3) := by decide +kernel
theorem dc_S_resetBus_64 : decode cd_S_resetBus 64 = .ok (.aload_n 0, 1) := by decide +kernel
theorem dc_S_resetBus_65 : decode cd_S_resetBus 65 = .ok (.getfield 12, 3) := by decide +kernel
theorem dc_S_resetBus_68 : decode cd_S_resetBus 68 = .ok (.aload_n 0, 1) := by decide +kernel
theorem dc_S_resetBus_69 : decode cd_S_resetBus 69 = .ok (.getfield 25, 3) := by decide +kernel
theorem dc_S_resetBus_72 : decode cd_S_resetBus 72 = .ok (.iload_n 1, 1) := by decide +kernel
theorem dc_S_resetBus_73 : decode cd_S_resetBus 73 = .ok (.iload_n 2, 1) := by decide +kernel
theorem dc_S_resetBus_74 : decode cd_S_resetBus 74 = .ok (.invokevirtual 254, 3) := by decide +kernel
theorem dc_S_resetBus_77 : decode cd_S_resetBus 77 = .ok (.aload_n 0, 1) := by decide +kernel
theorem dc_S_resetBus_78 : decode cd_S_resetBus 78 = .ok (.dup, 1) := by decide +kernel
theorem dc_S_resetBus_79 : decode cd_S_resetBus 79 = .ok (.getfield 208, 3) := by decide +kernel
theorem dc_S_resetBus_82 : decode cd_S_resetBus 82 = .ok (.iconst 1, 1) := by decide +kernel
theorem dc_S_resetBus_83 : decode cd_S_resetBus 83 = .ok (.iadd, 1) := by decide +kernel
theorem dc_S_resetBus_84 : decode cd_S_resetBus 84 = .ok (.putfield 208, 3) := by decide +kernel
theorem dc_S_resetBus_87 : decode cd_S_resetBus 87 = .ok (.return_, 1) := by decide +kernel
theorem dc_S_runSlot_0 : decode cd_S_runSlot 0 = .ok (.aconst_null, 1) := by decide +kernel
theorem dc_S_runSlot_1 : decode cd_S_runSlot 1 = .ok (.astore_n 2, 1) := by decide +kernel
theorem dc_S_runSlot_2 : decode cd_S_runSlot 2 = .ok (.iconst 0, 1) := by decide +kernel
theorem dc_S_runSlot_3 : decode cd_S_runSlot 3 = .ok (.istore_n 3, 1) := by decide +kernel
theorem dc_S_runSlot_4 : decode cd_S_runSlot 4 = .ok (.iconst 0, 1) := by decide +kernel
theorem dc_S_runSlot_5 : decode cd_S_runSlot 5 = .ok (.istore 4, 2) := by decide +kernel
theorem dc_S_runSlot_7 : decode cd_S_runSlot 7 = .ok (.iload 4, 2) := by decide +kernel
theorem dc_S_runSlot_9 : decode cd_S_runSlot 9 = .ok (.bipush 12, 2) := by decide +kernel
theorem dc_S_runSlot_11 : decode cd_S_runSlot 11 = .ok (.if_icmp .ge 71, 3) := by decide +kernel
theorem dc_S_runSlot_14 : decode cd_S_runSlot 14 = .ok (.aload_n 0, 1) := by decide +kernel
theorem dc_S_runSlot_15 : decode cd_S_runSlot 15 = .ok (.getfield 25, 3) := by decide +kernel
theorem dc_S_runSlot_18 : decode cd_S_runSlot 18 = .ok (.iload 4, 2) := by decide +kernel
theorem dc_S_runSlot_20 : decode cd_S_runSlot 20 = .ok (.aaload, 1) := by decide +kernel
theorem dc_S_runSlot_21 : decode cd_S_runSlot 21 = .ok (.astore 5, 2) := by decide +kernel
theorem dc_S_runSlot_23 : decode cd_S_runSlot 23 = .ok (.aload_n 0, 1) := by decide +kernel
theorem dc_S_runSlot_24 : decode cd_S_runSlot 24 = .ok (.getfield 12, 3) := by decide +kernel
theorem dc_S_runSlot_27 : decode cd_S_runSlot 27 = .ok (.iload 4, 2) := by decide +kernel
theorem dc_S_runSlot_29 : decode cd_S_runSlot 29 = .ok (.invokevirtual 168, 3) := by decide +kernel
theorem dc_S_runSlot_32 : decode cd_S_runSlot 32 = .ok (.iload_n 1, 1) := by decide +kernel
theorem dc_S_runSlot_33 : decode cd_S_runSlot 33 = .ok (.if_icmp .ne 43, 3) := by decide +kernel
theorem dc_S_runSlot_36 : decode cd_S_runSlot 36 = .ok (.aload 5, 2) := by decide +kernel
theorem dc_S_runSlot_38 : decode cd_S_runSlot 38 = .ok (.getfield 98, 3) := by decide +kernel
theorem dc_S_runSlot_41 : decode cd_S_runSlot 41 = .ok (.invokevirtual 258, 3) := by decide +kernel
theorem dc_S_runSlot_44 : decode cd_S_runSlot 44 = .ok (.ifCond .ne 32, 3) := by decide +kernel
theorem dc_S_runSlot_47 : decode cd_S_runSlot 47 = .ok (.iconst 1, 1) := by decide +kernel
theorem dc_S_runSlot_48 : decode cd_S_runSlot 48 = .ok (.istore_n 3, 1) := by decide +kernel
theorem dc_S_runSlot_49 : decode cd_S_runSlot 49 = .ok (.aload 5, 2) := by decide +kernel
theorem dc_S_runSlot_51 : decode cd_S_runSlot 51 = .ok (.getfield 196, 3) := by decide +kernel
theorem dc_S_runSlot_54 : decode cd_S_runSlot 54 = .ok (.ifCond .ne 22, 3) := by decide +kernel
theorem dc_S_runSlot_57 : decode cd_S_runSlot 57 = .ok (.aload_n 2, 1) := by decide +kernel
theorem dc_S_runSlot_58 : decode cd_S_runSlot 58 = .ok (.ifnull 15, 3) := by decide +kernel
theorem dc_S_runSlot_61 : decode cd_S_runSlot 61 = .ok (.aload 5, 2) := by decide +kernel
theorem dc_S_runSlot_63 : decode cd_S_runSlot 63 = .ok (.getfield 175, 3) := by decide +kernel
theorem dc_S_runSlot_66 : decode cd_S_runSlot 66 = .ok (.aload_n 2, 1) := by decide +kernel
theorem dc_S_runSlot_67 : decode cd_S_runSlot 67 = .ok (.getfield 175, 3) := by decide +kernel
theorem dc_S_runSlot_70 : decode cd_S_runSlot 70 = .ok (.if_icmp .le 6, 3) := by decide +kernel
theorem dc_S_runSlot_73 : decode cd_S_runSlot 73 = .ok (.aload 5, 2) := by decide +kernel
theorem dc_S_runSlot_75 : decode cd_S_runSlot 75 = .ok (.astore_n 2, 1) := by decide +kernel
theorem dc_S_runSlot_76 : decode cd_S_runSlot 76 = .ok (.iinc 4 1, 3) := by decide +kernel
theorem dc_S_runSlot_79 : decode cd_S_runSlot 79 = .ok (.goto (-72), 3) := by decide +kernel
theorem dc_S_runSlot_82 : decode cd_S_runSlot 82 = .ok (.aload_n 2, 1) := by decide +kernel
theorem dc_S_runSlot_83 : decode cd_S_runSlot 83 = .ok (.ifnull 12, 3) := by decide +kernel
theorem dc_S_runSlot_86 : decode cd_S_runSlot 86 = .ok (.aload_n 0, 1) := by decide +kernel
theorem dc_S_runSlot_87 : decode cd_S_runSlot 87 = .ok (.aload_n 2, 1) := by decide +kernel
theorem dc_S_runSlot_88 : decode cd_S_runSlot 88 = .ok (.iload_n 1, 1) := by decide +kernel
theorem dc_S_runSlot_89 : decode cd_S_runSlot 89 = .ok (.invokevirtual 261, 3) := by decide +kernel
theorem dc_S_runSlot_92 : decode cd_S_runSlot 92 = .ok (.goto 12, 3) := by decide +kernel
theorem dc_S_runSlot_95 : decode cd_S_runSlot 95 = .ok (.iload_n 3, 1) := by decide +kernel
theorem dc_S_runSlot_96 : decode cd_S_runSlot 96 = .ok (.ifCond .eq 8, 3) := by decide +kernel
theorem dc_S_runSlot_99 : decode cd_S_runSlot 99 = .ok (.aload_n 0, 1) := by decide +kernel
theorem dc_S_runSlot_100 : decode cd_S_runSlot 100 = .ok (.iload_n 1, 1) := by decide +kernel
theorem dc_S_runSlot_101 : decode cd_S_runSlot 101 = .ok (.invokevirtual 265, 3) := by decide +kernel
theorem dc_S_runSlot_104 : decode cd_S_runSlot 104 = .ok (.return_, 1) := by decide +kernel
theorem dc_S_takeUsedFromAll_0 : decode cd_S_takeUsedFromAll 0 = .ok (.iconst 0, 1) := by decide +kernel
theorem dc_S_takeUsedFromAll_1 : decode cd_S_takeUsedFromAll 1 = .ok (.istore_n 2, 1) := by decide +kernel
theorem dc_S_takeUsedFromAll_2 : decode cd_S_takeUsedFromAll 2 = .ok (.iload_n 2, 1) := by decide +kernel
theorem dc_S_takeUsedFromAll_3 : decode cd_S_takeUsedFromAll 3 = .ok (.bipush 12, 2) := by decide +kernel
theorem dc_S_takeUsedFromAll_5 : decode cd_S_takeUsedFromAll 5 = .ok (.if_icmp .ge 31, 3) := by decide +kernel
theorem dc_S_takeUsedFromAll_8 : decode cd_S_takeUsedFromAll 8 = .ok (.aload_n 0, 1) := by decide +kernel
theorem dc_S_takeUsedFromAll_9 : decode cd_S_takeUsedFromAll 9 = .ok (.getfield 12, 3) := by decide +kernel
theorem dc_S_takeUsedFromAll_12 : decode cd_S_takeUsedFromAll 12 = .ok (.iload_n 2, 1) := by decide +kernel
theorem dc_S_takeUsedFromAll_13 : decode cd_S_takeUsedFromAll 13 = .ok (.invokevirtual 168, 3) := by decide +kernel
theorem dc_S_takeUsedFromAll_16 : decode cd_S_takeUsedFromAll 16 = .ok (.iload_n 1, 1) := by decide +kernel
theorem dc_S_takeUsedFromAll_17 : decode cd_S_takeUsedFromAll 17 = .ok (.if_icmp .ne 13, 3) := by decide +kernel
theorem dc_S_takeUsedFromAll_20 : decode cd_S_takeUsedFromAll 20 = .ok (.aload_n 0, 1) := by decide +kernel
theorem dc_S_takeUsedFromAll_21 : decode cd_S_takeUsedFromAll 21 = .ok (.getfield 25, 3) := by decide +kernel
theorem dc_S_takeUsedFromAll_24 : decode cd_S_takeUsedFromAll 24 = .ok (.iload_n 2, 1) := by decide +kernel
theorem dc_S_takeUsedFromAll_25 : decode cd_S_takeUsedFromAll 25 = .ok (.aaload, 1) := by decide +kernel
theorem dc_S_takeUsedFromAll_26 : decode cd_S_takeUsedFromAll 26 = .ok (.iconst 0, 1) := by decide +kernel
theorem dc_S_takeUsedFromAll_27 : decode cd_S_takeUsedFromAll 27 = .ok (.putfield 196, 3) := by decide +kernel
theorem dc_S_takeUsedFromAll_30 : decode cd_S_takeUsedFromAll 30 = .ok (.iinc 2 1, 3) := by decide +kernel
theorem dc_S_takeUsedFromAll_33 : decode cd_S_takeUsedFromAll 33 = .ok (.goto (-31), 3) := by decide +kernel
theorem dc_S_takeUsedFromAll_36 : decode cd_S_takeUsedFromAll 36 = .ok (.aload_n 0, 1) := by decide +kernel
theorem dc_S_takeUsedFromAll_37 : decode cd_S_takeUsedFromAll 37 = .ok (.dup, 1) := by decide +kernel
theorem dc_S_takeUsedFromAll_38 : decode cd_S_takeUsedFromAll 38 = .ok (.getfield 217, 3) := by decide +kernel
theorem dc_S_takeUsedFromAll_41 : decode cd_S_takeUsedFromAll 41 = .ok (.iconst 1, 1) := by decide +kernel
theorem dc_S_takeUsedFromAll_42 : decode cd_S_takeUsedFromAll 42 = .ok (.iadd, 1) := by decide +kernel
theorem dc_S_takeUsedFromAll_43 : decode cd_S_takeUsedFromAll 43 = .ok (.putfield 217, 3) := by decide +kernel
theorem dc_S_takeUsedFromAll_46 : decode cd_S_takeUsedFromAll 46 = .ok (.return_, 1) := by decide +kernel
theorem dc_S_sendFirstPacket_0 : decode cd_S_sendFirstPacket 0 = .ok (.aload_n 1, 1) := by decide +kernel
theorem dc_S_sendFirstPacket_1 : decode cd_S_sendFirstPacket 1 = .ok (.getfield 98, 3) := by decide +kernel
theorem dc_S_sendFirstPacket_4 : decode cd_S_sendFirstPacket 4 = .ok (.invokevirtual 268, 3) := by decide +kernel
theorem dc_S_sendFirstPacket_7 : decode cd_S_sendFirstPacket 7 = .ok (.astore_n 3, 1) := by decide +kernel
theorem dc_S_sendFirstPacket_8 : decode cd_S_sendFirstPacket 8 = .ok (.aload_n 3, 1) := by decide +kernel
theorem dc_S_sendFirstPacket_9 : decode cd_S_sendFirstPacket 9 = .ok (.ifnonnull 4, 3) := by decide +kernel
theorem dc_S_sendFirstPacket_12 : decode cd_S_sendFirstPacket 12 = .ok (.return_, 1) := by decide +kernel
theorem dc_S_sendFirstPacket_13 : decode cd_S_sendFirstPacket 13 = .ok (.aload_n 1, 1) := by decide +kernel
theorem dc_S_sendFirstPacket_14 : decode cd_S_sendFirstPacket 14 = .ok (.iconst 1, 1) := by decide +kernel
theorem dc_S_sendFirstPacket_15 : decode cd_S_sendFirstPacket 15 = .ok (.putfield 196, 3) := by decide +kernel
theorem dc_S_sendFirstPacket_18 : decode cd_S_sendFirstPacket 18 = .ok (.aload_n 0, 1) := by decide +kernel
theorem dc_S_sendFirstPacket_19 : decode cd_S_sendFirstPacket 19 = .ok (.dup, 1) := by decide +kernel
theorem dc_S_sendFirstPacket_20 : decode cd_S_sendFirstPacket 20 = .ok (.getfield 211, 3) := by decide +kernel
theorem dc_S_sendFirstPacket_23 : decode cd_S_sendFirstPacket 23 = .ok (.iconst 1, 1) := by decide +kernel
theorem dc_S_sendFirstPacket_24 : decode cd_S_sendFirstPacket 24 = .ok (.iadd, 1) := by decide +kernel
theorem dc_S_sendFirstPacket_25 : decode cd_S_sendFirstPacket 25 = .ok (.putfield 211, 3) := by decide +kernel
theorem dc_S_sendFirstPacket_28 : decode cd_S_sendFirstPacket 28 = .ok (.aload_n 3, 1) := by decide +kernel
theorem dc_S_sendFirstPacket_29 : decode cd_S_sendFirstPacket 29 = .ok (.getfield 272, 3) := by decide +kernel
theorem dc_S_sendFirstPacket_32 : decode cd_S_sendFirstPacket 32 = .ok (.ifCond .eq 11, 3) := by decide +kernel
theorem dc_S_sendFirstPacket_35 : decode cd_S_sendFirstPacket 35 = .ok (.aload_n 3, 1) := by decide +kernel
theorem dc_S_sendFirstPacket_36 : decode cd_S_sendFirstPacket 36 = .ok (.iconst 0, 1) := by decide +kernel
theorem dc_S_sendFirstPacket_37 : decode cd_S_sendFirstPacket 37 = .ok (.invokevirtual 275, 3) := by decide +kernel
theorem dc_S_sendFirstPacket_40 : decode cd_S_sendFirstPacket 40 = .ok (.goto 10, 3) := by decide +kernel
theorem dc_S_sendFirstPacket_43 : decode cd_S_sendFirstPacket 43 = .ok (.aload_n 0, 1) := by decide +kernel
theorem dc_S_sendFirstPacket_44 : decode cd_S_sendFirstPacket 44 = .ok (.aload_n 3, 1) := by decide +kernel
theorem dc_S_sendFirstPacket_45 : decode cd_S_sendFirstPacket 45 = .ok (.aload_n 1, 1) := by decide +kernel
theorem dc_S_sendFirstPacket_46 : decode cd_S_sendFirstPacket 46 = .ok (.iload_n 2, 1) := by decide +kernel
theorem dc_S_sendFirstPacket_47 : decode cd_S_sendFirstPacket 47 = .ok (.invokevirtual 278, 3) := by decide +kernel
theorem dc_S_sendFirstPacket_50 : decode cd_S_sendFirstPacket 50 = .ok (.return_, 1) := by decide +kernel
theorem dc_S_sendRequest_0 : decode cd_S_sendRequest 0 = .ok (.aload_n 1, 1) := by decide +kernel
theorem dc_S_sendRequest_1 : decode cd_S_sendRequest 1 = .ok (.dup, 1) := by decide +kernel
theorem dc_S_sendRequest_2 : decode cd_S_sendRequest 2 = .ok (.getfield 282, 3) := by decide +kernel
theorem dc_S_sendRequest_5 : decode cd_S_sendRequest 5 = .ok (.iconst 1, 1) := by decide +kernel
theorem dc_S_sendRequest_6 : decode cd_S_sendRequest 6 = .ok (.iadd, 1) := by decide +kernel
theorem dc_S_sendRequest_7 : decode cd_S_sendRequest 7 = .ok (.putfield 282, 3) := by decide +kernel
theorem dc_S_sendRequest_10 : decode cd_S_sendRequest 10 = .ok (.aload_n 0, 1) := by decide +kernel
theorem dc_S_sendRequest_11 : decode cd_S_sendRequest 11 = .ok (.getfield 12, 3) := by decide +kernel
theorem dc_S_sendRequest_14 : decode cd_S_sendRequest 14 = .ok (.aload_n 1, 1) := by decide +kernel
theorem dc_S_sendRequest_15 : decode cd_S_sendRequest 15 = .ok (.getfield 285, 3) := by decide +kernel
theorem dc_S_sendRequest_18 : decode cd_S_sendRequest 18 = .ok (.invokevirtual 168, 3) := by decide +kernel
theorem dc_S_sendRequest_21 : decode cd_S_sendRequest 21 = .ok (.iload_n 3, 1) := by decide +kernel
theorem dc_S_sendRequest_22 : decode cd_S_sendRequest 22 = .ok (.if_icmp .eq 9, 3) := by decide +kernel
theorem dc_S_sendRequest_25 : decode cd_S_sendRequest 25 = .ok (.aload_n 1, 1) := by decide +kernel
theorem dc_S_sendRequest_26 : decode cd_S_sendRequest 26 = .ok (.iconst 3, 1) := by decide +kernel
theorem dc_S_sendRequest_27 : decode cd_S_sendRequest 27 = .ok (.invokevirtual 275, 3) := by decide +kernel
theorem dc_S_sendRequest_30 : decode cd_S_sendRequest 30 = .ok (.return_, 1) := by decide +kernel
theorem dc_S_sendRequest_31 : decode cd_S_sendRequest 31 = .ok (.aload_n 0, 1) := by decide +kernel
theorem dc_S_sendRequest_32 : decode cd_S_sendRequest 32 = .ok (.getfield 25, 3) := by decide +kernel
theorem dc_S_sendRequest_35 : decode cd_S_sendRequest 35 = .ok (.aload_n 1, 1) := by decide +kernel
theorem dc_S_sendRequest_36 : decode cd_S_sendRequest 36 = .ok (.getfield 285, 3) := by decide +kernel
theorem dc_S_sendRequest_39 : decode cd_S_sendRequest 39 = .ok (.aaload, 1) := by decide +kernel
theorem dc_S_sendRequest_40 : decode cd_S_sendRequest 40 = .ok (.astore 4, 2) := by decide +kernel
theorem dc_S_sendRequest_42 : decode cd_S_sendRequest 42 = .ok (.aload 4, 2) := by decide +kernel
theorem dc_S_sendRequest_44 : decode cd_S_sendRequest 44 = .ok (.getfield 98, 3) := by decide +kernel
theorem dc_S_sendRequest_47 : decode cd_S_sendRequest 47 = .ok (.invokevirtual 102, 3) := by decide +kernel
theorem dc_S_sendRequest_50 : decode cd_S_sendRequest 50 = .ok (.ifCond .ne 24, 3) := by decide +kernel
theorem dc_S_sendRequest_53 : decode cd_S_sendRequest 53 = .ok (.aload_n 1, 1) := by decide +kernel
theorem dc_S_sendRequest_54 : decode cd_S_sendRequest 54 = .ok (.aload 4, 2) := by decide +kernel
theorem dc_S_sendRequest_56 : decode cd_S_sendRequest 56 = .ok (.getfield 201, 3) := by decide +kernel
theorem dc_S_sendRequest_59 : decode cd_S_sendRequest 59 = .ok (.invokevirtual 288, 3) := by decide +kernel
theorem dc_S_sendRequest_62 : decode cd_S_sendRequest 62 = .ok (.aload 4, 2) := by decide +kernel
theorem dc_S_sendRequest_64 : decode cd_S_sendRequest 64 = .ok (.getfield 98, 3) := by decide +kernel
theorem dc_S_sendRequest_67 : decode cd_S_sendRequest 67 = .ok (.aload_n 1, 1) := by decide +kernel
theorem dc_S_sendRequest_68 : decode cd_S_sendRequest 68 = .ok (.invokevirtual 125, 3) := by decide +kernel
theorem dc_S_sendRequest_71 : decode cd_S_sendRequest 71 = .ok (.goto 27, 3) := by decide +kernel
theorem dc_S_sendRequest_74 : decode cd_S_sendRequest 74 = .ok (.aload_n 1, 1) := by decide +kernel
theorem dc_S_sendRequest_75 : decode cd_S_sendRequest 75 = .ok (.getfield 282, 3) := by decide +kernel
theorem dc_S_sendRequest_78 : decode cd_S_sendRequest 78 = .ok (.iconst 4, 1) := by decide +kernel
theorem dc_S_sendRequest_79 : decode cd_S_sendRequest 79 = .ok (.if_icmp .ge 14, 3) := by decide +kernel
theorem dc_S_sendRequest_82 : decode cd_S_sendRequest 82 = .ok (.aload_n 2, 1) := by decide +kernel
theorem dc_S_sendRequest_83 : decode cd_S_sendRequest 83 = .ok (.getfield 98, 3) := by decide +kernel
theorem dc_S_sendRequest_86 : decode cd_S_sendRequest 86 = .ok (.aload_n 1, 1) := by decide +kernel
theorem dc_S_sendRequest_87 : decode cd_S_sendRequest 87 = .ok (.invokevirtual 125, 3) := by decide +kernel
theorem dc_S_sendRequest_90 : decode cd_S_sendRequest 90 = .ok (.goto 8, 3) := by decide +kernel
theorem dc_S_sendRequest_93 : decode cd_S_sendRequest 93 = .ok (.aload_n 1, 1) := by decide +kernel
theorem dc_S_sendRequest_94 : decode cd_S_sendRequest 94 = .ok (.iconst 2, 1) := by decide +kernel
theorem dc_S_sendRequest_95 : decode cd_S_sendRequest 95 = .ok (.invokevirtual 275, 3) := by decide +kernel
theorem dc_S_sendRequest_98 : decode cd_S_sendRequest 98 = .ok (.return_, 1) := by decide +kernel
theorem dc_S_runCycle_0 : decode cd_S_runCycle 0 = .ok (.ldc2_w 292, 3) := by decide +kernel
theorem dc_S_runCycle_3 : decode cd_S_runCycle 3 = .ok (.aload_n 2, 1) := by decide +kernel
theorem dc_S_runCycle_4 : decode cd_S_runCycle 4 = .ok (.getfield 201, 3) := by decide +kernel
theorem dc_S_runCycle_7 : decode cd_S_runCycle 7 = .ok (.bipush 6, 2) := by decide +kernel
theorem dc_S_runCycle_9 : decode cd_S_runCycle 9 = .ok (.iaload, 1) := by decide +kernel
theorem dc_S_runCycle_10 : decode cd_S_runCycle 10 = .ok (.i2l, 1) := by decide +kernel
theorem dc_S_runCycle_11 : decode cd_S_runCycle 11 = .ok (.lsub, 1) := by decide +kernel
theorem dc_S_runCycle_12 : decode cd_S_runCycle 12 = .ok (.lstore_n 3, 1) := by decide +kernel
theorem dc_S_runCycle_13 : decode cd_S_runCycle 13 = .ok (.aload_n 2, 1) := by decide +kernel
theorem dc_S_runCycle_14 : decode cd_S_runCycle 14 = .ok (.getfield 201, 3) := by decide +kernel
theorem dc_S_runCycle_17 : decode cd_S_runCycle 17 = .ok (.bipush 7, 2) := by decide +kernel
theorem dc_S_runCycle_19 : decode cd_S_runCycle 19 = .ok (.iaload, 1) := by decide +kernel
theorem dc_S_runCycle_20 : decode cd_S_runCycle 20 = .ok (.istore 5, 2) := by decide +kernel
theorem dc_S_runCycle_22 : decode cd_S_runCycle 22 = .ok (.lconst 0, 1) := by decide +kernel
theorem dc_S_runCycle_23 : decode cd_S_runCycle 23 = .ok (.lstore 6, 2) := by decide +kernel
theorem dc_S_runCycle_25 : decode cd_S_runCycle 25 = .ok (.iconst 0, 1) := by decide +kernel
theorem dc_S_runCycle_26 : decode cd_S_runCycle 26 = .ok (.istore 8, 2) := by decide +kernel
theorem dc_S_runCycle_28 : decode cd_S_runCycle 28 = .ok (.iload 8, 2) := by decide +kernel
theorem dc_S_runCycle_30 : decode cd_S_runCycle 30 = .ok (.bipush 12, 2) := by decide +kernel
theorem dc_S_runCycle_32 : decode cd_S_runCycle 32 = .ok (.if_icmp .ge 109, 3) := by decide +kernel
theorem dc_S_runCycle_35 : decode cd_S_runCycle 35 = .ok (.aload_n 0, 1) := by decide +kernel
theorem dc_S_runCycle_36 : decode cd_S_runCycle 36 = .ok (.iload_n 1, 1) := by decide +kernel
theorem dc_S_runCycle_37 : decode cd_S_runCycle 37 = .ok (.iload 8, 2) := by decide +kernel
theorem dc_S_runCycle_39 : decode cd_S_runCycle 39 = .ok (.invokevirtual 294, 3) := by decide +kernel
theorem dc_S_runCycle_42 : decode cd_S_runCycle 42 = .ok (.istore 9, 2) := by decide +kernel
theorem dc_S_runCycle_44 : decode cd_S_runCycle 44 = .ok (.iload 9, 2) := by decide +kernel
theorem dc_S_runCycle_46 : decode cd_S_runCycle 46 = .ok (.iconst (-1), 1) := by decide +kernel
theorem dc_S_runCycle_47 : decode cd_S_runCycle 47 = .ok (.if_icmp .eq 88, 3) := by decide +kernel
theorem dc_S_runCycle_50 : decode cd_S_runCycle 50 = .ok (.aload_n 0, 1) := by decide +kernel
theorem dc_S_runCycle_51 : decode cd_S_runCycle 51 = .ok (.getfield 25, 3) := by decide +kernel
theorem dc_S_runCycle_54 : decode cd_S_runCycle 54 = .ok (.iload 9, 2) := by decide +kernel
theorem dc_S_runCycle_56 : decode cd_S_runCycle 56 = .ok (.aaload, 1) := by decide +kernel
theorem dc_S_runCycle_57 : decode cd_S_runCycle 57 = .ok (.getfield 136, 3) := by decide +kernel
theorem dc_S_runCycle_60 : decode cd_S_runCycle 60 = .ok (.ifCond .le 75, 3) := by decide +kernel
theorem dc_S_runCycle_63 : decode cd_S_runCycle 63 = .ok (.iload 5, 2) := by decide +kernel
theorem dc_S_runCycle_65 : decode cd_S_runCycle 65 = .ok (.aload_n 0, 1) := by decide +kernel
theorem dc_S_runCycle_66 : decode cd_S_runCycle 66 = .ok (.getfield 25, 3) := by decide +kernel
theorem dc_S_runCycle_69 : decode cd_S_runCycle 69 = .ok (.iload 9, 2) := by decide +kernel
theorem dc_S_runCycle_71 : decode cd_S_runCycle 71 = .ok (.aaload, 1) := by decide +kernel
theorem dc_S_runCycle_72 : decode cd_S_runCycle 72 = .ok (.getfield 133, 3) := by decide +kernel
theorem dc_S_runCycle_75 : decode cd_S_runCycle 75 = .ok (.ishr, 1) := by decide +kernel
theorem dc_S_runCycle_76 : decode cd_S_runCycle 76 = .ok (.iconst 1, 1) := by decide +kernel
theorem dc_S_runCycle_77 : decode cd_S_runCycle 77 = .ok (.iand, 1) := by decide +kernel
theorem dc_S_runCycle_78 : decode cd_S_runCycle 78 = .ok (.ifCond .ne 7, 3) := by decide +kernel
theorem dc_S_runCycle_81 : decode cd_S_runCycle 81 = .ok (.iconst 1, 1) := by decide +kernel
theorem dc_S_runCycle_82 : decode cd_S_runCycle 82 = .ok (.goto 4, 3) := by decide +kernel
theorem dc_S_runCycle_85 : decode cd_S_runCycle 85 = .ok (.iconst 0, 1) := by decide +kernel
theorem dc_S_runCycle_86 : decode cd_S_runCycle 86 = .ok (.istore 10, 2) := by decide +kernel
theorem dc_S_runCycle_88 : decode cd_S_runCycle 88 = .ok (.iload 10, 2) := by decide +kernel
theorem dc_S_runCycle_90 : decode cd_S_runCycle 90 = .ok (.ifCond .eq 45, 3) := by decide +kernel
theorem dc_S_runCycle_93 : decode cd_S_runCycle 93 = .ok (.lload 6, 2) := by decide +kernel
theorem dc_S_runCycle_95 : decode cd_S_runCycle 95 = .ok (.aload_n 0, 1) := by decide +kernel
theorem dc_S_runCycle_96 : decode cd_S_runCycle 96 = .ok (.getfield 25, 3) := by decide +kernel
theorem dc_S_runCycle_99 : decode cd_S_runCycle 99 = .ok (.iload 9, 2) := by decide +kernel
theorem dc_S_runCycle_101 : decode cd_S_runCycle 101 = .ok (.aaload, 1) := by decide +kernel
theorem dc_S_runCycle_102 : decode cd_S_runCycle 102 = .ok (.getfield 136, 3) := by decide +kernel
theorem dc_S_runCycle_105 : decode cd_S_runCycle 105 = .ok (.i2l, 1) := by decide +kernel
theorem dc_S_runCycle_106 : decode cd_S_runCycle 106 = .ok (.ladd, 1) := by decide +kernel
theorem dc_S_runCycle_107 : decode cd_S_runCycle 107 = .ok (.lload_n 3, 1) := by decide +kernel
theorem dc_S_runCycle_108 : decode cd_S_runCycle 108 = .ok (.lcmp, 1) := by decide +kernel
theorem dc_S_runCycle_109 : decode cd_S_runCycle 109 = .ok (.ifCond .gt 26, 3) := by decide +kernel
theorem dc_S_runCycle_112 : decode cd_S_runCycle 112 = .ok (.lload 6, 2) := by decide +kernel
theorem dc_S_runCycle_114 : decode cd_S_runCycle 114 = .ok (.aload_n 0, 1) := by decide +kernel
theorem dc_S_runCycle_115 : decode cd_S_runCycle 115 = .ok (.getfield 25, 3) := by decide +kernel
theorem dc_S_runCycle_118 : decode cd_S_runCycle 118 = .ok (.iload 9, 2) := by decide +kernel
theorem dc_S_runCycle_120 : decode cd_S_runCycle 120 = .ok (.aaload, 1) := by decide +kernel
theorem dc_S_runCycle_121 : decode cd_S_runCycle 121 = .ok (.getfield 136, 3) := by decide +kernel
theorem dc_S_runCycle_124 : decode cd_S_runCycle 124 = .ok (.i2l, 1) := by decide +kernel
theorem dc_S_runCycle_125 : decode cd_S_runCycle 125 = .ok (.ladd, 1) := by decide +kernel
theorem dc_S_runCycle_126 : decode cd_S_runCycle 126 = .ok (.lstore 6, 2) := by decide +kernel
theorem dc_S_runCycle_128 : decode cd_S_runCycle 128 = .ok (.aload_n 0, 1) := by decide +kernel
theorem dc_S_runCycle_129 : decode cd_S_runCycle 129 = .ok (.iload_n 1, 1) := by decide +kernel
theorem dc_S_runCycle_130 : decode cd_S_runCycle 130 = .ok (.iload 9, 2) := by decide +kernel
theorem dc_S_runCycle_132 : decode cd_S_runCycle 132 = .ok (.invokevirtual 297, 3) := by decide +kernel
theorem dc_S_runCycle_135 : decode cd_S_runCycle 135 = .ok (.iinc 8 1, 3) := by decide +kernel
theorem dc_S_runCycle_138 : decode cd_S_runCycle 138 = .ok (.goto (-110), 3) := by decide +kernel
theorem dc_S_runCycle_141 : decode cd_S_runCycle 141 = .ok (.return_, 1) := by decide +kernel
theorem dc_S_nodeWithNumber_0 : decode cd_S_nodeWithNumber 0 = .ok (.iconst 0, 1) := by decide +kernel
theorem dc_S_nodeWithNumber_1 : decode cd_S_nodeWithNumber 1 = .ok (.istore_n 3, 1) := by decide +kernel
theorem dc_S_nodeWithNumber_2 : decode cd_S_nodeWithNumber 2 = .ok (.iload_n 3, 1) := by decide +kernel
theorem dc_S_nodeWithNumber_3 : decode cd_S_nodeWithNumber 3 = .ok (.bipush 12, 2) := by decide +kernel
theorem dc_S_nodeWithNumber_5 : decode cd_S_nodeWithNumber 5 = .ok (.if_icmp .ge 36, 3) := by decide +kernel
theorem dc_S_nodeWithNumber_8 : decode cd_S_nodeWithNumber 8 = .ok (.aload_n 0, 1) := by decide +kernel
theorem dc_S_nodeWithNumber_9 : decode cd_S_nodeWithNumber 9 = .ok (.getfield 12, 3) := by decide +kernel
theorem dc_S_nodeWithNumber_12 : decode cd_S_nodeWithNumber 12 = .ok (.iload_n 3, 1) := by decide +kernel
theorem dc_S_nodeWithNumber_13 : decode cd_S_nodeWithNumber 13 = .ok (.invokevirtual 168, 3) := by decide +kernel
theorem dc_S_nodeWithNumber_16 : decode cd_S_nodeWithNumber 16 = .ok (.iload_n 1, 1) := by decide +kernel
theorem dc_S_nodeWithNumber_17 : decode cd_S_nodeWithNumber 17 = .ok (.if_icmp .ne 18, 3) := by decide +kernel
theorem dc_S_nodeWithNumber_20 : decode cd_S_nodeWithNumber 20 = .ok (.aload_n 0, 1) := by decide +kernel
theorem dc_S_nodeWithNumber_21 : decode cd_S_nodeWithNumber 21 = .ok (.getfield 25, 3) := by decide +kernel
theorem dc_S_nodeWithNumber_24 : decode cd_S_nodeWithNumber 24 = .ok (.iload_n 3, 1) := by decide +kernel
theorem dc_S_nodeWithNumber_25 : decode cd_S_nodeWithNumber 25 = .ok (.aaload, 1) := by decide +kernel
theorem dc_S_nodeWithNumber_26 : decode cd_S_nodeWithNumber 26 = .ok (.getfield 175, 3) := by decide +kernel
theorem dc_S_nodeWithNumber_29 : decode cd_S_nodeWithNumber 29 = .ok (.iload_n 2, 1) := by decide +kernel
theorem dc_S_nodeWithNumber_30 : decode cd_S_nodeWithNumber 30 = .ok (.if_icmp .ne 5, 3) := by decide +kernel
theorem dc_S_nodeWithNumber_33 : decode cd_S_nodeWithNumber 33 = .ok (.iload_n 3, 1) := by decide +kernel
theorem dc_S_nodeWithNumber_34 : decode cd_S_nodeWithNumber 34 = .ok (.ireturn, 1) := by decide +kernel
theorem dc_S_nodeWithNumber_35 : decode cd_S_nodeWithNumber 35 = .ok (.iinc 3 1, 3) := by decide +kernel
theorem dc_S_nodeWithNumber_38 : decode cd_S_nodeWithNumber 38 = .ok (.goto (-36), 3) := by decide +kernel
theorem dc_S_nodeWithNumber_41 : decode cd_S_nodeWithNumber 41 = .ok (.iconst (-1), 1) := by decide +kernel
theorem dc_S_nodeWithNumber_42 : decode cd_S_nodeWithNumber 42 = .ok (.ireturn, 1) := by decide +kernel
theorem dc_S_letOthersHear_0 : decode cd_S_letOthersHear 0 = .ok (.iconst 0, 1) := by decide +kernel
theorem dc_S_letOthersHear_1 : decode cd_S_letOthersHear 1 = .ok (.istore_n 3, 1) := by decide +kernel
theorem dc_S_letOthersHear_2 : decode cd_S_letOthersHear 2 = .ok (.iload_n 3, 1) := by decide +kernel
theorem dc_S_letOthersHear_3 : decode cd_S_letOthersHear 3 = .ok (.bipush 12, 2) := by decide +kernel
theorem dc_S_letOthersHear_5 : decode cd_S_letOthersHear 5 = .ok (.if_icmp .ge 41, 3) := by decide +kernel
theorem dc_S_letOthersHear_8 : decode cd_S_letOthersHear 8 = .ok (.aload_n 0, 1) := by decide +kernel
theorem dc_S_letOthersHear_9 : decode cd_S_letOthersHear 9 = .ok (.getfield 12, 3) := by decide +kernel
theorem dc_S_letOthersHear_12 : decode cd_S_letOthersHear 12 = .ok (.iload_n 3, 1) := by decide +kernel
theorem dc_S_letOthersHear_13 : decode cd_S_letOthersHear 13 = .ok (.invokevirtual 168, 3) := by decide +kernel
theorem dc_S_letOthersHear_16 : decode cd_S_letOthersHear 16 = .ok (.iload_n 1, 1) := by decide +kernel
theorem dc_S_letOthersHear_17 : decode cd_S_letOthersHear 17 = .ok (.if_icmp .ne 23, 3) := by decide +kernel
theorem dc_S_letOthersHear_20 : decode cd_S_letOthersHear 20 = .ok (.iload_n 3, 1) := by decide +kernel
theorem dc_S_letOthersHear_21 : decode cd_S_letOthersHear 21 = .ok (.iload_n 2, 1) := by decide +kernel
theorem dc_S_letOthersHear_22 : decode cd_S_letOthersHear 22 = .ok (.if_icmp .eq 18, 3) := by decide +kernel
theorem dc_S_letOthersHear_25 : decode cd_S_letOthersHear 25 = .ok (.aload_n 0, 1) := by decide +kernel
theorem dc_S_letOthersHear_26 : decode cd_S_letOthersHear 26 = .ok (.getfield 25, 3) := by decide +kernel
theorem dc_S_letOthersHear_29 : decode cd_S_letOthersHear 29 = .ok (.iload_n 3, 1) := by decide +kernel
theorem dc_S_letOthersHear_30 : decode cd_S_letOthersHear 30 = .ok (.aaload, 1) := by decide +kernel
theorem dc_S_letOthersHear_31 : decode cd_S_letOthersHear 31 = .ok (.dup, 1) := by decide +kernel
theorem dc_S_letOthersHear_32 : decode cd_S_letOthersHear 32 = .ok (.getfield 190, 3) := by decide +kernel
theorem dc_S_letOthersHear_35 : decode cd_S_letOthersHear 35 = .ok (.iconst 1, 1) := by decide +kernel
theorem dc_S_letOthersHear_36 : decode cd_S_letOthersHear 36 = .ok (.iadd, 1) := by decide +kernel
theorem dc_S_letOthersHear_37 : decode cd_S_letOthersHear 37 = .ok (.putfield 190, 3) := by decide +kernel
theorem dc_S_letOthersHear_40 : decode cd_S_letOthersHear 40 = .ok (.iinc 3 1, 3) := by decide +kernel
theorem dc_S_letOthersHear_43 : decode cd_S_letOthersHear 43 = .ok (.goto (-41), 3) := by decide +kernel
theorem dc_S_letOthersHear_46 : decode cd_S_letOthersHear 46 = .ok (.aload_n 0, 1) := by decide +kernel
theorem dc_S_letOthersHear_47 : decode cd_S_letOthersHear 47 = .ok (.dup, 1) := by decide +kernel
theorem dc_S_letOthersHear_48 : decode cd_S_letOthersHear 48 = .ok (.getfield 214, 3) := by decide +kernel
theorem dc_S_letOthersHear_51 : decode cd_S_letOthersHear 51 = .ok (.iconst 1, 1) := by decide +kernel
theorem dc_S_letOthersHear_52 : decode cd_S_letOthersHear 52 = .ok (.iadd, 1) := by decide +kernel
theorem dc_S_letOthersHear_53 : decode cd_S_letOthersHear 53 = .ok (.putfield 214, 3) := by decide +kernel
theorem dc_S_letOthersHear_56 : decode cd_S_letOthersHear 56 = .ok (.return_, 1) := by decide +kernel
theorem dc_S_endLateRequests_0 : decode cd_S_endLateRequests 0 = .ok (.iconst 0, 1) := by decide +kernel
theorem dc_S_endLateRequests_1 : decode cd_S_endLateRequests 1 = .ok (.istore_n 1, 1) := by decide +kernel
theorem dc_S_endLateRequests_2 : decode cd_S_endLateRequests 2 = .ok (.iload_n 1, 1) := by decide +kernel
theorem dc_S_endLateRequests_3 : decode cd_S_endLateRequests 3 = .ok (.bipush 12, 2) := by decide +kernel
theorem dc_S_endLateRequests_5 : decode cd_S_endLateRequests 5 = .ok (.if_icmp .ge 22, 3) := by decide +kernel
theorem dc_S_endLateRequests_8 : decode cd_S_endLateRequests 8 = .ok (.aload_n 0, 1) := by decide +kernel
theorem dc_S_endLateRequests_9 : decode cd_S_endLateRequests 9 = .ok (.getfield 25, 3) := by decide +kernel
theorem dc_S_endLateRequests_12 : decode cd_S_endLateRequests 12 = .ok (.iload_n 1, 1) := by decide +kernel
theorem dc_S_endLateRequests_13 : decode cd_S_endLateRequests 13 = .ok (.aaload, 1) := by decide +kernel
theorem dc_S_endLateRequests_14 : decode cd_S_endLateRequests 14 = .ok (.aload_n 0, 1) := by decide +kernel
theorem dc_S_endLateRequests_15 : decode cd_S_endLateRequests 15 = .ok (.getfield 115, 3) := by decide +kernel
theorem dc_S_endLateRequests_18 : decode cd_S_endLateRequests 18 = .ok (.invokevirtual 300, 3) := by decide +kernel
theorem dc_S_endLateRequests_21 : decode cd_S_endLateRequests 21 = .ok (.iinc 1 1, 3) := by decide +kernel
theorem dc_S_endLateRequests_24 : decode cd_S_endLateRequests 24 = .ok (.goto (-22), 3) := by decide +kernel
theorem dc_S_endLateRequests_27 : decode cd_S_endLateRequests 27 = .ok (.return_, 1) := by decide +kernel
end
section
theorem dc_M_init_0 : decode cd_M_init 0 = .ok (.aload_n 0, 1) := by decide +kernel
theorem dc_M_init_1 : decode cd_M_init 1 = .ok (.invokespecial 1, 3) := by decide +kernel
theorem dc_M_init_4 : decode cd_M_init 4 = .ok (.aload_n 0, 1) := by decide +kernel
theorem dc_M_init_5 : decode cd_M_init 5 = .ok (.bipush 36, 2) := by decide +kernel
theorem dc_M_init_7 : decode cd_M_init 7 = .ok (.newarray .int, 2) := by decide +kernel
theorem dc_M_init_9 : decode cd_M_init 9 = .ok (.putfield 7, 3) := by decide +kernel
theorem dc_M_init_12 : decode cd_M_init 12 = .ok (.aload_n 0, 1) := by decide +kernel
theorem dc_M_init_13 : decode cd_M_init 13 = .ok (.bipush 36, 2) := by decide +kernel
theorem dc_M_init_15 : decode cd_M_init 15 = .ok (.newarray .boolean, 2) := by decide +kernel
theorem dc_M_init_17 : decode cd_M_init 17 = .ok (.putfield 13, 3) := by decide +kernel
theorem dc_M_init_20 : decode cd_M_init 20 = .ok (.aload_n 0, 1) := by decide +kernel
theorem dc_M_init_21 : decode cd_M_init 21 = .ok (.bipush 12, 2) := by decide +kernel
theorem dc_M_init_23 : decode cd_M_init 23 = .ok (.newarray .int, 2) := by decide +kernel
theorem dc_M_init_25 : decode cd_M_init 25 = .ok (.putfield 17, 3) := by decide +kernel
theorem dc_M_init_28 : decode cd_M_init 28 = .ok (.aload_n 0, 1) := by decide +kernel
theorem dc_M_init_29 : decode cd_M_init 29 = .ok (.bipush 12, 2) := by decide +kernel
theorem dc_M_init_31 : decode cd_M_init 31 = .ok (.newarray .int, 2) := by decide +kernel
theorem dc_M_init_33 : decode cd_M_init 33 = .ok (.putfield 20, 3) := by decide +kernel
theorem dc_M_init_36 : decode cd_M_init 36 = .ok (.aload_n 0, 1) := by decide +kernel
theorem dc_M_init_37 : decode cd_M_init 37 = .ok (.bipush 12, 2) := by decide +kernel
theorem dc_M_init_39 : decode cd_M_init 39 = .ok (.newarray .int, 2) := by decide +kernel
theorem dc_M_init_41 : decode cd_M_init 41 = .ok (.putfield 23, 3) := by decide +kernel
theorem dc_M_init_44 : decode cd_M_init 44 = .ok (.aload_n 0, 1) := by decide +kernel
theorem dc_M_init_45 : decode cd_M_init 45 = .ok (.bipush 12, 2) := by decide +kernel
theorem dc_M_init_47 : decode cd_M_init 47 = .ok (.newarray .int, 2) := by decide +kernel
theorem dc_M_init_49 : decode cd_M_init 49 = .ok (.putfield 26, 3) := by decide +kernel
theorem dc_M_init_52 : decode cd_M_init 52 = .ok (.aload_n 0, 1) := by decide +kernel
theorem dc_M_init_53 : decode cd_M_init 53 = .ok (.bipush 12, 2) := by decide +kernel
theorem dc_M_init_55 : decode cd_M_init 55 = .ok (.newarray .int, 2) := by decide +kernel
theorem dc_M_init_57 : decode cd_M_init 57 = .ok (.putfield 29, 3) := by decide +kernel
theorem dc_M_init_60 : decode cd_M_init 60 = .ok (.aload_n 0, 1) := by decide +kernel
theorem dc_M_init_61 : decode cd_M_init 61 = .ok (.bipush 12, 2) := by decide +kernel
theorem dc_M_init_63 : decode cd_M_init 63 = .ok (.newarray .boolean, 2) := by decide +kernel
theorem dc_M_init_65 : decode cd_M_init 65 = .ok (.putfield 32, 3) := by decide +kernel
theorem dc_M_init_68 : decode cd_M_init 68 = .ok (.aload_n 0, 1) := by decide +kernel
theorem dc_M_init_69 : decode cd_M_init 69 = .ok (.bipush 12, 2) := by decide +kernel
theorem dc_M_init_71 : decode cd_M_init 71 = .ok (.newarray .boolean, 2) := by decide +kernel
theorem dc_M_init_73 : decode cd_M_init 73 = .ok (.putfield 35, 3) := by decide +kernel
theorem dc_M_init_76 : decode cd_M_init 76 = .ok (.aload_n 0, 1) := by decide +kernel
theorem dc_M_init_77 : decode cd_M_init 77 = .ok (.bipush 12, 2) := by decide +kernel
theorem dc_M_init_79 : decode cd_M_init 79 = .ok (.newarray .boolean, 2) := by decide +kernel
theorem dc_M_init_81 : decode cd_M_init 81 = .ok (.putfield 38, 3) := by decide +kernel
theorem dc_M_init_84 : decode cd_M_init 84 = .ok (.aload_n 0, 1) := by decide +kernel
theorem dc_M_init_85 : decode cd_M_init 85 = .ok (.bipush 12, 2) := by decide +kernel
theorem dc_M_init_87 : decode cd_M_init 87 = .ok (.newarray .boolean, 2) := by decide +kernel
theorem dc_M_init_89 : decode cd_M_init 89 = .ok (.putfield 41, 3) := by decide +kernel
theorem dc_M_init_92 : decode cd_M_init 92 = .ok (.aload_n 0, 1) := by decide +kernel
theorem dc_M_init_93 : decode cd_M_init 93 = .ok (.bipush 12, 2) := by decide +kernel
theorem dc_M_init_95 : decode cd_M_init 95 = .ok (.newarray .boolean, 2) := by decide +kernel
theorem dc_M_init_97 : decode cd_M_init 97 = .ok (.putfield 44, 3) := by decide +kernel
theorem dc_M_init_100 : decode cd_M_init 100 = .ok (.aload_n 0, 1) := by decide +kernel
theorem dc_M_init_101 : decode cd_M_init 101 = .ok (.bipush 96, 2) := by decide +kernel
theorem dc_M_init_103 : decode cd_M_init 103 = .ok (.newarray .int, 2) := by decide +kernel
theorem dc_M_init_105 : decode cd_M_init 105 = .ok (.putfield 47, 3) := by decide +kernel
theorem dc_M_init_108 : decode cd_M_init 108 = .ok (.aload_n 0, 1) := by decide +kernel
theorem dc_M_init_109 : decode cd_M_init 109 = .ok (.bipush 12, 2) := by decide +kernel
theorem dc_M_init_111 : decode cd_M_init 111 = .ok (.newarray .int, 2) := by decide +kernel
theorem dc_M_init_113 : decode cd_M_init 113 = .ok (.putfield 50, 3) := by decide +kernel
theorem dc_M_init_116 : decode cd_M_init 116 = .ok (.aload_n 0, 1) := by decide +kernel
theorem dc_M_init_117 : decode cd_M_init 117 = .ok (.bipush 12, 2) := by decide +kernel
theorem dc_M_init_119 : decode cd_M_init 119 = .ok (.newarray .int, 2) := by decide +kernel
theorem dc_M_init_121 : decode cd_M_init 121 = .ok (.putfield 53, 3) := by decide +kernel
theorem dc_M_init_124 : decode cd_M_init 124 = .ok (.aload_n 0, 1) := by decide +kernel
theorem dc_M_init_125 : decode cd_M_init 125 = .ok (.bipush 12, 2) := by decide +kernel
theorem dc_M_init_127 : decode cd_M_init 127 = .ok (.newarray .int, 2) := by decide +kernel
theorem dc_M_init_129 : decode cd_M_init 129 = .ok (.putfield 56, 3) := by decide +kernel
theorem dc_M_init_132 : decode cd_M_init 132 = .ok (.aload_n 0, 1) := by decide +kernel
theorem dc_M_init_133 : decode cd_M_init 133 = .ok (.bipush 12, 2) := by decide +kernel
theorem dc_M_init_135 : decode cd_M_init 135 = .ok (.newarray .int, 2) := by decide +kernel
theorem dc_M_init_137 : decode cd_M_init 137 = .ok (.putfield 59, 3) := by decide +kernel
theorem dc_M_init_140 : decode cd_M_init 140 = .ok (.aload_n 0, 1) := by decide +kernel
theorem dc_M_init_141 : decode cd_M_init 141 = .ok (.bipush 12, 2) := by decide +kernel
theorem dc_M_init_143 : decode cd_M_init 143 = .ok (.newarray .int, 2) := by decide +kernel
theorem dc_M_init_145 : decode cd_M_init 145 = .ok (.putfield 62, 3) := by decide +kernel
theorem dc_M_init_148 : decode cd_M_init 148 = .ok (.aload_n 0, 1) := by decide +kernel
theorem dc_M_init_149 : decode cd_M_init 149 = .ok (.bipush 12, 2) := by decide +kernel
theorem dc_M_init_151 : decode cd_M_init 151 = .ok (.newarray .boolean, 2) := by decide +kernel
theorem dc_M_init_153 : decode cd_M_init 153 = .ok (.putfield 65, 3) := by decide +kernel
theorem dc_M_init_156 : decode cd_M_init 156 = .ok (.aload_n 0, 1) := by decide +kernel
theorem dc_M_init_157 : decode cd_M_init 157 = .ok (.bipush 48, 2) := by decide +kernel
theorem dc_M_init_159 : decode cd_M_init 159 = .ok (.newarray .int, 2) := by decide +kernel
theorem dc_M_init_161 : decode cd_M_init 161 = .ok (.putfield 68, 3) := by decide +kernel
theorem dc_M_init_164 : decode cd_M_init 164 = .ok (.aload_n 0, 1) := by decide +kernel
theorem dc_M_init_165 : decode cd_M_init 165 = .ok (.bipush 48, 2) := by decide +kernel
theorem dc_M_init_167 : decode cd_M_init 167 = .ok (.newarray .int, 2) := by decide +kernel
theorem dc_M_init_169 : decode cd_M_init 169 = .ok (.putfield 71, 3) := by decide +kernel
theorem dc_M_init_172 : decode cd_M_init 172 = .ok (.aload_n 0, 1) := by decide +kernel
theorem dc_M_init_173 : decode cd_M_init 173 = .ok (.bipush 48, 2) := by decide +kernel
theorem dc_M_init_175 : decode cd_M_init 175 = .ok (.newarray .int, 2) := by decide +kernel
theorem dc_M_init_177 : decode cd_M_init 177 = .ok (.putfield 74, 3) := by decide +kernel
theorem dc_M_init_180 : decode cd_M_init 180 = .ok (.aload_n 0, 1) := by decide +kernel
theorem dc_M_init_181 : decode cd_M_init 181 = .ok (.bipush 48, 2) := by decide +kernel
theorem dc_M_init_183 : decode cd_M_init 183 = .ok (.newarray .int, 2) := by decide +kernel
theorem dc_M_init_185 : decode cd_M_init 185 = .ok (.putfield 77, 3) := by decide +kernel
theorem dc_M_init_188 : decode cd_M_init 188 = .ok (.aload_n 0, 1) := by decide +kernel
theorem dc_M_init_189 : decode cd_M_init 189 = .ok (.bipush 48, 2) := by decide +kernel
theorem dc_M_init_191 : decode cd_M_init 191 = .ok (.newarray .int, 2) := by decide +kernel
theorem dc_M_init_193 : decode cd_M_init 193 = .ok (.putfield 80, 3) := by decide +kernel
theorem dc_M_init_196 : decode cd_M_init 196 = .ok (.aload_n 0, 1) := by decide +kernel
theorem dc_M_init_197 : decode cd_M_init 197 = .ok (.bipush 48, 2) := by decide +kernel
theorem dc_M_init_199 : decode cd_M_init 199 = .ok (.newarray .int, 2) := by decide +kernel
theorem dc_M_init_201 : decode cd_M_init 201 = .ok (.putfield 83, 3) := by decide +kernel
theorem dc_M_init_204 : decode cd_M_init 204 = .ok (.aload_n 0, 1) := by decide +kernel
theorem dc_M_init_205 : decode cd_M_init 205 = .ok (.bipush 48, 2) := by decide +kernel
theorem dc_M_init_207 : decode cd_M_init 207 = .ok (.newarray .int, 2) := by decide +kernel
theorem dc_M_init_209 : decode cd_M_init 209 = .ok (.putfield 86, 3) := by decide +kernel
theorem dc_M_init_212 : decode cd_M_init 212 = .ok (.aload_n 0, 1) := by decide +kernel
theorem dc_M_init_213 : decode cd_M_init 213 = .ok (.bipush 48, 2) := by decide +kernel
theorem dc_M_init_215 : decode cd_M_init 215 = .ok (.newarray .int, 2) := by decide +kernel
theorem dc_M_init_217 : decode cd_M_init 217 = .ok (.putfield 89, 3) := by decide +kernel
theorem dc_M_init_220 : decode cd_M_init 220 = .ok (.aload_n 0, 1) := by decide +kernel
theorem dc_M_init_221 : decode cd_M_init 221 = .ok (.bipush 48, 2) := by decide +kernel
theorem dc_M_init_223 : decode cd_M_init 223 = .ok (.newarray .int, 2) := by decide +kernel
theorem dc_M_init_225 : decode cd_M_init 225 = .ok (.putfield 92, 3) := by decide +kernel
theorem dc_M_init_228 : decode cd_M_init 228 = .ok (.aload_n 0, 1) := by decide +kernel
theorem dc_M_init_229 : decode cd_M_init 229 = .ok (.bipush 72, 2) := by decide +kernel
theorem dc_M_init_231 : decode cd_M_init 231 = .ok (.newarray .int, 2) := by decide +kernel
theorem dc_M_init_233 : decode cd_M_init 233 = .ok (.putfield 95, 3) := by decide +kernel
theorem dc_M_init_236 : decode cd_M_init 236 = .ok (.aload_n 0, 1) := by decide +kernel
theorem dc_M_init_237 : decode cd_M_init 237 = .ok (.bipush 72, 2) := by decide +kernel
theorem dc_M_init_239 : decode cd_M_init 239 = .ok (.newarray .int, 2) := by decide +kernel
theorem dc_M_init_241 : decode cd_M_init 241 = .ok (.putfield 98, 3) := by decide +kernel
theorem dc_M_init_244 : decode cd_M_init 244 = .ok (.aload_n 0, 1) := by decide +kernel
theorem dc_M_init_245 : decode cd_M_init 245 = .ok (.bipush 72, 2) := by decide +kernel
theorem dc_M_init_247 : decode cd_M_init 247 = .ok (.newarray .int, 2) := by decide +kernel
theorem dc_M_init_249 : decode cd_M_init 249 = .ok (.putfield 101, 3) := by decide +kernel
theorem dc_M_init_252 : decode cd_M_init 252 = .ok (.aload_n 0, 1) := by decide +kernel
theorem dc_M_init_253 : decode cd_M_init 253 = .ok (.bipush 72, 2) := by decide +kernel
theorem dc_M_init_255 : decode cd_M_init 255 = .ok (.newarray .int, 2) := by decide +kernel
theorem dc_M_init_257 : decode cd_M_init 257 = .ok (.putfield 104, 3) := by decide +kernel
theorem dc_M_init_260 : decode cd_M_init 260 = .ok (.aload_n 0, 1) := by decide +kernel
theorem dc_M_init_261 : decode cd_M_init 261 = .ok (.bipush 72, 2) := by decide +kernel
theorem dc_M_init_263 : decode cd_M_init 263 = .ok (.newarray .boolean, 2) := by decide +kernel
theorem dc_M_init_265 : decode cd_M_init 265 = .ok (.putfield 107, 3) := by decide +kernel
theorem dc_M_init_268 : decode cd_M_init 268 = .ok (.aload_n 0, 1) := by decide +kernel
theorem dc_M_init_269 : decode cd_M_init 269 = .ok (.bipush 12, 2) := by decide +kernel
theorem dc_M_init_271 : decode cd_M_init 271 = .ok (.newarray .int, 2) := by decide +kernel
theorem dc_M_init_273 : decode cd_M_init 273 = .ok (.putfield 110, 3) := by decide +kernel
theorem dc_M_init_276 : decode cd_M_init 276 = .ok (.aload_n 0, 1) := by decide +kernel
theorem dc_M_init_277 : decode cd_M_init 277 = .ok (.bipush 20, 2) := by decide +kernel
theorem dc_M_init_279 : decode cd_M_init 279 = .ok (.putfield 113, 3) := by decide +kernel
theorem dc_M_init_282 : decode cd_M_init 282 = .ok (.iconst 0, 1) := by decide +kernel
theorem dc_M_init_283 : decode cd_M_init 283 = .ok (.istore_n 1, 1) := by decide +kernel
theorem dc_M_init_284 : decode cd_M_init 284 = .ok (.iload_n 1, 1) := by decide +kernel
theorem dc_M_init_285 : decode cd_M_init 285 = .ok (.bipush 36, 2) := by decide +kernel
theorem dc_M_init_287 : decode cd_M_init 287 = .ok (.if_icmp .ge 16, 3) := by decide +kernel
theorem dc_M_init_290 : decode cd_M_init 290 = .ok (.aload_n 0, 1) := by decide +kernel
theorem dc_M_init_291 : decode cd_M_init 291 = .ok (.getfield 7, 3) := by decide +kernel
theorem dc_M_init_294 : decode cd_M_init 294 = .ok (.iload_n 1, 1) := by decide +kernel
theorem dc_M_init_295 : decode cd_M_init 295 = .ok (.iconst (-1), 1) := by decide +kernel
theorem dc_M_init_296 : decode cd_M_init 296 = .ok (.iastore, 1) := by decide +kernel
theorem dc_M_init_297 : decode cd_M_init 297 = .ok (.iinc 1 1, 3) := by decide +kernel
theorem dc_M_init_300 : decode cd_M_init 300 = .ok (.goto (-16), 3) := by decide +kernel
theorem dc_M_init_303 : decode cd_M_init 303 = .ok (.iconst 0, 1) := by decide +kernel
theorem dc_M_init_304 : decode cd_M_init 304 = .ok (.istore_n 1, 1) := by decide +kernel
theorem dc_M_init_305 : decode cd_M_init 305 = .ok (.iload_n 1, 1) := by decide +kernel
theorem dc_M_init_306 : decode cd_M_init 306 = .ok (.bipush 48, 2) := by decide +kernel
theorem dc_M_init_308 : decode cd_M_init 308 = .ok (.if_icmp .ge 17, 3) := by decide +kernel
theorem dc_M_init_311 : decode cd_M_init 311 = .ok (.aload_n 0, 1) := by decide +kernel
theorem dc_M_init_312 : decode cd_M_init 312 = .ok (.getfield 68, 3) := by decide +kernel
theorem dc_M_init_315 : decode cd_M_init 315 = .ok (.iload_n 1, 1) := by decide +kernel
theorem dc_M_init_316 : decode cd_M_init 316 = .ok (.bipush (-2), 2) := by decide +kernel
theorem dc_M_init_318 : decode cd_M_init 318 = .ok (.iastore, 1) := by decide +kernel
theorem dc_M_init_319 : decode cd_M_init 319 = .ok (.iinc 1 1, 3) := by decide +kernel
theorem dc_M_init_322 : decode cd_M_init 322 = .ok (.goto (-17), 3) := by decide +kernel
theorem dc_M_init_325 : decode cd_M_init 325 = .ok (.iconst 0, 1) := by decide +kernel
theorem dc_M_init_326 : decode cd_M_init 326 = .ok (.istore_n 1, 1) := by decide +kernel
theorem dc_M_init_327 : decode cd_M_init 327 = .ok (.iload_n 1, 1) := by decide +kernel
theorem dc_M_init_328 : decode cd_M_init 328 = .ok (.bipush 12, 2) := by decide +kernel
theorem dc_M_init_330 : decode cd_M_init 330 = .ok (.if_icmp .ge 71, 3) := by decide +kernel
theorem dc_M_init_333 : decode cd_M_init 333 = .ok (.aload_n 0, 1) := by decide +kernel
theorem dc_M_init_334 : decode cd_M_init 334 = .ok (.getfield 41, 3) := by decide +kernel
theorem dc_M_init_337 : decode cd_M_init 337 = .ok (.iload_n 1, 1) := by decide +kernel
theorem dc_M_init_338 : decode cd_M_init 338 = .ok (.iconst 1, 1) := by decide +kernel
theorem dc_M_init_339 : decode cd_M_init 339 = .ok (.bastore, 1) := by decide +kernel
theorem dc_M_init_340 : decode cd_M_init 340 = .ok (.aload_n 0, 1) := by decide +kernel
theorem dc_M_init_341 : decode cd_M_init 341 = .ok (.getfield 50, 3) := by decide +kernel
theorem dc_M_init_344 : decode cd_M_init 344 = .ok (.iload_n 1, 1) := by decide +kernel
theorem dc_M_init_345 : decode cd_M_init 345 = .ok (.aload_n 0, 1) := by decide +kernel
theorem dc_M_init_346 : decode cd_M_init 346 = .ok (.getfield 53, 3) := by decide +kernel
theorem dc_M_init_349 : decode cd_M_init 349 = .ok (.iload_n 1, 1) := by decide +kernel
theorem dc_M_init_350 : decode cd_M_init 350 = .ok (.aload_n 0, 1) := by decide +kernel
theorem dc_M_init_351 : decode cd_M_init 351 = .ok (.getfield 56, 3) := by decide +kernel
theorem dc_M_init_354 : decode cd_M_init 354 = .ok (.iload_n 1, 1) := by decide +kernel
theorem dc_M_init_355 : decode cd_M_init 355 = .ok (.aload_n 0, 1) := by decide +kernel
theorem dc_M_init_356 : decode cd_M_init 356 = .ok (.getfield 59, 3) := by decide +kernel
theorem dc_M_init_359 : decode cd_M_init 359 = .ok (.iload_n 1, 1) := by decide +kernel
theorem dc_M_init_360 : decode cd_M_init 360 = .ok (.iconst (-1), 1) := by decide +kernel
theorem dc_M_init_361 : decode cd_M_init 361 = .ok (.dup_x2, 1) := by decide +kernel
theorem dc_M_init_362 : decode cd_M_init 362 = .ok (.iastore, 1) := by decide +kernel
theorem dc_M_init_363 : decode cd_M_init 363 = .ok (.dup_x2, 1) := by decide +kernel
theorem dc_M_init_364 : decode cd_M_init 364 = .ok (.iastore, 1) := by decide +kernel
theorem dc_M_init_365 : decode cd_M_init 365 = .ok (.dup_x2, 1) := by decide +kernel
theorem dc_M_init_366 : decode cd_M_init 366 = .ok (.iastore, 1) := by decide +kernel
theorem dc_M_init_367 : decode cd_M_init 367 = .ok (.iastore, 1) := by decide +kernel
theorem dc_M_init_368 : decode cd_M_init 368 = .ok (.aload_n 0, 1) := by decide +kernel
theorem dc_M_init_369 : decode cd_M_init 369 = .ok (.getfield 47, 3) := by decide +kernel
theorem dc_M_init_372 : decode cd_M_init 372 = .ok (.bipush 8, 2) := by decide +kernel
theorem dc_M_init_374 : decode cd_M_init 374 = .ok (.iload_n 1, 1) := by decide +kernel
theorem dc_M_init_375 : decode cd_M_init 375 = .ok (.imul, 1) := by decide +kernel
theorem dc_M_init_376 : decode cd_M_init 376 = .ok (.bipush 6, 2) := by decide +kernel
theorem dc_M_init_378 : decode cd_M_init 378 = .ok (.iadd, 1) := by decide +kernel
theorem dc_M_init_379 : decode cd_M_init 379 = .ok (.bipush 100, 2) := by decide +kernel
theorem dc_M_init_381 : decode cd_M_init 381 = .ok (.iastore, 1) := by decide +kernel
theorem dc_M_init_382 : decode cd_M_init 382 = .ok (.aload_n 0, 1) := by decide +kernel
theorem dc_M_init_383 : decode cd_M_init 383 = .ok (.getfield 47, 3) := by decide +kernel
theorem dc_M_init_386 : decode cd_M_init 386 = .ok (.bipush 8, 2) := by decide +kernel
theorem dc_M_init_388 : decode cd_M_init 388 = .ok (.iload_n 1, 1) := by decide +kernel
theorem dc_M_init_389 : decode cd_M_init 389 = .ok (.imul, 1) := by decide +kernel
theorem dc_M_init_390 : decode cd_M_init 390 = .ok (.bipush 7, 2) := by decide +kernel
theorem dc_M_init_392 : decode cd_M_init 392 = .ok (.iadd, 1) := by decide +kernel
theorem dc_M_init_393 : decode cd_M_init 393 = .ok (.iconst (-1), 1) := by decide +kernel
theorem dc_M_init_394 : decode cd_M_init 394 = .ok (.iastore, 1) := by decide +kernel
theorem dc_M_init_395 : decode cd_M_init 395 = .ok (.iinc 1 1, 3) := by decide +kernel
theorem dc_M_init_398 : decode cd_M_init 398 = .ok (.goto (-71), 3) := by decide +kernel
theorem dc_M_init_401 : decode cd_M_init 401 = .ok (.return_, 1) := by decide +kernel
theorem dc_M_thrown_0 : decode cd_M_thrown 0 = .ok (.aload_n 0, 1) := by decide +kernel
theorem dc_M_thrown_1 : decode cd_M_thrown 1 = .ok (.getfield 117, 3) := by decide +kernel
theorem dc_M_thrown_4 : decode cd_M_thrown 4 = .ok (.ireturn, 1) := by decide +kernel
theorem dc_M_fail_0 : decode cd_M_fail 0 = .ok (.aload_n 0, 1) := by decide +kernel
theorem dc_M_fail_1 : decode cd_M_fail 1 = .ok (.iload_n 1, 1) := by decide +kernel
theorem dc_M_fail_2 : decode cd_M_fail 2 = .ok (.putfield 117, 3) := by decide +kernel
theorem dc_M_fail_5 : decode cd_M_fail 5 = .ok (.iconst 0, 1) := by decide +kernel
theorem dc_M_fail_6 : decode cd_M_fail 6 = .ok (.ireturn, 1) := by decide +kernel
theorem dc_M_out_0 : decode cd_M_out 0 = .ok (.iload_n 0, 1) := by decide +kernel
theorem dc_M_out_1 : decode cd_M_out 1 = .ok (.ifCond .lt 8, 3) := by decide +kernel
theorem dc_M_out_4 : decode cd_M_out 4 = .ok (.iload_n 0, 1) := by decide +kernel
theorem dc_M_out_5 : decode cd_M_out 5 = .ok (.iload_n 1, 1) := by decide +kernel
theorem dc_M_out_6 : decode cd_M_out 6 = .ok (.if_icmp .lt 7, 3) := by decide +kernel
theorem dc_M_out_9 : decode cd_M_out 9 = .ok (.iconst 1, 1) := by decide +kernel
theorem dc_M_out_10 : decode cd_M_out 10 = .ok (.goto 4, 3) := by decide +kernel
theorem dc_M_out_13 : decode cd_M_out 13 = .ok (.iconst 0, 1) := by decide +kernel
theorem dc_M_out_14 : decode cd_M_out 14 = .ok (.ireturn, 1) := by decide +kernel
theorem dc_M_plug_0 : decode cd_M_plug 0 = .ok (.aload_n 0, 1) := by decide +kernel
theorem dc_M_plug_1 : decode cd_M_plug 1 = .ok (.iconst 0, 1) := by decide +kernel
theorem dc_M_plug_2 : decode cd_M_plug 2 = .ok (.putfield 117, 3) := by decide +kernel
theorem dc_M_plug_5 : decode cd_M_plug 5 = .ok (.iload_n 1, 1) := by decide +kernel
theorem dc_M_plug_6 : decode cd_M_plug 6 = .ok (.bipush 12, 2) := by decide +kernel
theorem dc_M_plug_8 : decode cd_M_plug 8 = .ok (.invokestatic 120, 3) := by decide +kernel
theorem dc_M_plug_11 : decode cd_M_plug 11 = .ok (.ifCond .ne 12, 3) := by decide +kernel
theorem dc_M_plug_14 : decode cd_M_plug 14 = .ok (.iload_n 3, 1) := by decide +kernel
theorem dc_M_plug_15 : decode cd_M_plug 15 = .ok (.bipush 12, 2) := by decide +kernel
theorem dc_M_plug_17 : decode cd_M_plug 17 = .ok (.invokestatic 120, 3) := by decide +kernel
theorem dc_M_plug_20 : decode cd_M_plug 20 = .ok (.ifCond .eq 9, 3) := by decide +kernel
theorem dc_M_plug_23 : decode cd_M_plug 23 = .ok (.aload_n 0, 1) := by decide +kernel
theorem dc_M_plug_24 : decode cd_M_plug 24 = .ok (.iconst 1, 1) := by decide +kernel
theorem dc_M_plug_25 : decode cd_M_plug 25 = .ok (.invokevirtual 124, 3) := by decide +kernel
theorem dc_M_plug_28 : decode cd_M_plug 28 = .ok (.ireturn, 1) := by decide +kernel
theorem dc_M_plug_29 : decode cd_M_plug 29 = .ok (.iload_n 2, 1) := by decide +kernel
theorem dc_M_plug_30 : decode cd_M_plug 30 = .ok (.iconst 3, 1) := by decide +kernel
theorem dc_M_plug_31 : decode cd_M_plug 31 = .ok (.invokestatic 120, 3) := by decide +kernel
theorem dc_M_plug_34 : decode cd_M_plug 34 = .ok (.ifCond .ne 17, 3) := by decide +kernel
theorem dc_M_plug_37 : decode cd_M_plug 37 = .ok (.iload 4, 2) := by decide +kernel
theorem dc_M_plug_39 : decode cd_M_plug 39 = .ok (.iconst 3, 1) := by decide +kernel
theorem dc_M_plug_40 : decode cd_M_plug 40 = .ok (.invokestatic 120, 3) := by decide +kernel
theorem dc_M_plug_43 : decode cd_M_plug 43 = .ok (.ifCond .ne 8, 3) := by decide +kernel
theorem dc_M_plug_46 : decode cd_M_plug 46 = .ok (.iload_n 1, 1) := by decide +kernel
theorem dc_M_plug_47 : decode cd_M_plug 47 = .ok (.iload_n 3, 1) := by decide +kernel
theorem dc_M_plug_48 : decode cd_M_plug 48 = .ok (.if_icmp .ne 9, 3) := by decide +kernel
theorem dc_M_plug_51 : decode cd_M_plug 51 = .ok (.aload_n 0, 1) := by decide +kernel
theorem dc_M_plug_52 : decode cd_M_plug 52 = .ok (.iconst 2, 1) := by decide +kernel
theorem dc_M_plug_53 : decode cd_M_plug 53 = .ok (.invokevirtual 124, 3) := by decide +kernel
theorem dc_M_plug_56 : decode cd_M_plug 56 = .ok (.ireturn, 1) := by decide +kernel
theorem dc_M_plug_57 : decode cd_M_plug 57 = .ok (.aload_n 0, 1) := by decide +kernel
theorem dc_M_plug_58 : decode cd_M_plug 58 = .ok (.getfield 7, 3) := by decide +kernel
theorem dc_M_plug_61 : decode cd_M_plug 61 = .ok (.iconst 3, 1) := by decide +kernel
theorem dc_M_plug_62 : decode cd_M_plug 62 = .ok (.iload_n 1, 1) := by decide +kernel
theorem dc_M_plug_63 : decode cd_M_plug 63 = .ok (.imul, 1) := by decide +kernel
theorem dc_M_plug_64 : decode cd_M_plug 64 = .ok (.iload_n 2, 1) := by decide +kernel
theorem dc_M_plug_65 : decode cd_M_plug 65 = .ok (.iadd, 1) := by decide +kernel
theorem dc_M_plug_66 : decode cd_M_plug 66 = .ok (.iaload, 1) := by decide +kernel
theorem dc_M_plug_67 : decode cd_M_plug 67 = .ok (.ifCond .ge 17, 3) := by decide +kernel
theorem dc_M_plug_70 : decode cd_M_plug 70 = .ok (.aload_n 0, 1) := by decide +kernel
theorem dc_M_plug_71 : decode cd_M_plug 71 = .ok (.getfield 7, 3) := by decide +kernel
theorem dc_M_plug_74 : decode cd_M_plug 74 = .ok (.iconst 3, 1) := by decide +kernel
theorem dc_M_plug_75 : decode cd_M_plug 75 = .ok (.iload_n 3, 1) := by decide +kernel
theorem dc_M_plug_76 : decode cd_M_plug 76 = .ok (.imul, 1) := by decide +kernel
theorem dc_M_plug_77 : decode cd_M_plug 77 = .ok (.iload 4, 2) := by decide +kernel
theorem dc_M_plug_79 : decode cd_M_plug 79 = .ok (.iadd, 1) := by decide +kernel
theorem dc_M_plug_80 : decode cd_M_plug 80 = .ok (.iaload, 1) := by decide +kernel
theorem dc_M_plug_81 : decode cd_M_plug 81 = .ok (.ifCond .lt 9, 3) := by decide +kernel
theorem dc_M_plug_84 : decode cd_M_plug 84 = .ok (.aload_n 0, 1) := by decide +kernel
theorem dc_M_plug_85 : decode cd_M_plug 85 = .ok (.iconst 3, 1) := by decide +kernel
theorem dc_M_plug_86 : decode cd_M_plug 86 = .ok (.invokevirtual 124, 3) := by decide +kernel
theorem dc_M_plug_89 : decode cd_M_plug 89 = .ok (.ireturn, 1) := by decide +kernel
theorem dc_M_plug_90 : decode cd_M_plug 90 = .ok (.aload_n 0, 1) := by decide +kernel
theorem dc_M_plug_91 : decode cd_M_plug 91 = .ok (.getfield 7, 3) := by decide +kernel
theorem dc_M_plug_94 : decode cd_M_plug 94 = .ok (.iconst 3, 1) := by decide +kernel
theorem dc_M_plug_95 : decode cd_M_plug 95 = .ok (.iload_n 1, 1) := by decide +kernel
theorem dc_M_plug_96 : decode cd_M_plug 96 = .ok (.imul, 1) := by decide +kernel
theorem dc_M_plug_97 : decode cd_M_plug 97 = .ok (.iload_n 2, 1) := by decide +kernel
theorem dc_M_plug_98 : decode cd_M_plug 98 = .ok (.iadd, 1) := by decide +kernel
theorem dc_M_plug_99 : decode cd_M_plug 99 = .ok (.iconst 3, 1) := by decide +kernel
theorem dc_M_plug_100 : decode cd_M_plug 100 = .ok (.iload_n 3, 1) := by decide +kernel
theorem dc_M_plug_101 : decode cd_M_plug 101 = .ok (.imul, 1) := by decide +kernel
theorem dc_M_plug_102 : decode cd_M_plug 102 = .ok (.iload 4, 2) := by decide +kernel
theorem dc_M_plug_104 : decode cd_M_plug 104 = .ok (.iadd, 1) := by decide +kernel
theorem dc_M_plug_105 : decode cd_M_plug 105 = .ok (.iastore, 1) := by decide +kernel
theorem dc_M_plug_106 : decode cd_M_plug 106 = .ok (.aload_n 0, 1) := by decide +kernel
theorem dc_M_plug_107 : decode cd_M_plug 107 = .ok (.getfield 7, 3) := by decide +kernel
theorem dc_M_plug_110 : decode cd_M_plug 110 = .ok (.iconst 3, 1) := by decide +kernel
theorem dc_M_plug_111 : decode cd_M_plug 111 = .ok (.iload_n 3, 1) := by decide +kernel
theorem dc_M_plug_112 : decode cd_M_plug 112 = .ok (.imul, 1) := by decide +kernel
theorem dc_M_plug_113 : decode cd_M_plug 113 = .ok (.iload 4, 2) := by decide +kernel
theorem dc_M_plug_115 : decode cd_M_plug 115 = .ok (.iadd, 1) := by decide +kernel
theorem dc_M_plug_116 : decode cd_M_plug 116 = .ok (.iconst 3, 1) := by decide +kernel
theorem dc_M_plug_117 : decode cd_M_plug 117 = .ok (.iload_n 1, 1) := by decide +kernel
theorem dc_M_plug_118 : decode cd_M_plug 118 = .ok (.imul, 1) := by decide +kernel
theorem dc_M_plug_119 : decode cd_M_plug 119 = .ok (.iload_n 2, 1) := by decide +kernel
theorem dc_M_plug_120 : decode cd_M_plug 120 = .ok (.iadd, 1) := by decide +kernel
theorem dc_M_plug_121 : decode cd_M_plug 121 = .ok (.iastore, 1) := by decide +kernel
theorem dc_M_plug_122 : decode cd_M_plug 122 = .ok (.aload_n 0, 1) := by decide +kernel
theorem dc_M_plug_123 : decode cd_M_plug 123 = .ok (.getfield 41, 3) := by decide +kernel
theorem dc_M_plug_126 : decode cd_M_plug 126 = .ok (.iload_n 1, 1) := by decide +kernel
theorem dc_M_plug_127 : decode cd_M_plug 127 = .ok (.aload_n 0, 1) := by decide +kernel
theorem dc_M_plug_128 : decode cd_M_plug 128 = .ok (.getfield 41, 3) := by decide +kernel
theorem dc_M_plug_131 : decode cd_M_plug 131 = .ok (.iload_n 3, 1) := by decide +kernel
theorem dc_M_plug_132 : decode cd_M_plug 132 = .ok (.iconst 1, 1) := by decide +kernel
theorem dc_M_plug_133 : decode cd_M_plug 133 = .ok (.dup_x2, 1) := by decide +kernel
theorem dc_M_plug_134 : decode cd_M_plug 134 = .ok (.bastore, 1) := by decide +kernel
theorem dc_M_plug_135 : decode cd_M_plug 135 = .ok (.bastore, 1) := by decide +kernel
theorem dc_M_plug_136 : decode cd_M_plug 136 = .ok (.aload_n 0, 1) := by decide +kernel
theorem dc_M_plug_137 : decode cd_M_plug 137 = .ok (.invokevirtual 128, 3) := by decide +kernel
theorem dc_M_plug_140 : decode cd_M_plug 140 = .ok (.ireturn, 1) := by decide +kernel
theorem dc_M_unplug_0 : decode cd_M_unplug 0 = .ok (.aload_n 0, 1) := by decide +kernel
theorem dc_M_unplug_1 : decode cd_M_unplug 1 = .ok (.iconst 0, 1) := by decide +kernel
theorem dc_M_unplug_2 : decode cd_M_unplug 2 = .ok (.putfield 117, 3) := by decide +kernel
theorem dc_M_unplug_5 : decode cd_M_unplug 5 = .ok (.iload_n 1, 1) := by decide +kernel
theorem dc_M_unplug_6 : decode cd_M_unplug 6 = .ok (.bipush 12, 2) := by decide +kernel
theorem dc_M_unplug_8 : decode cd_M_unplug 8 = .ok (.invokestatic 120, 3) := by decide +kernel
theorem dc_M_unplug_11 : decode cd_M_unplug 11 = .ok (.ifCond .eq 9, 3) := by decide +kernel
theorem dc_M_unplug_14 : decode cd_M_unplug 14 = .ok (.aload_n 0, 1) := by decide +kernel
theorem dc_M_unplug_15 : decode cd_M_unplug 15 = .ok (.iconst 1, 1) := by decide +kernel
theorem dc_M_unplug_16 : decode cd_M_unplug 16 = .ok (.invokevirtual 124, 3) := by decide +kernel
theorem dc_M_unplug_19 : decode cd_M_unplug 19 = .ok (.ireturn, 1) := by decide +kernel
theorem dc_M_unplug_20 : decode cd_M_unplug 20 = .ok (.iload_n 2, 1) := by decide +kernel
theorem dc_M_unplug_21 : decode cd_M_unplug 21 = .ok (.iconst 3, 1) := by decide +kernel
theorem dc_M_unplug_22 : decode cd_M_unplug 22 = .ok (.invokestatic 120, 3) := by decide +kernel
theorem dc_M_unplug_25 : decode cd_M_unplug 25 = .ok (.ifCond .eq 9, 3) := by decide +kernel
theorem dc_M_unplug_28 : decode cd_M_unplug 28 = .ok (.aload_n 0, 1) := by decide +kernel
theorem dc_M_unplug_29 : decode cd_M_unplug 29 = .ok (.iconst 2, 1) := by decide +kernel
theorem dc_M_unplug_30 : decode cd_M_unplug 30 = .ok (.invokevirtual 124, 3) := by decide +kernel
theorem dc_M_unplug_33 : decode cd_M_unplug 33 = .ok (.ireturn, 1) := by decide +kernel
theorem dc_M_unplug_34 : decode cd_M_unplug 34 = .ok (.aload_n 0, 1) := by decide +kernel
theorem dc_M_unplug_35 : decode cd_M_unplug 35 = .ok (.getfield 7, 3) := by decide +kernel
theorem dc_M_unplug_38 : decode cd_M_unplug 38 = .ok (.iconst 3, 1) := by decide +kernel
theorem dc_M_unplug_39 : decode cd_M_unplug 39 = .ok (.iload_n 1, 1) := by decide +kernel
theorem dc_M_unplug_40 : decode cd_M_unplug 40 = .ok (.imul, 1) := by decide +kernel
theorem dc_M_unplug_41 : decode cd_M_unplug 41 = .ok (.iload_n 2, 1) := by decide +kernel
theorem dc_M_unplug_42 : decode cd_M_unplug 42 = .ok (.iadd, 1) := by decide +kernel
theorem dc_M_unplug_43 : decode cd_M_unplug 43 = .ok (.iaload, 1) := by decide +kernel
theorem dc_M_unplug_44 : decode cd_M_unplug 44 = .ok (.istore_n 3, 1) := by decide +kernel
theorem dc_M_unplug_45 : decode cd_M_unplug 45 = .ok (.iload_n 3, 1) := by decide +kernel
theorem dc_M_unplug_46 : decode cd_M_unplug 46 = .ok (.ifCond .ge 9, 3) := by decide +kernel
theorem dc_M_unplug_49 : decode cd_M_unplug 49 = .ok (.aload_n 0, 1) := by decide +kernel
theorem dc_M_unplug_50 : decode cd_M_unplug 50 = .ok (.iconst 3, 1) := by decide +kernel
theorem dc_M_unplug_51 : decode cd_M_unplug 51 = .ok (.invokevirtual 124, 3) := by decide +kernel
theorem dc_M_unplug_54 : decode cd_M_unplug 54 = .ok (.ireturn, 1) := by decide +kernel
theorem dc_M_unplug_55 : decode cd_M_unplug 55 = .ok (.aload_n 0, 1) := by decide +kernel
theorem dc_M_unplug_56 : decode cd_M_unplug 56 = .ok (.getfield 7, 3) := by decide +kernel
theorem dc_M_unplug_59 : decode cd_M_unplug 59 = .ok (.iconst 3, 1) := by decide +kernel
theorem dc_M_unplug_60 : decode cd_M_unplug 60 = .ok (.iload_n 1, 1) := by decide +kernel
theorem dc_M_unplug_61 : decode cd_M_unplug 61 = .ok (.imul, 1) := by decide +kernel
theorem dc_M_unplug_62 : decode cd_M_unplug 62 = .ok (.iload_n 2, 1) := by decide +kernel
theorem dc_M_unplug_63 : decode cd_M_unplug 63 = .ok (.iadd, 1) := by decide +kernel
theorem dc_M_unplug_64 : decode cd_M_unplug 64 = .ok (.aload_n 0, 1) := by decide +kernel
theorem dc_M_unplug_65 : decode cd_M_unplug 65 = .ok (.getfield 7, 3) := by decide +kernel
theorem dc_M_unplug_68 : decode cd_M_unplug 68 = .ok (.iload_n 3, 1) := by decide +kernel
theorem dc_M_unplug_69 : decode cd_M_unplug 69 = .ok (.iconst (-1), 1) := by decide +kernel
theorem dc_M_unplug_70 : decode cd_M_unplug 70 = .ok (.dup_x2, 1) := by decide +kernel
theorem dc_M_unplug_71 : decode cd_M_unplug 71 = .ok (.iastore, 1) := by decide +kernel
theorem dc_M_unplug_72 : decode cd_M_unplug 72 = .ok (.iastore, 1) := by decide +kernel
theorem dc_M_unplug_73 : decode cd_M_unplug 73 = .ok (.aload_n 0, 1) := by decide +kernel
theorem dc_M_unplug_74 : decode cd_M_unplug 74 = .ok (.getfield 41, 3) := by decide +kernel
theorem dc_M_unplug_77 : decode cd_M_unplug 77 = .ok (.iload_n 1, 1) := by decide +kernel
theorem dc_M_unplug_78 : decode cd_M_unplug 78 = .ok (.aload_n 0, 1) := by decide +kernel
theorem dc_M_unplug_79 : decode cd_M_unplug 79 = .ok (.getfield 41, 3) := by decide +kernel
theorem dc_M_unplug_82 : decode cd_M_unplug 82 = .ok (.iload_n 3, 1) := by decide +kernel
theorem dc_M_unplug_83 : decode cd_M_unplug 83 = .ok (.iconst 3, 1) := by decide +kernel
theorem dc_M_unplug_84 : decode cd_M_unplug 84 = .ok (.idiv, 1) := by decide +kernel
theorem dc_M_unplug_85 : decode cd_M_unplug 85 = .ok (.iconst 1, 1) := by decide +kernel
theorem dc_M_unplug_86 : decode cd_M_unplug 86 = .ok (.dup_x2, 1) := by decide +kernel
theorem dc_M_unplug_87 : decode cd_M_unplug 87 = .ok (.bastore, 1) := by decide +kernel
theorem dc_M_unplug_88 : decode cd_M_unplug 88 = .ok (.bastore, 1) := by decide +kernel
theorem dc_M_unplug_89 : decode cd_M_unplug 89 = .ok (.iload_n 3, 1) := by decide +kernel
theorem dc_M_unplug_90 : decode cd_M_unplug 90 = .ok (.iconst 3, 1) := by decide +kernel
theorem dc_M_unplug_91 : decode cd_M_unplug 91 = .ok (.idiv, 1) := by decide +kernel
theorem dc_M_unplug_92 : decode cd_M_unplug 92 = .ok (.ireturn, 1) := by decide +kernel
theorem dc_M_cables_0 : decode cd_M_cables 0 = .ok (.iconst 0, 1) := by decide +kernel
theorem dc_M_cables_1 : decode cd_M_cables 1 = .ok (.istore_n 1, 1) := by decide +kernel
theorem dc_M_cables_2 : decode cd_M_cables 2 = .ok (.iconst 0, 1) := by decide +kernel
theorem dc_M_cables_3 : decode cd_M_cables 3 = .ok (.istore_n 2, 1) := by decide +kernel
theorem dc_M_cables_4 : decode cd_M_cables 4 = .ok (.iload_n 2, 1) := by decide +kernel
theorem dc_M_cables_5 : decode cd_M_cables 5 = .ok (.bipush 36, 2) := by decide +kernel
theorem dc_M_cables_7 : decode cd_M_cables 7 = .ok (.if_icmp .ge 22, 3) := by decide +kernel
theorem dc_M_cables_10 : decode cd_M_cables 10 = .ok (.aload_n 0, 1) := by decide +kernel
theorem dc_M_cables_11 : decode cd_M_cables 11 = .ok (.getfield 7, 3) := by decide +kernel
theorem dc_M_cables_14 : decode cd_M_cables 14 = .ok (.iload_n 2, 1) := by decide +kernel
theorem dc_M_cables_15 : decode cd_M_cables 15 = .ok (.iaload, 1) := by decide +kernel
theorem dc_M_cables_16 : decode cd_M_cables 16 = .ok (.iload_n 2, 1) := by decide +kernel
theorem dc_M_cables_17 : decode cd_M_cables 17 = .ok (.if_icmp .le 6, 3) := by decide +kernel
theorem dc_M_cables_20 : decode cd_M_cables 20 = .ok (.iinc 1 1, 3) := by decide +kernel
theorem dc_M_cables_23 : decode cd_M_cables 23 = .ok (.iinc 2 1, 3) := by decide +kernel
theorem dc_M_cables_26 : decode cd_M_cables 26 = .ok (.goto (-22), 3) := by decide +kernel
theorem dc_M_cables_29 : decode cd_M_cables 29 = .ok (.iload_n 1, 1) := by decide +kernel
theorem dc_M_cables_30 : decode cd_M_cables 30 = .ok (.ireturn, 1) := by decide +kernel
theorem dc_M_findBuses_0 : decode cd_M_findBuses 0 = .ok (.iconst 0, 1) := by decide +kernel
theorem dc_M_findBuses_1 : decode cd_M_findBuses 1 = .ok (.istore_n 1, 1) := by decide +kernel
theorem dc_M_findBuses_2 : decode cd_M_findBuses 2 = .ok (.iload_n 1, 1) := by decide +kernel
theorem dc_M_findBuses_3 : decode cd_M_findBuses 3 = .ok (.bipush 12, 2) := by decide +kernel
theorem dc_M_findBuses_5 : decode cd_M_findBuses 5 = .ok (.if_icmp .ge 16, 3) := by decide +kernel
theorem dc_M_findBuses_8 : decode cd_M_findBuses 8 = .ok (.aload_n 0, 1) := by decide +kernel
theorem dc_M_findBuses_9 : decode cd_M_findBuses 9 = .ok (.getfield 62, 3) := by decide +kernel
theorem dc_M_findBuses_12 : decode cd_M_findBuses 12 = .ok (.iload_n 1, 1) := by decide +kernel
theorem dc_M_findBuses_13 : decode cd_M_findBuses 13 = .ok (.iload_n 1, 1) := by decide +kernel
theorem dc_M_findBuses_14 : decode cd_M_findBuses 14 = .ok (.iastore, 1) := by decide +kernel
theorem dc_M_findBuses_15 : decode cd_M_findBuses 15 = .ok (.iinc 1 1, 3) := by decide +kernel
theorem dc_M_findBuses_18 : decode cd_M_findBuses 18 = .ok (.goto (-16), 3) := by decide +kernel
theorem dc_M_findBuses_21 : decode cd_M_findBuses 21 = .ok (.iconst 1, 1) := by decide +kernel
theorem dc_M_findBuses_22 : decode cd_M_findBuses 22 = .ok (.istore_n 1, 1) := by decide +kernel
theorem dc_M_findBuses_23 : decode cd_M_findBuses 23 = .ok (.iload_n 1, 1) := by decide +kernel
theorem dc_M_findBuses_24 : decode cd_M_findBuses 24 = .ok (.ifCond .eq 81, 3) := by decide +kernel
theorem dc_M_findBuses_27 : decode cd_M_findBuses 27 = .ok (.iconst 0, 1) := by decide +kernel
theorem dc_M_findBuses_28 : decode cd_M_findBuses 28 = .ok (.istore_n 1, 1) := by decide +kernel
theorem dc_M_findBuses_29 : decode cd_M_findBuses 29 = .ok (.iconst 0, 1) := by decide +kernel
theorem dc_M_findBuses_30 : decode cd_M_findBuses 30 = .ok (.istore_n 2, 1) := by decide +kernel
theorem dc_M_findBuses_31 : decode cd_M_findBuses 31 = .ok (.iload_n 2, 1) := by decide +kernel
theorem dc_M_findBuses_32 : decode cd_M_findBuses 32 = .ok (.bipush 36, 2) := by decide +kernel
theorem dc_M_findBuses_34 : decode cd_M_findBuses 34 = .ok (.if_icmp .ge 68, 3) := by decide +kernel
theorem dc_M_findBuses_37 : decode cd_M_findBuses 37 = .ok (.aload_n 0, 1) := by decide +kernel
theorem dc_M_findBuses_38 : decode cd_M_findBuses 38 = .ok (.getfield 7, 3) := by decide +kernel
theorem dc_M_findBuses_41 : decode cd_M_findBuses 41 = .ok (.iload_n 2, 1) := by decide +kernel
theorem dc_M_findBuses_42 : decode cd_M_findBuses 42 = .ok (.iaload, 1) := by decide +kernel
theorem dc_M_findBuses_43 : decode cd_M_findBuses 43 = .ok (.ifCond .lt 53, 3) := by decide +kernel
theorem dc_M_findBuses_46 : decode cd_M_findBuses 46 = .ok (.aload_n 0, 1) := by decide +kernel
theorem dc_M_findBuses_47 : decode cd_M_findBuses 47 = .ok (.getfield 62, 3) := by decide +kernel
theorem dc_M_findBuses_50 : decode cd_M_findBuses 50 = .ok (.aload_n 0, 1) := by decide +kernel
theorem dc_M_findBuses_51 : decode cd_M_findBuses 51 = .ok (.getfield 7, 3) := by decide +kernel
theorem dc_M_findBuses_54 : decode cd_M_findBuses 54 = .ok (.iload_n 2, 1) := by decide +kernel
theorem dc_M_findBuses_55 : decode cd_M_findBuses 55 = .ok (.iaload, 1) := by decide +kernel
theorem dc_M_findBuses_56 : decode cd_M_findBuses 56 = .ok (.iconst 3, 1) := by decide +kernel
theorem dc_M_findBuses_57 : decode cd_M_findBuses 57 = .ok (.idiv, 1) := by decide +kernel
theorem dc_M_findBuses_58 : decode cd_M_findBuses 58 = .ok (.iaload, 1) := by decide +kernel
theorem dc_M_findBuses_59 : decode cd_M_findBuses 59 = .ok (.aload_n 0, 1) := by decide +kernel
theorem dc_M_findBuses_60 : decode cd_M_findBuses 60 = .ok (.getfield 62, 3) := by decide +kernel
theorem dc_M_findBuses_63 : decode cd_M_findBuses 63 = .ok (.iload_n 2, 1) := by decide +kernel
theorem dc_M_findBuses_64 : decode cd_M_findBuses 64 = .ok (.iconst 3, 1) := by decide +kernel
theorem dc_M_findBuses_65 : decode cd_M_findBuses 65 = .ok (.idiv, 1) := by decide +kernel
theorem dc_M_findBuses_66 : decode cd_M_findBuses 66 = .ok (.iaload, 1) := by decide +kernel
theorem dc_M_findBuses_67 : decode cd_M_findBuses 67 = .ok (.if_icmp .lt 6, 3) := by decide +kernel
theorem dc_M_findBuses_70 : decode cd_M_findBuses 70 = .ok (.goto 26, 3) := by decide +kernel
theorem dc_M_findBuses_73 : decode cd_M_findBuses 73 = .ok (.aload_n 0, 1) := by decide +kernel
theorem dc_M_findBuses_74 : decode cd_M_findBuses 74 = .ok (.getfield 62, 3) := by decide +kernel
theorem dc_M_findBuses_77 : decode cd_M_findBuses 77 = .ok (.iload_n 2, 1) := by decide +kernel
theorem dc_M_findBuses_78 : decode cd_M_findBuses 78 = .ok (.iconst 3, 1) := by decide +kernel
theorem dc_M_findBuses_79 : decode cd_M_findBuses 79 = .ok (.idiv, 1) := by decide +kernel
theorem dc_M_findBuses_80 : decode cd_M_findBuses 80 = .ok (.aload_n 0, 1) := by decide +kernel
theorem dc_M_findBuses_81 : decode cd_M_findBuses 81 = .ok (.getfield 62, 3) := by decide +kernel
theorem dc_M_findBuses_84 : decode cd_M_findBuses 84 = .ok (.aload_n 0, 1) := by decide +kernel
theorem dc_M_findBuses_85 : decode cd_M_findBuses 85 = .ok (.getfield 7, 3) := by decide +kernel
theorem dc_M_findBuses_88 : decode cd_M_findBuses 88 = .ok (.iload_n 2, 1) := by decide +kernel
theorem dc_M_findBuses_89 : decode cd_M_findBuses 89 = .ok (.iaload, 1) := by decide +kernel
theorem dc_M_findBuses_90 : decode cd_M_findBuses 90 = .ok (.iconst 3, 1) := by decide +kernel
theorem dc_M_findBuses_91 : decode cd_M_findBuses 91 = .ok (.idiv, 1) := by decide +kernel
theorem dc_M_findBuses_92 : decode cd_M_findBuses 92 = .ok (.iaload, 1) := by decide +kernel
theorem dc_M_findBuses_93 : decode cd_M_findBuses 93 = .ok (.iastore, 1) := by decide +kernel
theorem dc_M_findBuses_94 : decode cd_M_findBuses 94 = .ok (.iconst 1, 1) := by decide +kernel
theorem dc_M_findBuses_95 : decode cd_M_findBuses 95 = .ok (.istore_n 1, 1) := by decide +kernel
theorem dc_M_findBuses_96 : decode cd_M_findBuses 96 = .ok (.iinc 2 1, 3) := by decide +kernel
theorem dc_M_findBuses_99 : decode cd_M_findBuses 99 = .ok (.goto (-68), 3) := by decide +kernel
theorem dc_M_findBuses_102 : decode cd_M_findBuses 102 = .ok (.goto (-79), 3) := by decide +kernel
theorem dc_M_findBuses_105 : decode cd_M_findBuses 105 = .ok (.return_, 1) := by decide +kernel
theorem dc_M_busDirty_0 : decode cd_M_busDirty 0 = .ok (.iconst 0, 1) := by decide +kernel
theorem dc_M_busDirty_1 : decode cd_M_busDirty 1 = .ok (.istore_n 2, 1) := by decide +kernel
theorem dc_M_busDirty_2 : decode cd_M_busDirty 2 = .ok (.iconst 0, 1) := by decide +kernel
theorem dc_M_busDirty_3 : decode cd_M_busDirty 3 = .ok (.istore_n 3, 1) := by decide +kernel
theorem dc_M_busDirty_4 : decode cd_M_busDirty 4 = .ok (.iload_n 3, 1) := by decide +kernel
theorem dc_M_busDirty_5 : decode cd_M_busDirty 5 = .ok (.bipush 12, 2) := by decide +kernel
theorem dc_M_busDirty_7 : decode cd_M_busDirty 7 = .ok (.if_icmp .ge 30, 3) := by decide +kernel
theorem dc_M_busDirty_10 : decode cd_M_busDirty 10 = .ok (.aload_n 0, 1) := by decide +kernel
theorem dc_M_busDirty_11 : decode cd_M_busDirty 11 = .ok (.getfield 62, 3) := by decide +kernel
theorem dc_M_busDirty_14 : decode cd_M_busDirty 14 = .ok (.iload_n 3, 1) := by decide +kernel
theorem dc_M_busDirty_15 : decode cd_M_busDirty 15 = .ok (.iaload, 1) := by decide +kernel
theorem dc_M_busDirty_16 : decode cd_M_busDirty 16 = .ok (.iload_n 1, 1) := by decide +kernel
theorem dc_M_busDirty_17 : decode cd_M_busDirty 17 = .ok (.if_icmp .ne 14, 3) := by decide +kernel
theorem dc_M_busDirty_20 : decode cd_M_busDirty 20 = .ok (.aload_n 0, 1) := by decide +kernel
theorem dc_M_busDirty_21 : decode cd_M_busDirty 21 = .ok (.getfield 41, 3) := by decide +kernel
theorem dc_M_busDirty_24 : decode cd_M_busDirty 24 = .ok (.iload_n 3, 1) := by decide +kernel
theorem dc_M_busDirty_25 : decode cd_M_busDirty 25 = .ok (.baload, 1) := by decide +kernel
theorem dc_M_busDirty_26 : decode cd_M_busDirty 26 = .ok (.ifCond .eq 5, 3) := by decide +kernel
theorem dc_M_busDirty_29 : decode cd_M_busDirty 29 = .ok (.iconst 1, 1) := by decide +kernel
theorem dc_M_busDirty_30 : decode cd_M_busDirty 30 = .ok (.istore_n 2, 1) := by decide +kernel
theorem dc_M_busDirty_31 : decode cd_M_busDirty 31 = .ok (.iinc 3 1, 3) := by decide +kernel
theorem dc_M_busDirty_34 : decode cd_M_busDirty 34 = .ok (.goto (-30), 3) := by decide +kernel
theorem dc_M_busDirty_37 : decode cd_M_busDirty 37 = .ok (.iload_n 2, 1) := by decide +kernel
theorem dc_M_busDirty_38 : decode cd_M_busDirty 38 = .ok (.ireturn, 1) := by decide +kernel
theorem dc_M_reset_0 : decode cd_M_reset 0 = .ok (.aload_n 0, 1) := by decide +kernel
theorem dc_M_reset_1 : decode cd_M_reset 1 = .ok (.iconst 0, 1) := by decide +kernel
theorem dc_M_reset_2 : decode cd_M_reset 2 = .ok (.putfield 117, 3) := by decide +kernel
theorem dc_M_reset_5 : decode cd_M_reset 5 = .ok (.iload_n 1, 1) := by decide +kernel
theorem dc_M_reset_6 : decode cd_M_reset 6 = .ok (.bipush 12, 2) := by decide +kernel
theorem dc_M_reset_8 : decode cd_M_reset 8 = .ok (.invokestatic 120, 3) := by decide +kernel
theorem dc_M_reset_11 : decode cd_M_reset 11 = .ok (.ifCond .eq 9, 3) := by decide +kernel
theorem dc_M_reset_14 : decode cd_M_reset 14 = .ok (.aload_n 0, 1) := by decide +kernel
theorem dc_M_reset_15 : decode cd_M_reset 15 = .ok (.iconst 1, 1) := by decide +kernel
theorem dc_M_reset_16 : decode cd_M_reset 16 = .ok (.putfield 117, 3) := by decide +kernel
theorem dc_M_reset_19 : decode cd_M_reset 19 = .ok (.return_, 1) := by decide +kernel
theorem dc_M_reset_20 : decode cd_M_reset 20 = .ok (.aload_n 0, 1) := by decide +kernel
theorem dc_M_reset_21 : decode cd_M_reset 21 = .ok (.getfield 17, 3) := by decide +kernel
theorem dc_M_reset_24 : decode cd_M_reset 24 = .ok (.iload_n 1, 1) := by decide +kernel
theorem dc_M_reset_25 : decode cd_M_reset 25 = .ok (.iload_n 2, 1) := by decide +kernel
theorem dc_M_reset_26 : decode cd_M_reset 26 = .ok (.ldc 132, 2) := by decide +kernel
theorem dc_M_reset_28 : decode cd_M_reset 28 = .ok (.iand, 1) := by decide +kernel
theorem dc_M_reset_29 : decode cd_M_reset 29 = .ok (.iastore, 1) := by decide +kernel
theorem dc_M_reset_30 : decode cd_M_reset 30 = .ok (.aload_n 0, 1) := by decide +kernel
theorem dc_M_reset_31 : decode cd_M_reset 31 = .ok (.getfield 20, 3) := by decide +kernel
theorem dc_M_reset_34 : decode cd_M_reset 34 = .ok (.iload_n 1, 1) := by decide +kernel
theorem dc_M_reset_35 : decode cd_M_reset 35 = .ok (.iconst 0, 1) := by decide +kernel
theorem dc_M_reset_36 : decode cd_M_reset 36 = .ok (.iastore, 1) := by decide +kernel
theorem dc_M_reset_37 : decode cd_M_reset 37 = .ok (.aload_n 0, 1) := by decide +kernel
theorem dc_M_reset_38 : decode cd_M_reset 38 = .ok (.getfield 32, 3) := by decide +kernel
theorem dc_M_reset_41 : decode cd_M_reset 41 = .ok (.iload_n 1, 1) := by decide +kernel
theorem dc_M_reset_42 : decode cd_M_reset 42 = .ok (.iload_n 3, 1) := by decide +kernel
theorem dc_M_reset_43 : decode cd_M_reset 43 = .ok (.bastore, 1) := by decide +kernel
theorem dc_M_reset_44 : decode cd_M_reset 44 = .ok (.aload_n 0, 1) := by decide +kernel
theorem dc_M_reset_45 : decode cd_M_reset 45 = .ok (.getfield 35, 3) := by decide +kernel
theorem dc_M_reset_48 : decode cd_M_reset 48 = .ok (.iload_n 1, 1) := by decide +kernel
theorem dc_M_reset_49 : decode cd_M_reset 49 = .ok (.iload 4, 2) := by decide +kernel
theorem dc_M_reset_51 : decode cd_M_reset 51 = .ok (.bastore, 1) := by decide +kernel
theorem dc_M_reset_52 : decode cd_M_reset 52 = .ok (.aload_n 0, 1) := by decide +kernel
theorem dc_M_reset_53 : decode cd_M_reset 53 = .ok (.getfield 41, 3) := by decide +kernel
theorem dc_M_reset_56 : decode cd_M_reset 56 = .ok (.iload_n 1, 1) := by decide +kernel
theorem dc_M_reset_57 : decode cd_M_reset 57 = .ok (.iconst 1, 1) := by decide +kernel
theorem dc_M_reset_58 : decode cd_M_reset 58 = .ok (.bastore, 1) := by decide +kernel
theorem dc_M_reset_59 : decode cd_M_reset 59 = .ok (.return_, 1) := by decide +kernel
theorem dc_M_ask_0 : decode cd_M_ask 0 = .ok (.aload_n 0, 1) := by decide +kernel
theorem dc_M_ask_1 : decode cd_M_ask 1 = .ok (.iconst 0, 1) := by decide +kernel
theorem dc_M_ask_2 : decode cd_M_ask 2 = .ok (.putfield 117, 3) := by decide +kernel
theorem dc_M_ask_5 : decode cd_M_ask 5 = .ok (.iload_n 1, 1) := by decide +kernel
theorem dc_M_ask_6 : decode cd_M_ask 6 = .ok (.bipush 12, 2) := by decide +kernel
theorem dc_M_ask_8 : decode cd_M_ask 8 = .ok (.invokestatic 120, 3) := by decide +kernel
theorem dc_M_ask_11 : decode cd_M_ask 11 = .ok (.ifCond .ne 12, 3) := by decide +kernel
theorem dc_M_ask_14 : decode cd_M_ask 14 = .ok (.iload_n 2, 1) := by decide +kernel
theorem dc_M_ask_15 : decode cd_M_ask 15 = .ok (.bipush 12, 2) := by decide +kernel
theorem dc_M_ask_17 : decode cd_M_ask 17 = .ok (.invokestatic 120, 3) := by decide +kernel
theorem dc_M_ask_20 : decode cd_M_ask 20 = .ok (.ifCond .eq 9, 3) := by decide +kernel
theorem dc_M_ask_23 : decode cd_M_ask 23 = .ok (.aload_n 0, 1) := by decide +kernel
theorem dc_M_ask_24 : decode cd_M_ask 24 = .ok (.iconst 1, 1) := by decide +kernel
theorem dc_M_ask_25 : decode cd_M_ask 25 = .ok (.invokevirtual 124, 3) := by decide +kernel
theorem dc_M_ask_28 : decode cd_M_ask 28 = .ok (.ireturn, 1) := by decide +kernel
theorem dc_M_ask_29 : decode cd_M_ask 29 = .ok (.iload_n 3, 1) := by decide +kernel
theorem dc_M_ask_30 : decode cd_M_ask 30 = .ok (.iconst 3, 1) := by decide +kernel
theorem dc_M_ask_31 : decode cd_M_ask 31 = .ok (.invokestatic 120, 3) := by decide +kernel
theorem dc_M_ask_34 : decode cd_M_ask 34 = .ok (.ifCond .ne 13, 3) := by decide +kernel
theorem dc_M_ask_37 : decode cd_M_ask 37 = .ok (.iload 4, 2) := by decide +kernel
theorem dc_M_ask_39 : decode cd_M_ask 39 = .ok (.bipush 8, 2) := by decide +kernel
theorem dc_M_ask_41 : decode cd_M_ask 41 = .ok (.invokestatic 120, 3) := by decide +kernel
theorem dc_M_ask_44 : decode cd_M_ask 44 = .ok (.ifCond .eq 9, 3) := by decide +kernel
theorem dc_M_ask_47 : decode cd_M_ask 47 = .ok (.aload_n 0, 1) := by decide +kernel
theorem dc_M_ask_48 : decode cd_M_ask 48 = .ok (.iconst 2, 1) := by decide +kernel
theorem dc_M_ask_49 : decode cd_M_ask 49 = .ok (.invokevirtual 124, 3) := by decide +kernel
theorem dc_M_ask_52 : decode cd_M_ask 52 = .ok (.ireturn, 1) := by decide +kernel
theorem dc_M_ask_53 : decode cd_M_ask 53 = .ok (.iconst 4, 1) := by decide +kernel
theorem dc_M_ask_54 : decode cd_M_ask 54 = .ok (.iload_n 1, 1) := by decide +kernel
theorem dc_M_ask_55 : decode cd_M_ask 55 = .ok (.imul, 1) := by decide +kernel
theorem dc_M_ask_56 : decode cd_M_ask 56 = .ok (.istore 7, 2) := by decide +kernel
theorem dc_M_ask_58 : decode cd_M_ask 58 = .ok (.iload 7, 2) := by decide +kernel
theorem dc_M_ask_60 : decode cd_M_ask 60 = .ok (.iconst 4, 1) := by decide +kernel
theorem dc_M_ask_61 : decode cd_M_ask 61 = .ok (.iload_n 1, 1) := by decide +kernel
theorem dc_M_ask_62 : decode cd_M_ask 62 = .ok (.imul, 1) := by decide +kernel
theorem dc_M_ask_63 : decode cd_M_ask 63 = .ok (.iconst 4, 1) := by decide +kernel
theorem dc_M_ask_64 : decode cd_M_ask 64 = .ok (.iadd, 1) := by decide +kernel
theorem dc_M_ask_65 : decode cd_M_ask 65 = .ok (.if_icmp .ge 20, 3) := by decide +kernel
theorem dc_M_ask_68 : decode cd_M_ask 68 = .ok (.aload_n 0, 1) := by decide +kernel
theorem dc_M_ask_69 : decode cd_M_ask 69 = .ok (.getfield 68, 3) := by decide +kernel
theorem dc_M_ask_72 : decode cd_M_ask 72 = .ok (.iload 7, 2) := by decide +kernel
theorem dc_M_ask_74 : decode cd_M_ask 74 = .ok (.iaload, 1) := by decide +kernel
theorem dc_M_ask_75 : decode cd_M_ask 75 = .ok (.iconst (-1), 1) := by decide +kernel
theorem dc_M_ask_76 : decode cd_M_ask 76 = .ok (.if_icmp .ne 9, 3) := by decide +kernel
theorem dc_M_ask_79 : decode cd_M_ask 79 = .ok (.iinc 7 1, 3) := by decide +kernel
theorem dc_M_ask_82 : decode cd_M_ask 82 = .ok (.goto (-24), 3) := by decide +kernel
theorem dc_M_ask_85 : decode cd_M_ask 85 = .ok (.iload 7, 2) := by decide +kernel
theorem dc_M_ask_87 : decode cd_M_ask 87 = .ok (.iconst 4, 1) := by decide +kernel
theorem dc_M_ask_88 : decode cd_M_ask 88 = .ok (.iload_n 1, 1) := by decide +kernel
theorem dc_M_ask_89 : decode cd_M_ask 89 = .ok (.imul, 1) := by decide +kernel
theorem dc_M_ask_90 : decode cd_M_ask 90 = .ok (.iconst 4, 1) := by decide +kernel
theorem dc_M_ask_91 : decode cd_M_ask 91 = .ok (.iadd, 1) := by decide +kernel
theorem dc_M_ask_92 : decode cd_M_ask 92 = .ok (.if_icmp .ne 9, 3) := by decide +kernel
theorem dc_M_ask_95 : decode cd_M_ask 95 = .ok (.aload_n 0, 1) := by decide +kernel
theorem dc_M_ask_96 : decode cd_M_ask 96 = .ok (.iconst 3, 1) := by decide +kernel
theorem dc_M_ask_97 : decode cd_M_ask 97 = .ok (.invokevirtual 124, 3) := by decide +kernel
theorem dc_M_ask_100 : decode cd_M_ask 100 = .ok (.ireturn, 1) := by decide +kernel
theorem dc_M_ask_101 : decode cd_M_ask 101 = .ok (.aload_n 0, 1) := by decide +kernel
theorem dc_M_ask_102 : decode cd_M_ask 102 = .ok (.getfield 110, 3) := by decide +kernel
theorem dc_M_ask_105 : decode cd_M_ask 105 = .ok (.iload_n 1, 1) := by decide +kernel
theorem dc_M_ask_106 : decode cd_M_ask 106 = .ok (.iaload, 1) := by decide +kernel
theorem dc_M_ask_107 : decode cd_M_ask 107 = .ok (.bipush 6, 2) := by decide +kernel
theorem dc_M_ask_109 : decode cd_M_ask 109 = .ok (.if_icmp .ne 9, 3) := by decide +kernel
theorem dc_M_ask_112 : decode cd_M_ask 112 = .ok (.aload_n 0, 1) := by decide +kernel
theorem dc_M_ask_113 : decode cd_M_ask 113 = .ok (.iconst 4, 1) := by decide +kernel
theorem dc_M_ask_114 : decode cd_M_ask 114 = .ok (.invokevirtual 124, 3) := by decide +kernel
theorem dc_M_ask_117 : decode cd_M_ask 117 = .ok (.ireturn, 1) := by decide +kernel
theorem dc_M_ask_118 : decode cd_M_ask 118 = .ok (.aload_n 0, 1) := by decide +kernel
theorem dc_M_ask_119 : decode cd_M_ask 119 = .ok (.dup, 1) := by decide +kernel
theorem dc_M_ask_120 : decode cd_M_ask 120 = .ok (.getfield 133, 3) := by decide +kernel
theorem dc_M_ask_123 : decode cd_M_ask 123 = .ok (.iconst 1, 1) := by decide +kernel
theorem dc_M_ask_124 : decode cd_M_ask 124 = .ok (.iadd, 1) := by decide +kernel
theorem dc_M_ask_125 : decode cd_M_ask 125 = .ok (.putfield 133, 3) := by decide +kernel
theorem dc_M_ask_128 : decode cd_M_ask 128 = .ok (.aload_n 0, 1) := by decide +kernel
theorem dc_M_ask_129 : decode cd_M_ask 129 = .ok (.getfield 68, 3) := by decide +kernel
theorem dc_M_ask_132 : decode cd_M_ask 132 = .ok (.iload 7, 2) := by decide +kernel
theorem dc_M_ask_134 : decode cd_M_ask 134 = .ok (.iconst (-1), 1) := by decide +kernel
theorem dc_M_ask_135 : decode cd_M_ask 135 = .ok (.iastore, 1) := by decide +kernel
theorem dc_M_ask_136 : decode cd_M_ask 136 = .ok (.aload_n 0, 1) := by decide +kernel
theorem dc_M_ask_137 : decode cd_M_ask 137 = .ok (.getfield 71, 3) := by decide +kernel
theorem dc_M_ask_140 : decode cd_M_ask 140 = .ok (.iload 7, 2) := by decide +kernel
theorem dc_M_ask_142 : decode cd_M_ask 142 = .ok (.iload_n 2, 1) := by decide +kernel
theorem dc_M_ask_143 : decode cd_M_ask 143 = .ok (.iastore, 1) := by decide +kernel
theorem dc_M_ask_144 : decode cd_M_ask 144 = .ok (.aload_n 0, 1) := by decide +kernel
theorem dc_M_ask_145 : decode cd_M_ask 145 = .ok (.getfield 74, 3) := by decide +kernel
theorem dc_M_ask_148 : decode cd_M_ask 148 = .ok (.iload 7, 2) := by decide +kernel
theorem dc_M_ask_150 : decode cd_M_ask 150 = .ok (.iload_n 3, 1) := by decide +kernel
theorem dc_M_ask_151 : decode cd_M_ask 151 = .ok (.iastore, 1) := by decide +kernel
theorem dc_M_ask_152 : decode cd_M_ask 152 = .ok (.aload_n 0, 1) := by decide +kernel
theorem dc_M_ask_153 : decode cd_M_ask 153 = .ok (.getfield 77, 3) := by decide +kernel
theorem dc_M_ask_156 : decode cd_M_ask 156 = .ok (.iload 7, 2) := by decide +kernel
theorem dc_M_ask_158 : decode cd_M_ask 158 = .ok (.iload 4, 2) := by decide +kernel
theorem dc_M_ask_160 : decode cd_M_ask 160 = .ok (.iastore, 1) := by decide +kernel
theorem dc_M_ask_161 : decode cd_M_ask 161 = .ok (.aload_n 0, 1) := by decide +kernel
theorem dc_M_ask_162 : decode cd_M_ask 162 = .ok (.getfield 80, 3) := by decide +kernel
theorem dc_M_ask_165 : decode cd_M_ask 165 = .ok (.iload 7, 2) := by decide +kernel
theorem dc_M_ask_167 : decode cd_M_ask 167 = .ok (.iload 5, 2) := by decide +kernel
theorem dc_M_ask_169 : decode cd_M_ask 169 = .ok (.iastore, 1) := by decide +kernel
theorem dc_M_ask_170 : decode cd_M_ask 170 = .ok (.aload_n 0, 1) := by decide +kernel
theorem dc_M_ask_171 : decode cd_M_ask 171 = .ok (.getfield 83, 3) := by decide +kernel
theorem dc_M_ask_174 : decode cd_M_ask 174 = .ok (.iload 7, 2) := by decide +kernel
theorem dc_M_ask_176 : decode cd_M_ask 176 = .ok (.iload 6, 2) := by decide +kernel
theorem dc_M_ask_178 : decode cd_M_ask 178 = .ok (.iastore, 1) := by decide +kernel
theorem dc_M_ask_179 : decode cd_M_ask 179 = .ok (.aload_n 0, 1) := by decide +kernel
theorem dc_M_ask_180 : decode cd_M_ask 180 = .ok (.getfield 89, 3) := by decide +kernel
theorem dc_M_ask_183 : decode cd_M_ask 183 = .ok (.iload 7, 2) := by decide +kernel
theorem dc_M_ask_185 : decode cd_M_ask 185 = .ok (.aload_n 0, 1) := by decide +kernel
theorem dc_M_ask_186 : decode cd_M_ask 186 = .ok (.getfield 136, 3) := by decide +kernel
theorem dc_M_ask_189 : decode cd_M_ask 189 = .ok (.aload_n 0, 1) := by decide +kernel
theorem dc_M_ask_190 : decode cd_M_ask 190 = .ok (.getfield 113, 3) := by decide +kernel
theorem dc_M_ask_193 : decode cd_M_ask 193 = .ok (.iadd, 1) := by decide +kernel
theorem dc_M_ask_194 : decode cd_M_ask 194 = .ok (.iastore, 1) := by decide +kernel
theorem dc_M_ask_195 : decode cd_M_ask 195 = .ok (.aload_n 0, 1) := by decide +kernel
theorem dc_M_ask_196 : decode cd_M_ask 196 = .ok (.getfield 92, 3) := by decide +kernel
theorem dc_M_ask_199 : decode cd_M_ask 199 = .ok (.iload 7, 2) := by decide +kernel
theorem dc_M_ask_201 : decode cd_M_ask 201 = .ok (.aload_n 0, 1) := by decide +kernel
theorem dc_M_ask_202 : decode cd_M_ask 202 = .ok (.getfield 133, 3) := by decide +kernel
theorem dc_M_ask_205 : decode cd_M_ask 205 = .ok (.iastore, 1) := by decide +kernel
theorem dc_M_ask_206 : decode cd_M_ask 206 = .ok (.aload_n 0, 1) := by decide +kernel
theorem dc_M_ask_207 : decode cd_M_ask 207 = .ok (.iload_n 1, 1) := by decide +kernel
theorem dc_M_ask_208 : decode cd_M_ask 208 = .ok (.iload 7, 2) := by decide +kernel
theorem dc_M_ask_210 : decode cd_M_ask 210 = .ok (.aload_n 0, 1) := by decide +kernel
theorem dc_M_ask_211 : decode cd_M_ask 211 = .ok (.getfield 133, 3) := by decide +kernel
theorem dc_M_ask_214 : decode cd_M_ask 214 = .ok (.iconst 0, 1) := by decide +kernel
theorem dc_M_ask_215 : decode cd_M_ask 215 = .ok (.iconst 0, 1) := by decide +kernel
theorem dc_M_ask_216 : decode cd_M_ask 216 = .ok (.iconst 0, 1) := by decide +kernel
theorem dc_M_ask_217 : decode cd_M_ask 217 = .ok (.invokevirtual 139, 3) := by decide +kernel
theorem dc_M_ask_220 : decode cd_M_ask 220 = .ok (.iload 7, 2) := by decide +kernel
theorem dc_M_ask_222 : decode cd_M_ask 222 = .ok (.iconst 4, 1) := by decide +kernel
theorem dc_M_ask_223 : decode cd_M_ask 223 = .ok (.iload_n 1, 1) := by decide +kernel
theorem dc_M_ask_224 : decode cd_M_ask 224 = .ok (.imul, 1) := by decide +kernel
theorem dc_M_ask_225 : decode cd_M_ask 225 = .ok (.isub, 1) := by decide +kernel
theorem dc_M_ask_226 : decode cd_M_ask 226 = .ok (.ireturn, 1) := by decide +kernel
theorem dc_M_put_0 : decode cd_M_put 0 = .ok (.bipush 6, 2) := by decide +kernel
theorem dc_M_put_2 : decode cd_M_put 2 = .ok (.iload_n 1, 1) := by decide +kernel
theorem dc_M_put_3 : decode cd_M_put 3 = .ok (.imul, 1) := by decide +kernel
theorem dc_M_put_4 : decode cd_M_put 4 = .ok (.aload_n 0, 1) := by decide +kernel
theorem dc_M_put_5 : decode cd_M_put 5 = .ok (.getfield 110, 3) := by decide +kernel
theorem dc_M_put_8 : decode cd_M_put 8 = .ok (.iload_n 1, 1) := by decide +kernel
theorem dc_M_put_9 : decode cd_M_put 9 = .ok (.iaload, 1) := by decide +kernel
theorem dc_M_put_10 : decode cd_M_put 10 = .ok (.iadd, 1) := by decide +kernel
theorem dc_M_put_11 : decode cd_M_put 11 = .ok (.istore 7, 2) := by decide +kernel
theorem dc_M_put_13 : decode cd_M_put 13 = .ok (.aload_n 0, 1) := by decide +kernel
theorem dc_M_put_14 : decode cd_M_put 14 = .ok (.getfield 95, 3) := by decide +kernel
theorem dc_M_put_17 : decode cd_M_put 17 = .ok (.iload 7, 2) := by decide +kernel
theorem dc_M_put_19 : decode cd_M_put 19 = .ok (.iload_n 2, 1) := by decide +kernel
theorem dc_M_put_20 : decode cd_M_put 20 = .ok (.iastore, 1) := by decide +kernel
theorem dc_M_put_21 : decode cd_M_put 21 = .ok (.aload_n 0, 1) := by decide +kernel
theorem dc_M_put_22 : decode cd_M_put 22 = .ok (.getfield 98, 3) := by decide +kernel
theorem dc_M_put_25 : decode cd_M_put 25 = .ok (.iload 7, 2) := by decide +kernel
theorem dc_M_put_27 : decode cd_M_put 27 = .ok (.iload_n 3, 1) := by decide +kernel
theorem dc_M_put_28 : decode cd_M_put 28 = .ok (.iastore, 1) := by decide +kernel
theorem dc_M_put_29 : decode cd_M_put 29 = .ok (.aload_n 0, 1) := by decide +kernel
theorem dc_M_put_30 : decode cd_M_put 30 = .ok (.getfield 101, 3) := by decide +kernel
theorem dc_M_put_33 : decode cd_M_put 33 = .ok (.iload 7, 2) := by decide +kernel
theorem dc_M_put_35 : decode cd_M_put 35 = .ok (.iload 4, 2) := by decide +kernel
theorem dc_M_put_37 : decode cd_M_put 37 = .ok (.iastore, 1) := by decide +kernel
theorem dc_M_put_38 : decode cd_M_put 38 = .ok (.aload_n 0, 1) := by decide +kernel
theorem dc_M_put_39 : decode cd_M_put 39 = .ok (.getfield 107, 3) := by decide +kernel
theorem dc_M_put_42 : decode cd_M_put 42 = .ok (.iload 7, 2) := by decide +kernel
theorem dc_M_put_44 : decode cd_M_put 44 = .ok (.iload 5, 2) := by decide +kernel
theorem dc_M_put_46 : decode cd_M_put 46 = .ok (.bastore, 1) := by decide +kernel
theorem dc_M_put_47 : decode cd_M_put 47 = .ok (.aload_n 0, 1) := by decide +kernel
theorem dc_M_put_48 : decode cd_M_put 48 = .ok (.getfield 104, 3) := by decide +kernel
theorem dc_M_put_51 : decode cd_M_put 51 = .ok (.iload 7, 2) := by decide +kernel
theorem dc_M_put_53 : decode cd_M_put 53 = .ok (.iload 6, 2) := by decide +kernel
theorem dc_M_put_55 : decode cd_M_put 55 = .ok (.iastore, 1) := by decide +kernel
theorem dc_M_put_56 : decode cd_M_put 56 = .ok (.aload_n 0, 1) := by decide +kernel
theorem dc_M_put_57 : decode cd_M_put 57 = .ok (.getfield 110, 3) := by decide +kernel
theorem dc_M_put_60 : decode cd_M_put 60 = .ok (.iload_n 1, 1) := by decide +kernel
theorem dc_M_put_61 : decode cd_M_put 61 = .ok (.dup2, 1) := by decide +kernel
theorem dc_M_put_62 : decode cd_M_put 62 = .ok (.iaload, 1) := by decide +kernel
theorem dc_M_put_63 : decode cd_M_put 63 = .ok (.iconst 1, 1) := by decide +kernel
theorem dc_M_put_64 : decode cd_M_put 64 = .ok (.iadd, 1) := by decide +kernel
theorem dc_M_put_65 : decode cd_M_put 65 = .ok (.iastore, 1) := by decide +kernel
theorem dc_M_put_66 : decode cd_M_put 66 = .ok (.return_, 1) := by decide +kernel
theorem dc_M_take_0 : decode cd_M_take 0 = .ok (.aload_n 0, 1) := by decide +kernel
theorem dc_M_take_1 : decode cd_M_take 1 = .ok (.getfield 110, 3) := by decide +kernel
theorem dc_M_take_4 : decode cd_M_take 4 = .ok (.iload_n 1, 1) := by decide +kernel
theorem dc_M_take_5 : decode cd_M_take 5 = .ok (.dup2, 1) := by decide +kernel
theorem dc_M_take_6 : decode cd_M_take 6 = .ok (.iaload, 1) := by decide +kernel
theorem dc_M_take_7 : decode cd_M_take 7 = .ok (.iconst 1, 1) := by decide +kernel
theorem dc_M_take_8 : decode cd_M_take 8 = .ok (.isub, 1) := by decide +kernel
theorem dc_M_take_9 : decode cd_M_take 9 = .ok (.iastore, 1) := by decide +kernel
theorem dc_M_take_10 : decode cd_M_take 10 = .ok (.bipush 6, 2) := by decide +kernel
theorem dc_M_take_12 : decode cd_M_take 12 = .ok (.iload_n 1, 1) := by decide +kernel
theorem dc_M_take_13 : decode cd_M_take 13 = .ok (.imul, 1) := by decide +kernel
theorem dc_M_take_14 : decode cd_M_take 14 = .ok (.iload_n 2, 1) := by decide +kernel
theorem dc_M_take_15 : decode cd_M_take 15 = .ok (.iadd, 1) := by decide +kernel
theorem dc_M_take_16 : decode cd_M_take 16 = .ok (.istore_n 3, 1) := by decide +kernel
theorem dc_M_take_17 : decode cd_M_take 17 = .ok (.iload_n 3, 1) := by decide +kernel
theorem dc_M_take_18 : decode cd_M_take 18 = .ok (.bipush 6, 2) := by decide +kernel
theorem dc_M_take_20 : decode cd_M_take 20 = .ok (.iload_n 1, 1) := by decide +kernel
theorem dc_M_take_21 : decode cd_M_take 21 = .ok (.imul, 1) := by decide +kernel
theorem dc_M_take_22 : decode cd_M_take 22 = .ok (.aload_n 0, 1) := by decide +kernel
theorem dc_M_take_23 : decode cd_M_take 23 = .ok (.getfield 110, 3) := by decide +kernel
theorem dc_M_take_26 : decode cd_M_take 26 = .ok (.iload_n 1, 1) := by decide +kernel
theorem dc_M_take_27 : decode cd_M_take 27 = .ok (.iaload, 1) := by decide +kernel
theorem dc_M_take_28 : decode cd_M_take 28 = .ok (.iadd, 1) := by decide +kernel
theorem dc_M_take_29 : decode cd_M_take 29 = .ok (.if_icmp .ge 79, 3) := by decide +kernel
theorem dc_M_take_32 : decode cd_M_take 32 = .ok (.aload_n 0, 1) := by decide +kernel
theorem dc_M_take_33 : decode cd_M_take 33 = .ok (.getfield 95, 3) := by decide +kernel
theorem dc_M_take_36 : decode cd_M_take 36 = .ok (.iload_n 3, 1) := by decide +kernel
theorem dc_M_take_37 : decode cd_M_take 37 = .ok (.aload_n 0, 1) := by decide +kernel
theorem dc_M_take_38 : decode cd_M_take 38 = .ok (.getfield 95, 3) := by decide +kernel
theorem dc_M_take_41 : decode cd_M_take 41 = .ok (.iload_n 3, 1) := by decide +kernel
theorem dc_M_take_42 : decode cd_M_take 42 = .ok (.iconst 1, 1) := by decide +kernel
theorem dc_M_take_43 : decode cd_M_take 43 = .ok (.iadd, 1) := by decide +kernel
theorem dc_M_take_44 : decode cd_M_take 44 = .ok (.iaload, 1) := by decide +kernel
theorem dc_M_take_45 : decode cd_M_take 45 = .ok (.iastore, 1) := by decide +kernel
theorem dc_M_take_46 : decode cd_M_take 46 = .ok (.aload_n 0, 1) := by decide +kernel
theorem dc_M_take_47 : decode cd_M_take 47 = .ok (.getfield 98, 3) := by decide +kernel
theorem dc_M_take_50 : decode cd_M_take 50 = .ok (.iload_n 3, 1) := by decide +kernel
theorem dc_M_take_51 : decode cd_M_take 51 = .ok (.aload_n 0, 1) := by decide +kernel
theorem dc_M_take_52 : decode cd_M_take 52 = .ok (.getfield 98, 3) := by decide +kernel
theorem dc_M_take_55 : decode cd_M_take 55 = .ok (.iload_n 3, 1) := by decide +kernel
theorem dc_M_take_56 : decode cd_M_take 56 = .ok (.iconst 1, 1) := by decide +kernel
theorem dc_M_take_57 : decode cd_M_take 57 = .ok (.iadd, 1) := by decide +kernel
theorem dc_M_take_58 : decode cd_M_take 58 = .ok (.iaload, 1) := by decide +kernel
theorem dc_M_take_59 : decode cd_M_take 59 = .ok (.iastore, 1) := by decide +kernel
theorem dc_M_take_60 : decode cd_M_take 60 = .ok (.aload_n 0, 1) := by decide +kernel
theorem dc_M_take_61 : decode cd_M_take 61 = .ok (.getfield 101, 3) := by decide +kernel
theorem dc_M_take_64 : decode cd_M_take 64 = .ok (.iload_n 3, 1) := by decide +kernel
theorem dc_M_take_65 : decode cd_M_take 65 = .ok (.aload_n 0, 1) := by decide +kernel
theorem dc_M_take_66 : decode cd_M_take 66 = .ok (.getfield 101, 3) := by decide +kernel
theorem dc_M_take_69 : decode cd_M_take 69 = .ok (.iload_n 3, 1) := by decide +kernel
theorem dc_M_take_70 : decode cd_M_take 70 = .ok (.iconst 1, 1) := by decide +kernel
theorem dc_M_take_71 : decode cd_M_take 71 = .ok (.iadd, 1) := by decide +kernel
theorem dc_M_take_72 : decode cd_M_take 72 = .ok (.iaload, 1) := by decide +kernel
theorem dc_M_take_73 : decode cd_M_take 73 = .ok (.iastore, 1) := by decide +kernel
theorem dc_M_take_74 : decode cd_M_take 74 = .ok (.aload_n 0, 1) := by decide +kernel
theorem dc_M_take_75 : decode cd_M_take 75 = .ok (.getfield 107, 3) := by decide +kernel
theorem dc_M_take_78 : decode cd_M_take 78 = .ok (.iload_n 3, 1) := by decide +kernel
theorem dc_M_take_79 : decode cd_M_take 79 = .ok (.aload_n 0, 1) := by decide +kernel
theorem dc_M_take_80 : decode cd_M_take 80 = .ok (.getfield 107, 3) := by decide +kernel
theorem dc_M_take_83 : decode cd_M_take 83 = .ok (.iload_n 3, 1) := by decide +kernel
theorem dc_M_take_84 : decode cd_M_take 84 = .ok (.iconst 1, 1) := by decide +kernel
theorem dc_M_take_85 : decode cd_M_take 85 = .ok (.iadd, 1) := by decide +kernel
theorem dc_M_take_86 : decode cd_M_take 86 = .ok (.baload, 1) := by decide +kernel
theorem dc_M_take_87 : decode cd_M_take 87 = .ok (.bastore, 1) := by decide +kernel
theorem dc_M_take_88 : decode cd_M_take 88 = .ok (.aload_n 0, 1) := by decide +kernel
theorem dc_M_take_89 : decode cd_M_take 89 = .ok (.getfield 104, 3) := by decide +kernel
theorem dc_M_take_92 : decode cd_M_take 92 = .ok (.iload_n 3, 1) := by decide +kernel
theorem dc_M_take_93 : decode cd_M_take 93 = .ok (.aload_n 0, 1) := by decide +kernel
theorem dc_M_take_94 : decode cd_M_take 94 = .ok (.getfield 104, 3) := by decide +kernel
theorem dc_M_take_97 : decode cd_M_take 97 = .ok (.iload_n 3, 1) := by decide +kernel
theorem dc_M_take_98 : decode cd_M_take 98 = .ok (.iconst 1, 1) := by decide +kernel
theorem dc_M_take_99 : decode cd_M_take 99 = .ok (.iadd, 1) := by decide +kernel
theorem dc_M_take_100 : decode cd_M_take 100 = .ok (.iaload, 1) := by decide +kernel
theorem dc_M_take_101 : decode cd_M_take 101 = .ok (.iastore, 1) := by decide +kernel
theorem dc_M_take_102 : decode cd_M_take 102 = .ok (.iinc 3 1, 3) := by decide +kernel
theorem dc_M_take_105 : decode cd_M_take 105 = .ok (.goto (-88), 3) := by decide +kernel
theorem dc_M_take_108 : decode cd_M_take 108 = .ok (.return_, 1) := by decide +kernel
theorem dc_M_done_0 : decode cd_M_done 0 = .ok (.bipush 8, 2) := by decide +kernel
theorem dc_M_done_2 : decode cd_M_done 2 = .ok (.aload_n 0, 1) := by decide +kernel
theorem dc_M_done_3 : decode cd_M_done 3 = .ok (.getfield 71, 3) := by decide +kernel
theorem dc_M_done_6 : decode cd_M_done 6 = .ok (.iload_n 1, 1) := by decide +kernel
theorem dc_M_done_7 : decode cd_M_done 7 = .ok (.iaload, 1) := by decide +kernel
theorem dc_M_done_8 : decode cd_M_done 8 = .ok (.imul, 1) := by decide +kernel
theorem dc_M_done_9 : decode cd_M_done 9 = .ok (.aload_n 0, 1) := by decide +kernel
theorem dc_M_done_10 : decode cd_M_done 10 = .ok (.getfield 77, 3) := by decide +kernel
theorem dc_M_done_13 : decode cd_M_done 13 = .ok (.iload_n 1, 1) := by decide +kernel
theorem dc_M_done_14 : decode cd_M_done 14 = .ok (.iaload, 1) := by decide +kernel
theorem dc_M_done_15 : decode cd_M_done 15 = .ok (.iadd, 1) := by decide +kernel
theorem dc_M_done_16 : decode cd_M_done 16 = .ok (.istore_n 2, 1) := by decide +kernel
theorem dc_M_done_17 : decode cd_M_done 17 = .ok (.aload_n 0, 1) := by decide +kernel
theorem dc_M_done_18 : decode cd_M_done 18 = .ok (.getfield 47, 3) := by decide +kernel
theorem dc_M_done_21 : decode cd_M_done 21 = .ok (.iload_n 2, 1) := by decide +kernel
theorem dc_M_done_22 : decode cd_M_done 22 = .ok (.iaload, 1) := by decide +kernel
theorem dc_M_done_23 : decode cd_M_done 23 = .ok (.istore_n 3, 1) := by decide +kernel
theorem dc_M_done_24 : decode cd_M_done 24 = .ok (.aload_n 0, 1) := by decide +kernel
theorem dc_M_done_25 : decode cd_M_done 25 = .ok (.getfield 74, 3) := by decide +kernel
theorem dc_M_done_28 : decode cd_M_done 28 = .ok (.iload_n 1, 1) := by decide +kernel
theorem dc_M_done_29 : decode cd_M_done 29 = .ok (.iaload, 1) := by decide +kernel
theorem dc_M_done_30 : decode cd_M_done 30 = .ok (.iconst 1, 1) := by decide +kernel
theorem dc_M_done_31 : decode cd_M_done 31 = .ok (.if_icmp .eq 23, 3) := by decide +kernel
theorem dc_M_done_34 : decode cd_M_done 34 = .ok (.aload_n 0, 1) := by decide +kernel
theorem dc_M_done_35 : decode cd_M_done 35 = .ok (.getfield 74, 3) := by decide +kernel
theorem dc_M_done_38 : decode cd_M_done 38 = .ok (.iload_n 1, 1) := by decide +kernel
theorem dc_M_done_39 : decode cd_M_done 39 = .ok (.iaload, 1) := by decide +kernel
theorem dc_M_done_40 : decode cd_M_done 40 = .ok (.iconst 2, 1) := by decide +kernel
theorem dc_M_done_41 : decode cd_M_done 41 = .ok (.if_icmp .ne 25, 3) := by decide +kernel
theorem dc_M_done_44 : decode cd_M_done 44 = .ok (.iload_n 3, 1) := by decide +kernel
theorem dc_M_done_45 : decode cd_M_done 45 = .ok (.aload_n 0, 1) := by decide +kernel
theorem dc_M_done_46 : decode cd_M_done 46 = .ok (.getfield 80, 3) := by decide +kernel
theorem dc_M_done_49 : decode cd_M_done 49 = .ok (.iload_n 1, 1) := by decide +kernel
theorem dc_M_done_50 : decode cd_M_done 50 = .ok (.iaload, 1) := by decide +kernel
theorem dc_M_done_51 : decode cd_M_done 51 = .ok (.if_icmp .ne 15, 3) := by decide +kernel
theorem dc_M_done_54 : decode cd_M_done 54 = .ok (.aload_n 0, 1) := by decide +kernel
theorem dc_M_done_55 : decode cd_M_done 55 = .ok (.getfield 47, 3) := by decide +kernel
theorem dc_M_done_58 : decode cd_M_done 58 = .ok (.iload_n 2, 1) := by decide +kernel
theorem dc_M_done_59 : decode cd_M_done 59 = .ok (.aload_n 0, 1) := by decide +kernel
theorem dc_M_done_60 : decode cd_M_done 60 = .ok (.getfield 83, 3) := by decide +kernel
theorem dc_M_done_63 : decode cd_M_done 63 = .ok (.iload_n 1, 1) := by decide +kernel
theorem dc_M_done_64 : decode cd_M_done 64 = .ok (.iaload, 1) := by decide +kernel
theorem dc_M_done_65 : decode cd_M_done 65 = .ok (.iastore, 1) := by decide +kernel
theorem dc_M_done_66 : decode cd_M_done 66 = .ok (.aload_n 0, 1) := by decide +kernel
theorem dc_M_done_67 : decode cd_M_done 67 = .ok (.getfield 74, 3) := by decide +kernel
theorem dc_M_done_70 : decode cd_M_done 70 = .ok (.iload_n 1, 1) := by decide +kernel
theorem dc_M_done_71 : decode cd_M_done 71 = .ok (.iaload, 1) := by decide +kernel
theorem dc_M_done_72 : decode cd_M_done 72 = .ok (.iconst 1, 1) := by decide +kernel
theorem dc_M_done_73 : decode cd_M_done 73 = .ok (.if_icmp .ne 7, 3) := by decide +kernel
theorem dc_M_done_76 : decode cd_M_done 76 = .ok (.iconst 0, 1) := by decide +kernel
theorem dc_M_done_77 : decode cd_M_done 77 = .ok (.goto 4, 3) := by decide +kernel
theorem dc_M_done_80 : decode cd_M_done 80 = .ok (.iload_n 3, 1) := by decide +kernel
theorem dc_M_done_81 : decode cd_M_done 81 = .ok (.ireturn, 1) := by decide +kernel
theorem dc_M_sendRequest_0 : decode cd_M_sendRequest 0 = .ok (.aload_n 0, 1) := by decide +kernel
theorem dc_M_sendRequest_1 : decode cd_M_sendRequest 1 = .ok (.getfield 71, 3) := by decide +kernel
theorem dc_M_sendRequest_4 : decode cd_M_sendRequest 4 = .ok (.iload_n 2, 1) := by decide +kernel
theorem dc_M_sendRequest_5 : decode cd_M_sendRequest 5 = .ok (.iaload, 1) := by decide +kernel
theorem dc_M_sendRequest_6 : decode cd_M_sendRequest 6 = .ok (.istore 5, 2) := by decide +kernel
theorem dc_M_sendRequest_8 : decode cd_M_sendRequest 8 = .ok (.aload_n 0, 1) := by decide +kernel
theorem dc_M_sendRequest_9 : decode cd_M_sendRequest 9 = .ok (.getfield 62, 3) := by decide +kernel
theorem dc_M_sendRequest_12 : decode cd_M_sendRequest 12 = .ok (.iload 5, 2) := by decide +kernel
theorem dc_M_sendRequest_14 : decode cd_M_sendRequest 14 = .ok (.iaload, 1) := by decide +kernel
theorem dc_M_sendRequest_15 : decode cd_M_sendRequest 15 = .ok (.aload_n 0, 1) := by decide +kernel
theorem dc_M_sendRequest_16 : decode cd_M_sendRequest 16 = .ok (.getfield 62, 3) := by decide +kernel
theorem dc_M_sendRequest_19 : decode cd_M_sendRequest 19 = .ok (.iload_n 1, 1) := by decide +kernel
theorem dc_M_sendRequest_20 : decode cd_M_sendRequest 20 = .ok (.iaload, 1) := by decide +kernel
theorem dc_M_sendRequest_21 : decode cd_M_sendRequest 21 = .ok (.if_icmp .eq 13, 3) := by decide +kernel
theorem dc_M_sendRequest_24 : decode cd_M_sendRequest 24 = .ok (.aload_n 0, 1) := by decide +kernel
theorem dc_M_sendRequest_25 : decode cd_M_sendRequest 25 = .ok (.getfield 68, 3) := by decide +kernel
theorem dc_M_sendRequest_28 : decode cd_M_sendRequest 28 = .ok (.iload_n 2, 1) := by decide +kernel
theorem dc_M_sendRequest_29 : decode cd_M_sendRequest 29 = .ok (.iconst 3, 1) := by decide +kernel
theorem dc_M_sendRequest_30 : decode cd_M_sendRequest 30 = .ok (.iastore, 1) := by decide +kernel
theorem dc_M_sendRequest_31 : decode cd_M_sendRequest 31 = .ok (.goto 60, 3) := by decide +kernel
theorem dc_M_sendRequest_34 : decode cd_M_sendRequest 34 = .ok (.aload_n 0, 1) := by decide +kernel
theorem dc_M_sendRequest_35 : decode cd_M_sendRequest 35 = .ok (.getfield 110, 3) := by decide +kernel
theorem dc_M_sendRequest_38 : decode cd_M_sendRequest 38 = .ok (.iload 5, 2) := by decide +kernel
theorem dc_M_sendRequest_40 : decode cd_M_sendRequest 40 = .ok (.iaload, 1) := by decide +kernel
theorem dc_M_sendRequest_41 : decode cd_M_sendRequest 41 = .ok (.bipush 6, 2) := by decide +kernel
theorem dc_M_sendRequest_43 : decode cd_M_sendRequest 43 = .ok (.if_icmp .ge 21, 3) := by decide +kernel
theorem dc_M_sendRequest_46 : decode cd_M_sendRequest 46 = .ok (.aload_n 0, 1) := by decide +kernel
theorem dc_M_sendRequest_47 : decode cd_M_sendRequest 47 = .ok (.iload 5, 2) := by decide +kernel
theorem dc_M_sendRequest_49 : decode cd_M_sendRequest 49 = .ok (.iload_n 2, 1) := by decide +kernel
theorem dc_M_sendRequest_50 : decode cd_M_sendRequest 50 = .ok (.iload_n 3, 1) := by decide +kernel
theorem dc_M_sendRequest_51 : decode cd_M_sendRequest 51 = .ok (.iconst 0, 1) := by decide +kernel
theorem dc_M_sendRequest_52 : decode cd_M_sendRequest 52 = .ok (.iconst 1, 1) := by decide +kernel
theorem dc_M_sendRequest_53 : decode cd_M_sendRequest 53 = .ok (.aload_n 0, 1) := by decide +kernel
theorem dc_M_sendRequest_54 : decode cd_M_sendRequest 54 = .ok (.iload_n 2, 1) := by decide +kernel
theorem dc_M_sendRequest_55 : decode cd_M_sendRequest 55 = .ok (.invokevirtual 143, 3) := by decide +kernel
theorem dc_M_sendRequest_58 : decode cd_M_sendRequest 58 = .ok (.invokevirtual 139, 3) := by decide +kernel
theorem dc_M_sendRequest_61 : decode cd_M_sendRequest 61 = .ok (.goto 30, 3) := by decide +kernel
theorem dc_M_sendRequest_64 : decode cd_M_sendRequest 64 = .ok (.iload 4, 2) := by decide +kernel
theorem dc_M_sendRequest_66 : decode cd_M_sendRequest 66 = .ok (.iconst 4, 1) := by decide +kernel
theorem dc_M_sendRequest_67 : decode cd_M_sendRequest 67 = .ok (.if_icmp .ne 13, 3) := by decide +kernel
theorem dc_M_sendRequest_70 : decode cd_M_sendRequest 70 = .ok (.aload_n 0, 1) := by decide +kernel
theorem dc_M_sendRequest_71 : decode cd_M_sendRequest 71 = .ok (.getfield 68, 3) := by decide +kernel
theorem dc_M_sendRequest_74 : decode cd_M_sendRequest 74 = .ok (.iload_n 2, 1) := by decide +kernel
theorem dc_M_sendRequest_75 : decode cd_M_sendRequest 75 = .ok (.iconst 2, 1) := by decide +kernel
theorem dc_M_sendRequest_76 : decode cd_M_sendRequest 76 = .ok (.iastore, 1) := by decide +kernel
theorem dc_M_sendRequest_77 : decode cd_M_sendRequest 77 = .ok (.goto 14, 3) := by decide +kernel
theorem dc_M_sendRequest_80 : decode cd_M_sendRequest 80 = .ok (.aload_n 0, 1) := by decide +kernel
theorem dc_M_sendRequest_81 : decode cd_M_sendRequest 81 = .ok (.iload_n 1, 1) := by decide +kernel
theorem dc_M_sendRequest_82 : decode cd_M_sendRequest 82 = .ok (.iload_n 2, 1) := by decide +kernel
theorem dc_M_sendRequest_83 : decode cd_M_sendRequest 83 = .ok (.iload_n 3, 1) := by decide +kernel
theorem dc_M_sendRequest_84 : decode cd_M_sendRequest 84 = .ok (.iload 4, 2) := by decide +kernel
theorem dc_M_sendRequest_86 : decode cd_M_sendRequest 86 = .ok (.iconst 0, 1) := by decide +kernel
theorem dc_M_sendRequest_87 : decode cd_M_sendRequest 87 = .ok (.iconst 0, 1) := by decide +kernel
theorem dc_M_sendRequest_88 : decode cd_M_sendRequest 88 = .ok (.invokevirtual 139, 3) := by decide +kernel
theorem dc_M_sendRequest_91 : decode cd_M_sendRequest 91 = .ok (.return_, 1) := by decide +kernel
theorem dc_M_send_0 : decode cd_M_send 0 = .ok (.bipush 6, 2) := by decide +kernel
theorem dc_M_send_2 : decode cd_M_send 2 = .ok (.iload_n 1, 1) := by decide +kernel
theorem dc_M_send_3 : decode cd_M_send 3 = .ok (.imul, 1) := by decide +kernel
theorem dc_M_send_4 : decode cd_M_send 4 = .ok (.istore_n 2, 1) := by decide +kernel
theorem dc_M_send_5 : decode cd_M_send 5 = .ok (.aload_n 0, 1) := by decide +kernel
theorem dc_M_send_6 : decode cd_M_send 6 = .ok (.getfield 95, 3) := by decide +kernel
theorem dc_M_send_9 : decode cd_M_send 9 = .ok (.iload_n 2, 1) := by decide +kernel
theorem dc_M_send_10 : decode cd_M_send 10 = .ok (.iaload, 1) := by decide +kernel
theorem dc_M_send_11 : decode cd_M_send 11 = .ok (.istore_n 3, 1) := by decide +kernel
theorem dc_M_send_12 : decode cd_M_send 12 = .ok (.aload_n 0, 1) := by decide +kernel
theorem dc_M_send_13 : decode cd_M_send 13 = .ok (.getfield 98, 3) := by decide +kernel
theorem dc_M_send_16 : decode cd_M_send 16 = .ok (.iload_n 2, 1) := by decide +kernel
theorem dc_M_send_17 : decode cd_M_send 17 = .ok (.iaload, 1) := by decide +kernel
theorem dc_M_send_18 : decode cd_M_send 18 = .ok (.istore 4, 2) := by decide +kernel
theorem dc_M_send_20 : decode cd_M_send 20 = .ok (.aload_n 0, 1) := by decide +kernel
theorem dc_M_send_21 : decode cd_M_send 21 = .ok (.getfield 101, 3) := by decide +kernel
theorem dc_M_send_24 : decode cd_M_send 24 = .ok (.iload_n 2, 1) := by decide +kernel
theorem dc_M_send_25 : decode cd_M_send 25 = .ok (.iaload, 1) := by decide +kernel
theorem dc_M_send_26 : decode cd_M_send 26 = .ok (.iconst 1, 1) := by decide +kernel
theorem dc_M_send_27 : decode cd_M_send 27 = .ok (.iadd, 1) := by decide +kernel
theorem dc_M_send_28 : decode cd_M_send 28 = .ok (.istore 5, 2) := by decide +kernel
theorem dc_M_send_30 : decode cd_M_send 30 = .ok (.aload_n 0, 1) := by decide +kernel
theorem dc_M_send_31 : decode cd_M_send 31 = .ok (.getfield 104, 3) := by decide +kernel
theorem dc_M_send_34 : decode cd_M_send 34 = .ok (.iload_n 2, 1) := by decide +kernel
theorem dc_M_send_35 : decode cd_M_send 35 = .ok (.iaload, 1) := by decide +kernel
theorem dc_M_send_36 : decode cd_M_send 36 = .ok (.istore 6, 2) := by decide +kernel
theorem dc_M_send_38 : decode cd_M_send 38 = .ok (.aload_n 0, 1) := by decide +kernel
theorem dc_M_send_39 : decode cd_M_send 39 = .ok (.getfield 107, 3) := by decide +kernel
theorem dc_M_send_42 : decode cd_M_send 42 = .ok (.iload_n 2, 1) := by decide +kernel
theorem dc_M_send_43 : decode cd_M_send 43 = .ok (.baload, 1) := by decide +kernel
theorem dc_M_send_44 : decode cd_M_send 44 = .ok (.istore 7, 2) := by decide +kernel
theorem dc_M_send_46 : decode cd_M_send 46 = .ok (.aload_n 0, 1) := by decide +kernel
theorem dc_M_send_47 : decode cd_M_send 47 = .ok (.iload_n 1, 1) := by decide +kernel
theorem dc_M_send_48 : decode cd_M_send 48 = .ok (.iconst 0, 1) := by decide +kernel
theorem dc_M_send_49 : decode cd_M_send 49 = .ok (.invokevirtual 146, 3) := by decide +kernel
theorem dc_M_send_52 : decode cd_M_send 52 = .ok (.aload_n 0, 1) := by decide +kernel
theorem dc_M_send_53 : decode cd_M_send 53 = .ok (.dup, 1) := by decide +kernel
theorem dc_M_send_54 : decode cd_M_send 54 = .ok (.getfield 150, 3) := by decide +kernel
theorem dc_M_send_57 : decode cd_M_send 57 = .ok (.iconst 1, 1) := by decide +kernel
theorem dc_M_send_58 : decode cd_M_send 58 = .ok (.iadd, 1) := by decide +kernel
theorem dc_M_send_59 : decode cd_M_send 59 = .ok (.putfield 150, 3) := by decide +kernel
theorem dc_M_send_62 : decode cd_M_send 62 = .ok (.iload 7, 2) := by decide +kernel
theorem dc_M_send_64 : decode cd_M_send 64 = .ok (.ifCond .ne 16, 3) := by decide +kernel
theorem dc_M_send_67 : decode cd_M_send 67 = .ok (.aload_n 0, 1) := by decide +kernel
theorem dc_M_send_68 : decode cd_M_send 68 = .ok (.iload_n 1, 1) := by decide +kernel
theorem dc_M_send_69 : decode cd_M_send 69 = .ok (.iload_n 3, 1) := by decide +kernel
theorem dc_M_send_70 : decode cd_M_send 70 = .ok (.iload 4, 2) := by decide +kernel
theorem dc_M_send_72 : decode cd_M_send 72 = .ok (.iload 5, 2) := by decide +kernel
theorem dc_M_send_74 : decode cd_M_send 74 = .ok (.invokevirtual 153, 3) := by decide +kernel
theorem dc_M_send_77 : decode cd_M_send 77 = .ok (.goto 39, 3) := by decide +kernel
theorem dc_M_send_80 : decode cd_M_send 80 = .ok (.aload_n 0, 1) := by decide +kernel
theorem dc_M_send_81 : decode cd_M_send 81 = .ok (.getfield 68, 3) := by decide +kernel
theorem dc_M_send_84 : decode cd_M_send 84 = .ok (.iload_n 3, 1) := by decide +kernel
theorem dc_M_send_85 : decode cd_M_send 85 = .ok (.iaload, 1) := by decide +kernel
theorem dc_M_send_86 : decode cd_M_send 86 = .ok (.iconst (-1), 1) := by decide +kernel
theorem dc_M_send_87 : decode cd_M_send 87 = .ok (.if_icmp .ne 29, 3) := by decide +kernel
theorem dc_M_send_90 : decode cd_M_send 90 = .ok (.aload_n 0, 1) := by decide +kernel
theorem dc_M_send_91 : decode cd_M_send 91 = .ok (.getfield 92, 3) := by decide +kernel
theorem dc_M_send_94 : decode cd_M_send 94 = .ok (.iload_n 3, 1) := by decide +kernel
theorem dc_M_send_95 : decode cd_M_send 95 = .ok (.iaload, 1) := by decide +kernel
theorem dc_M_send_96 : decode cd_M_send 96 = .ok (.iload 4, 2) := by decide +kernel
theorem dc_M_send_98 : decode cd_M_send 98 = .ok (.if_icmp .ne 18, 3) := by decide +kernel
theorem dc_M_send_101 : decode cd_M_send 101 = .ok (.aload_n 0, 1) := by decide +kernel
theorem dc_M_send_102 : decode cd_M_send 102 = .ok (.getfield 68, 3) := by decide +kernel
theorem dc_M_send_105 : decode cd_M_send 105 = .ok (.iload_n 3, 1) := by decide +kernel
theorem dc_M_send_106 : decode cd_M_send 106 = .ok (.iconst 0, 1) := by decide +kernel
theorem dc_M_send_107 : decode cd_M_send 107 = .ok (.iastore, 1) := by decide +kernel
theorem dc_M_send_108 : decode cd_M_send 108 = .ok (.aload_n 0, 1) := by decide +kernel
theorem dc_M_send_109 : decode cd_M_send 109 = .ok (.getfield 86, 3) := by decide +kernel
theorem dc_M_send_112 : decode cd_M_send 112 = .ok (.iload_n 3, 1) := by decide +kernel
theorem dc_M_send_113 : decode cd_M_send 113 = .ok (.iload 6, 2) := by decide +kernel
theorem dc_M_send_115 : decode cd_M_send 115 = .ok (.iastore, 1) := by decide +kernel
theorem dc_M_send_116 : decode cd_M_send 116 = .ok (.return_, 1) := by decide +kernel
theorem dc_M_openAt_0 : decode cd_M_openAt 0 = .ok (.iconst 0, 1) := by decide +kernel
theorem dc_M_openAt_1 : decode cd_M_openAt 1 = .ok (.istore_n 2, 1) := by decide +kernel
theorem dc_M_openAt_2 : decode cd_M_openAt 2 = .ok (.iconst 0, 1) := by decide +kernel
theorem dc_M_openAt_3 : decode cd_M_openAt 3 = .ok (.istore_n 3, 1) := by decide +kernel
theorem dc_M_openAt_4 : decode cd_M_openAt 4 = .ok (.iload_n 3, 1) := by decide +kernel
theorem dc_M_openAt_5 : decode cd_M_openAt 5 = .ok (.iconst 3, 1) := by decide +kernel
theorem dc_M_openAt_6 : decode cd_M_openAt 6 = .ok (.if_icmp .ge 25, 3) := by decide +kernel
theorem dc_M_openAt_9 : decode cd_M_openAt 9 = .ok (.aload_n 0, 1) := by decide +kernel
theorem dc_M_openAt_10 : decode cd_M_openAt 10 = .ok (.getfield 13, 3) := by decide +kernel
theorem dc_M_openAt_13 : decode cd_M_openAt 13 = .ok (.iconst 3, 1) := by decide +kernel
theorem dc_M_openAt_14 : decode cd_M_openAt 14 = .ok (.iload_n 1, 1) := by decide +kernel
theorem dc_M_openAt_15 : decode cd_M_openAt 15 = .ok (.imul, 1) := by decide +kernel
theorem dc_M_openAt_16 : decode cd_M_openAt 16 = .ok (.iload_n 3, 1) := by decide +kernel
theorem dc_M_openAt_17 : decode cd_M_openAt 17 = .ok (.iadd, 1) := by decide +kernel
theorem dc_M_openAt_18 : decode cd_M_openAt 18 = .ok (.baload, 1) := by decide +kernel
theorem dc_M_openAt_19 : decode cd_M_openAt 19 = .ok (.ifCond .eq 6, 3) := by decide +kernel
theorem dc_M_openAt_22 : decode cd_M_openAt 22 = .ok (.iinc 2 1, 3) := by decide +kernel
theorem dc_M_openAt_25 : decode cd_M_openAt 25 = .ok (.iinc 3 1, 3) := by decide +kernel
theorem dc_M_openAt_28 : decode cd_M_openAt 28 = .ok (.goto (-24), 3) := by decide +kernel
theorem dc_M_openAt_31 : decode cd_M_openAt 31 = .ok (.iload_n 2, 1) := by decide +kernel
theorem dc_M_openAt_32 : decode cd_M_openAt 32 = .ok (.ireturn, 1) := by decide +kernel
theorem dc_M_nextBit_0 : decode cd_M_nextBit 0 = .ok (.aload_n 0, 1) := by decide +kernel
theorem dc_M_nextBit_1 : decode cd_M_nextBit 1 = .ok (.getfield 17, 3) := by decide +kernel
theorem dc_M_nextBit_4 : decode cd_M_nextBit 4 = .ok (.iload_n 1, 1) := by decide +kernel
theorem dc_M_nextBit_5 : decode cd_M_nextBit 5 = .ok (.iaload, 1) := by decide +kernel
theorem dc_M_nextBit_6 : decode cd_M_nextBit 6 = .ok (.aload_n 0, 1) := by decide +kernel
theorem dc_M_nextBit_7 : decode cd_M_nextBit 7 = .ok (.getfield 20, 3) := by decide +kernel
theorem dc_M_nextBit_10 : decode cd_M_nextBit 10 = .ok (.iload_n 1, 1) := by decide +kernel
theorem dc_M_nextBit_11 : decode cd_M_nextBit 11 = .ok (.iaload, 1) := by decide +kernel
theorem dc_M_nextBit_12 : decode cd_M_nextBit 12 = .ok (.ishr, 1) := by decide +kernel
theorem dc_M_nextBit_13 : decode cd_M_nextBit 13 = .ok (.iconst 1, 1) := by decide +kernel
theorem dc_M_nextBit_14 : decode cd_M_nextBit 14 = .ok (.iand, 1) := by decide +kernel
theorem dc_M_nextBit_15 : decode cd_M_nextBit 15 = .ok (.istore_n 2, 1) := by decide +kernel
theorem dc_M_nextBit_16 : decode cd_M_nextBit 16 = .ok (.aload_n 0, 1) := by decide +kernel
theorem dc_M_nextBit_17 : decode cd_M_nextBit 17 = .ok (.getfield 20, 3) := by decide +kernel
theorem dc_M_nextBit_20 : decode cd_M_nextBit 20 = .ok (.iload_n 1, 1) := by decide +kernel
theorem dc_M_nextBit_21 : decode cd_M_nextBit 21 = .ok (.aload_n 0, 1) := by decide +kernel
theorem dc_M_nextBit_22 : decode cd_M_nextBit 22 = .ok (.getfield 20, 3) := by decide +kernel
theorem dc_M_nextBit_25 : decode cd_M_nextBit 25 = .ok (.iload_n 1, 1) := by decide +kernel
theorem dc_M_nextBit_26 : decode cd_M_nextBit 26 = .ok (.iaload, 1) := by decide +kernel
theorem dc_M_nextBit_27 : decode cd_M_nextBit 27 = .ok (.iconst 1, 1) := by decide +kernel
theorem dc_M_nextBit_28 : decode cd_M_nextBit 28 = .ok (.iadd, 1) := by decide +kernel
theorem dc_M_nextBit_29 : decode cd_M_nextBit 29 = .ok (.bipush 16, 2) := by decide +kernel
theorem dc_M_nextBit_31 : decode cd_M_nextBit 31 = .ok (.irem, 1) := by decide +kernel
theorem dc_M_nextBit_32 : decode cd_M_nextBit 32 = .ok (.iastore, 1) := by decide +kernel
theorem dc_M_nextBit_33 : decode cd_M_nextBit 33 = .ok (.iload_n 2, 1) := by decide +kernel
theorem dc_M_nextBit_34 : decode cd_M_nextBit 34 = .ok (.ireturn, 1) := by decide +kernel
theorem dc_M_close_0 : decode cd_M_close 0 = .ok (.aload_n 0, 1) := by decide +kernel
theorem dc_M_close_1 : decode cd_M_close 1 = .ok (.getfield 13, 3) := by decide +kernel
theorem dc_M_close_4 : decode cd_M_close 4 = .ok (.iload_n 1, 1) := by decide +kernel
theorem dc_M_close_5 : decode cd_M_close 5 = .ok (.aload_n 0, 1) := by decide +kernel
theorem dc_M_close_6 : decode cd_M_close 6 = .ok (.getfield 13, 3) := by decide +kernel
theorem dc_M_close_9 : decode cd_M_close 9 = .ok (.iload_n 2, 1) := by decide +kernel
theorem dc_M_close_10 : decode cd_M_close 10 = .ok (.iconst 0, 1) := by decide +kernel
theorem dc_M_close_11 : decode cd_M_close 11 = .ok (.dup_x2, 1) := by decide +kernel
theorem dc_M_close_12 : decode cd_M_close 12 = .ok (.bastore, 1) := by decide +kernel
theorem dc_M_close_13 : decode cd_M_close 13 = .ok (.bastore, 1) := by decide +kernel
theorem dc_M_close_14 : decode cd_M_close 14 = .ok (.aload_n 0, 1) := by decide +kernel
theorem dc_M_close_15 : decode cd_M_close 15 = .ok (.getfield 50, 3) := by decide +kernel
theorem dc_M_close_18 : decode cd_M_close 18 = .ok (.iload_n 1, 1) := by decide +kernel
theorem dc_M_close_19 : decode cd_M_close 19 = .ok (.iconst 3, 1) := by decide +kernel
theorem dc_M_close_20 : decode cd_M_close 20 = .ok (.idiv, 1) := by decide +kernel
theorem dc_M_close_21 : decode cd_M_close 21 = .ok (.iload_n 2, 1) := by decide +kernel
theorem dc_M_close_22 : decode cd_M_close 22 = .ok (.iconst 3, 1) := by decide +kernel
theorem dc_M_close_23 : decode cd_M_close 23 = .ok (.idiv, 1) := by decide +kernel
theorem dc_M_close_24 : decode cd_M_close 24 = .ok (.iastore, 1) := by decide +kernel
theorem dc_M_close_25 : decode cd_M_close 25 = .ok (.return_, 1) := by decide +kernel
theorem dc_M_round_0 : decode cd_M_round 0 = .ok (.iconst 0, 1) := by decide +kernel
theorem dc_M_round_1 : decode cd_M_round 1 = .ok (.istore_n 3, 1) := by decide +kernel
theorem dc_M_round_2 : decode cd_M_round 2 = .ok (.iload_n 3, 1) := by decide +kernel
theorem dc_M_round_3 : decode cd_M_round 3 = .ok (.bipush 12, 2) := by decide +kernel
theorem dc_M_round_5 : decode cd_M_round 5 = .ok (.if_icmp .ge 53, 3) := by decide +kernel
theorem dc_M_round_8 : decode cd_M_round 8 = .ok (.aload_n 0, 1) := by decide +kernel
theorem dc_M_round_9 : decode cd_M_round 9 = .ok (.getfield 65, 3) := by decide +kernel
theorem dc_M_round_12 : decode cd_M_round 12 = .ok (.iload_n 3, 1) := by decide +kernel
theorem dc_M_round_13 : decode cd_M_round 13 = .ok (.aload_n 0, 1) := by decide +kernel
theorem dc_M_round_14 : decode cd_M_round 14 = .ok (.getfield 62, 3) := by decide +kernel
theorem dc_M_round_17 : decode cd_M_round 17 = .ok (.iload_n 3, 1) := by decide +kernel
theorem dc_M_round_18 : decode cd_M_round 18 = .ok (.iaload, 1) := by decide +kernel
theorem dc_M_round_19 : decode cd_M_round 19 = .ok (.iload_n 1, 1) := by decide +kernel
theorem dc_M_round_20 : decode cd_M_round 20 = .ok (.if_icmp .ne 30, 3) := by decide +kernel
theorem dc_M_round_23 : decode cd_M_round 23 = .ok (.aload_n 0, 1) := by decide +kernel
theorem dc_M_round_24 : decode cd_M_round 24 = .ok (.iload_n 3, 1) := by decide +kernel
theorem dc_M_round_25 : decode cd_M_round 25 = .ok (.invokevirtual 157, 3) := by decide +kernel
theorem dc_M_round_28 : decode cd_M_round 28 = .ok (.iconst 1, 1) := by decide +kernel
theorem dc_M_round_29 : decode cd_M_round 29 = .ok (.if_icmp .ne 21, 3) := by decide +kernel
theorem dc_M_round_32 : decode cd_M_round 32 = .ok (.aload_n 0, 1) := by decide +kernel
theorem dc_M_round_33 : decode cd_M_round 33 = .ok (.getfield 32, 3) := by decide +kernel
theorem dc_M_round_36 : decode cd_M_round 36 = .ok (.iload_n 3, 1) := by decide +kernel
theorem dc_M_round_37 : decode cd_M_round 37 = .ok (.baload, 1) := by decide +kernel
theorem dc_M_round_38 : decode cd_M_round 38 = .ok (.ifCond .eq 8, 3) := by decide +kernel
theorem dc_M_round_41 : decode cd_M_round 41 = .ok (.iload_n 2, 1) := by decide +kernel
theorem dc_M_round_42 : decode cd_M_round 42 = .ok (.iconst 4, 1) := by decide +kernel
theorem dc_M_round_43 : decode cd_M_round 43 = .ok (.if_icmp .le 7, 3) := by decide +kernel
theorem dc_M_round_46 : decode cd_M_round 46 = .ok (.iconst 1, 1) := by decide +kernel
theorem dc_M_round_47 : decode cd_M_round 47 = .ok (.goto 4, 3) := by decide +kernel
theorem dc_M_round_50 : decode cd_M_round 50 = .ok (.iconst 0, 1) := by decide +kernel
theorem dc_M_round_51 : decode cd_M_round 51 = .ok (.bastore, 1) := by decide +kernel
theorem dc_M_round_52 : decode cd_M_round 52 = .ok (.iinc 3 1, 3) := by decide +kernel
theorem dc_M_round_55 : decode cd_M_round 55 = .ok (.goto (-53), 3) := by decide +kernel
theorem dc_M_round_58 : decode cd_M_round 58 = .ok (.iconst 0, 1) := by decide +kernel
theorem dc_M_round_59 : decode cd_M_round 59 = .ok (.istore_n 3, 1) := by decide +kernel
theorem dc_M_round_60 : decode cd_M_round 60 = .ok (.iload_n 3, 1) := by decide +kernel
theorem dc_M_round_61 : decode cd_M_round 61 = .ok (.bipush 36, 2) := by decide +kernel
theorem dc_M_round_63 : decode cd_M_round 63 = .ok (.if_icmp .ge 173, 3) := by decide +kernel
theorem dc_M_round_66 : decode cd_M_round 66 = .ok (.aload_n 0, 1) := by decide +kernel
theorem dc_M_round_67 : decode cd_M_round 67 = .ok (.getfield 62, 3) := by decide +kernel
theorem dc_M_round_70 : decode cd_M_round 70 = .ok (.iload_n 3, 1) := by decide +kernel
theorem dc_M_round_71 : decode cd_M_round 71 = .ok (.iconst 3, 1) := by decide +kernel
theorem dc_M_round_72 : decode cd_M_round 72 = .ok (.idiv, 1) := by decide +kernel
theorem dc_M_round_73 : decode cd_M_round 73 = .ok (.iaload, 1) := by decide +kernel
theorem dc_M_round_74 : decode cd_M_round 74 = .ok (.iload_n 1, 1) := by decide +kernel
theorem dc_M_round_75 : decode cd_M_round 75 = .ok (.if_icmp .ne 155, 3) := by decide +kernel
theorem dc_M_round_78 : decode cd_M_round 78 = .ok (.aload_n 0, 1) := by decide +kernel
theorem dc_M_round_79 : decode cd_M_round 79 = .ok (.getfield 13, 3) := by decide +kernel
theorem dc_M_round_82 : decode cd_M_round 82 = .ok (.iload_n 3, 1) := by decide +kernel
theorem dc_M_round_83 : decode cd_M_round 83 = .ok (.baload, 1) := by decide +kernel
theorem dc_M_round_84 : decode cd_M_round 84 = .ok (.ifCond .eq 146, 3) := by decide +kernel
theorem dc_M_round_87 : decode cd_M_round 87 = .ok (.aload_n 0, 1) := by decide +kernel
theorem dc_M_round_88 : decode cd_M_round 88 = .ok (.getfield 7, 3) := by decide +kernel
theorem dc_M_round_91 : decode cd_M_round 91 = .ok (.iload_n 3, 1) := by decide +kernel
theorem dc_M_round_92 : decode cd_M_round 92 = .ok (.iaload, 1) := by decide +kernel
theorem dc_M_round_93 : decode cd_M_round 93 = .ok (.iload_n 3, 1) := by decide +kernel
theorem dc_M_round_94 : decode cd_M_round 94 = .ok (.if_icmp .ge 6, 3) := by decide +kernel
theorem dc_M_round_97 : decode cd_M_round 97 = .ok (.goto 133, 3) := by decide +kernel
theorem dc_M_round_100 : decode cd_M_round 100 = .ok (.aload_n 0, 1) := by decide +kernel
theorem dc_M_round_101 : decode cd_M_round 101 = .ok (.getfield 7, 3) := by decide +kernel
theorem dc_M_round_104 : decode cd_M_round 104 = .ok (.iload_n 3, 1) := by decide +kernel
theorem dc_M_round_105 : decode cd_M_round 105 = .ok (.iaload, 1) := by decide +kernel
theorem dc_M_round_106 : decode cd_M_round 106 = .ok (.istore 4, 2) := by decide +kernel
theorem dc_M_round_108 : decode cd_M_round 108 = .ok (.iload_n 3, 1) := by decide +kernel
theorem dc_M_round_109 : decode cd_M_round 109 = .ok (.iconst 3, 1) := by decide +kernel
theorem dc_M_round_110 : decode cd_M_round 110 = .ok (.idiv, 1) := by decide +kernel
theorem dc_M_round_111 : decode cd_M_round 111 = .ok (.istore 5, 2) := by decide +kernel
theorem dc_M_round_113 : decode cd_M_round 113 = .ok (.iload 4, 2) := by decide +kernel
theorem dc_M_round_115 : decode cd_M_round 115 = .ok (.iconst 3, 1) := by decide +kernel
theorem dc_M_round_116 : decode cd_M_round 116 = .ok (.idiv, 1) := by decide +kernel
theorem dc_M_round_117 : decode cd_M_round 117 = .ok (.istore 6, 2) := by decide +kernel
theorem dc_M_round_119 : decode cd_M_round 119 = .ok (.aload_n 0, 1) := by decide +kernel
theorem dc_M_round_120 : decode cd_M_round 120 = .ok (.getfield 65, 3) := by decide +kernel
theorem dc_M_round_123 : decode cd_M_round 123 = .ok (.iload 5, 2) := by decide +kernel
theorem dc_M_round_125 : decode cd_M_round 125 = .ok (.baload, 1) := by decide +kernel
theorem dc_M_round_126 : decode cd_M_round 126 = .ok (.ifCond .eq 67, 3) := by decide +kernel
theorem dc_M_round_129 : decode cd_M_round 129 = .ok (.aload_n 0, 1) := by decide +kernel
theorem dc_M_round_130 : decode cd_M_round 130 = .ok (.getfield 65, 3) := by decide +kernel
theorem dc_M_round_133 : decode cd_M_round 133 = .ok (.iload 6, 2) := by decide +kernel
theorem dc_M_round_135 : decode cd_M_round 135 = .ok (.baload, 1) := by decide +kernel
theorem dc_M_round_136 : decode cd_M_round 136 = .ok (.ifCond .eq 57, 3) := by decide +kernel
theorem dc_M_round_139 : decode cd_M_round 139 = .ok (.aload_n 0, 1) := by decide +kernel
theorem dc_M_round_140 : decode cd_M_round 140 = .ok (.iload 5, 2) := by decide +kernel
theorem dc_M_round_142 : decode cd_M_round 142 = .ok (.invokevirtual 160, 3) := by decide +kernel
theorem dc_M_round_145 : decode cd_M_round 145 = .ok (.istore 7, 2) := by decide +kernel
theorem dc_M_round_147 : decode cd_M_round 147 = .ok (.aload_n 0, 1) := by decide +kernel
theorem dc_M_round_148 : decode cd_M_round 148 = .ok (.iload 6, 2) := by decide +kernel
theorem dc_M_round_150 : decode cd_M_round 150 = .ok (.invokevirtual 160, 3) := by decide +kernel
theorem dc_M_round_153 : decode cd_M_round 153 = .ok (.istore 8, 2) := by decide +kernel
theorem dc_M_round_155 : decode cd_M_round 155 = .ok (.iload 7, 2) := by decide +kernel
theorem dc_M_round_157 : decode cd_M_round 157 = .ok (.iload 8, 2) := by decide +kernel
theorem dc_M_round_159 : decode cd_M_round 159 = .ok (.if_icmp .eq 31, 3) := by decide +kernel
theorem dc_M_round_162 : decode cd_M_round 162 = .ok (.aload_n 0, 1) := by decide +kernel
theorem dc_M_round_163 : decode cd_M_round 163 = .ok (.iload 7, 2) := by decide +kernel
theorem dc_M_round_165 : decode cd_M_round 165 = .ok (.iconst 1, 1) := by decide +kernel
theorem dc_M_round_166 : decode cd_M_round 166 = .ok (.if_icmp .ne 8, 3) := by decide +kernel
theorem dc_M_round_169 : decode cd_M_round 169 = .ok (.iload 4, 2) := by decide +kernel
theorem dc_M_round_171 : decode cd_M_round 171 = .ok (.goto 4, 3) := by decide +kernel
theorem dc_M_round_174 : decode cd_M_round 174 = .ok (.iload_n 3, 1) := by decide +kernel
theorem dc_M_round_175 : decode cd_M_round 175 = .ok (.iload 7, 2) := by decide +kernel
theorem dc_M_round_177 : decode cd_M_round 177 = .ok (.iconst 1, 1) := by decide +kernel
theorem dc_M_round_178 : decode cd_M_round 178 = .ok (.if_icmp .ne 7, 3) := by decide +kernel
theorem dc_M_round_181 : decode cd_M_round 181 = .ok (.iload_n 3, 1) := by decide +kernel
theorem dc_M_round_182 : decode cd_M_round 182 = .ok (.goto 5, 3) := by decide +kernel
theorem dc_M_round_185 : decode cd_M_round 185 = .ok (.iload 4, 2) := by decide +kernel
theorem dc_M_round_187 : decode cd_M_round 187 = .ok (.invokevirtual 163, 3) := by decide +kernel
theorem dc_M_round_190 : decode cd_M_round 190 = .ok (.goto 40, 3) := by decide +kernel
theorem dc_M_round_193 : decode cd_M_round 193 = .ok (.aload_n 0, 1) := by decide +kernel
theorem dc_M_round_194 : decode cd_M_round 194 = .ok (.getfield 65, 3) := by decide +kernel
theorem dc_M_round_197 : decode cd_M_round 197 = .ok (.iload 5, 2) := by decide +kernel
theorem dc_M_round_199 : decode cd_M_round 199 = .ok (.baload, 1) := by decide +kernel
theorem dc_M_round_200 : decode cd_M_round 200 = .ok (.ifCond .eq 13, 3) := by decide +kernel
theorem dc_M_round_203 : decode cd_M_round 203 = .ok (.aload_n 0, 1) := by decide +kernel
theorem dc_M_round_204 : decode cd_M_round 204 = .ok (.iload_n 3, 1) := by decide +kernel
end
section
theorem dc_M_round_205 : decode cd_M_round 205 = .ok (.iload 4, 2) := by decide +kernel
theorem dc_M_round_207 : decode cd_M_round 207 = .ok (.invokevirtual 163, 3) := by decide +kernel
theorem dc_M_round_210 : decode cd_M_round 210 = .ok (.goto 20, 3) := by decide +kernel
theorem dc_M_round_213 : decode cd_M_round 213 = .ok (.aload_n 0, 1) := by decide +kernel
theorem dc_M_round_214 : decode cd_M_round 214 = .ok (.getfield 65, 3) := by decide +kernel
theorem dc_M_round_217 : decode cd_M_round 217 = .ok (.iload 6, 2) := by decide +kernel
theorem dc_M_round_219 : decode cd_M_round 219 = .ok (.baload, 1) := by decide +kernel
theorem dc_M_round_220 : decode cd_M_round 220 = .ok (.ifCond .eq 10, 3) := by decide +kernel
theorem dc_M_round_223 : decode cd_M_round 223 = .ok (.aload_n 0, 1) := by decide +kernel
theorem dc_M_round_224 : decode cd_M_round 224 = .ok (.iload 4, 2) := by decide +kernel
theorem dc_M_round_226 : decode cd_M_round 226 = .ok (.iload_n 3, 1) := by decide +kernel
theorem dc_M_round_227 : decode cd_M_round 227 = .ok (.invokevirtual 163, 3) := by decide +kernel
theorem dc_M_round_230 : decode cd_M_round 230 = .ok (.iinc 3 1, 3) := by decide +kernel
theorem dc_M_round_233 : decode cd_M_round 233 = .ok (.goto (-173), 3) := by decide +kernel
theorem dc_M_round_236 : decode cd_M_round 236 = .ok (.return_, 1) := by decide +kernel
theorem dc_M_anyOpen_0 : decode cd_M_anyOpen 0 = .ok (.iconst 0, 1) := by decide +kernel
theorem dc_M_anyOpen_1 : decode cd_M_anyOpen 1 = .ok (.istore_n 2, 1) := by decide +kernel
theorem dc_M_anyOpen_2 : decode cd_M_anyOpen 2 = .ok (.iconst 0, 1) := by decide +kernel
theorem dc_M_anyOpen_3 : decode cd_M_anyOpen 3 = .ok (.istore_n 3, 1) := by decide +kernel
theorem dc_M_anyOpen_4 : decode cd_M_anyOpen 4 = .ok (.iload_n 3, 1) := by decide +kernel
theorem dc_M_anyOpen_5 : decode cd_M_anyOpen 5 = .ok (.bipush 36, 2) := by decide +kernel
theorem dc_M_anyOpen_7 : decode cd_M_anyOpen 7 = .ok (.if_icmp .ge 32, 3) := by decide +kernel
theorem dc_M_anyOpen_10 : decode cd_M_anyOpen 10 = .ok (.aload_n 0, 1) := by decide +kernel
theorem dc_M_anyOpen_11 : decode cd_M_anyOpen 11 = .ok (.getfield 62, 3) := by decide +kernel
theorem dc_M_anyOpen_14 : decode cd_M_anyOpen 14 = .ok (.iload_n 3, 1) := by decide +kernel
theorem dc_M_anyOpen_15 : decode cd_M_anyOpen 15 = .ok (.iconst 3, 1) := by decide +kernel
theorem dc_M_anyOpen_16 : decode cd_M_anyOpen 16 = .ok (.idiv, 1) := by decide +kernel
theorem dc_M_anyOpen_17 : decode cd_M_anyOpen 17 = .ok (.iaload, 1) := by decide +kernel
theorem dc_M_anyOpen_18 : decode cd_M_anyOpen 18 = .ok (.iload_n 1, 1) := by decide +kernel
theorem dc_M_anyOpen_19 : decode cd_M_anyOpen 19 = .ok (.if_icmp .ne 14, 3) := by decide +kernel
theorem dc_M_anyOpen_22 : decode cd_M_anyOpen 22 = .ok (.aload_n 0, 1) := by decide +kernel
theorem dc_M_anyOpen_23 : decode cd_M_anyOpen 23 = .ok (.getfield 13, 3) := by decide +kernel
theorem dc_M_anyOpen_26 : decode cd_M_anyOpen 26 = .ok (.iload_n 3, 1) := by decide +kernel
theorem dc_M_anyOpen_27 : decode cd_M_anyOpen 27 = .ok (.baload, 1) := by decide +kernel
theorem dc_M_anyOpen_28 : decode cd_M_anyOpen 28 = .ok (.ifCond .eq 5, 3) := by decide +kernel
theorem dc_M_anyOpen_31 : decode cd_M_anyOpen 31 = .ok (.iconst 1, 1) := by decide +kernel
theorem dc_M_anyOpen_32 : decode cd_M_anyOpen 32 = .ok (.istore_n 2, 1) := by decide +kernel
theorem dc_M_anyOpen_33 : decode cd_M_anyOpen 33 = .ok (.iinc 3 1, 3) := by decide +kernel
theorem dc_M_anyOpen_36 : decode cd_M_anyOpen 36 = .ok (.goto (-32), 3) := by decide +kernel
theorem dc_M_anyOpen_39 : decode cd_M_anyOpen 39 = .ok (.iload_n 2, 1) := by decide +kernel
theorem dc_M_anyOpen_40 : decode cd_M_anyOpen 40 = .ok (.ireturn, 1) := by decide +kernel
theorem dc_M_clean_0 : decode cd_M_clean 0 = .ok (.iconst 0, 1) := by decide +kernel
theorem dc_M_clean_1 : decode cd_M_clean 1 = .ok (.istore_n 2, 1) := by decide +kernel
theorem dc_M_clean_2 : decode cd_M_clean 2 = .ok (.iload_n 2, 1) := by decide +kernel
theorem dc_M_clean_3 : decode cd_M_clean 3 = .ok (.bipush 12, 2) := by decide +kernel
theorem dc_M_clean_5 : decode cd_M_clean 5 = .ok (.if_icmp .ge 182, 3) := by decide +kernel
theorem dc_M_clean_8 : decode cd_M_clean 8 = .ok (.aload_n 0, 1) := by decide +kernel
theorem dc_M_clean_9 : decode cd_M_clean 9 = .ok (.getfield 62, 3) := by decide +kernel
theorem dc_M_clean_12 : decode cd_M_clean 12 = .ok (.iload_n 2, 1) := by decide +kernel
theorem dc_M_clean_13 : decode cd_M_clean 13 = .ok (.iaload, 1) := by decide +kernel
theorem dc_M_clean_14 : decode cd_M_clean 14 = .ok (.iload_n 1, 1) := by decide +kernel
theorem dc_M_clean_15 : decode cd_M_clean 15 = .ok (.if_icmp .eq 6, 3) := by decide +kernel
theorem dc_M_clean_18 : decode cd_M_clean 18 = .ok (.goto 163, 3) := by decide +kernel
theorem dc_M_clean_21 : decode cd_M_clean 21 = .ok (.iconst 4, 1) := by decide +kernel
theorem dc_M_clean_22 : decode cd_M_clean 22 = .ok (.iload_n 2, 1) := by decide +kernel
theorem dc_M_clean_23 : decode cd_M_clean 23 = .ok (.imul, 1) := by decide +kernel
theorem dc_M_clean_24 : decode cd_M_clean 24 = .ok (.istore_n 3, 1) := by decide +kernel
theorem dc_M_clean_25 : decode cd_M_clean 25 = .ok (.iload_n 3, 1) := by decide +kernel
theorem dc_M_clean_26 : decode cd_M_clean 26 = .ok (.iconst 4, 1) := by decide +kernel
theorem dc_M_clean_27 : decode cd_M_clean 27 = .ok (.iload_n 2, 1) := by decide +kernel
theorem dc_M_clean_28 : decode cd_M_clean 28 = .ok (.imul, 1) := by decide +kernel
theorem dc_M_clean_29 : decode cd_M_clean 29 = .ok (.iconst 4, 1) := by decide +kernel
theorem dc_M_clean_30 : decode cd_M_clean 30 = .ok (.iadd, 1) := by decide +kernel
theorem dc_M_clean_31 : decode cd_M_clean 31 = .ok (.if_icmp .ge 26, 3) := by decide +kernel
theorem dc_M_clean_34 : decode cd_M_clean 34 = .ok (.aload_n 0, 1) := by decide +kernel
theorem dc_M_clean_35 : decode cd_M_clean 35 = .ok (.getfield 68, 3) := by decide +kernel
theorem dc_M_clean_38 : decode cd_M_clean 38 = .ok (.iload_n 3, 1) := by decide +kernel
theorem dc_M_clean_39 : decode cd_M_clean 39 = .ok (.iaload, 1) := by decide +kernel
theorem dc_M_clean_40 : decode cd_M_clean 40 = .ok (.iconst (-1), 1) := by decide +kernel
theorem dc_M_clean_41 : decode cd_M_clean 41 = .ok (.if_icmp .ne 10, 3) := by decide +kernel
theorem dc_M_clean_44 : decode cd_M_clean 44 = .ok (.aload_n 0, 1) := by decide +kernel
theorem dc_M_clean_45 : decode cd_M_clean 45 = .ok (.getfield 68, 3) := by decide +kernel
theorem dc_M_clean_48 : decode cd_M_clean 48 = .ok (.iload_n 3, 1) := by decide +kernel
theorem dc_M_clean_49 : decode cd_M_clean 49 = .ok (.iconst 1, 1) := by decide +kernel
theorem dc_M_clean_50 : decode cd_M_clean 50 = .ok (.iastore, 1) := by decide +kernel
theorem dc_M_clean_51 : decode cd_M_clean 51 = .ok (.iinc 3 1, 3) := by decide +kernel
theorem dc_M_clean_54 : decode cd_M_clean 54 = .ok (.goto (-29), 3) := by decide +kernel
theorem dc_M_clean_57 : decode cd_M_clean 57 = .ok (.aload_n 0, 1) := by decide +kernel
theorem dc_M_clean_58 : decode cd_M_clean 58 = .ok (.getfield 110, 3) := by decide +kernel
theorem dc_M_clean_61 : decode cd_M_clean 61 = .ok (.iload_n 2, 1) := by decide +kernel
theorem dc_M_clean_62 : decode cd_M_clean 62 = .ok (.iconst 0, 1) := by decide +kernel
theorem dc_M_clean_63 : decode cd_M_clean 63 = .ok (.iastore, 1) := by decide +kernel
theorem dc_M_clean_64 : decode cd_M_clean 64 = .ok (.aload_n 0, 1) := by decide +kernel
theorem dc_M_clean_65 : decode cd_M_clean 65 = .ok (.getfield 38, 3) := by decide +kernel
theorem dc_M_clean_68 : decode cd_M_clean 68 = .ok (.iload_n 2, 1) := by decide +kernel
theorem dc_M_clean_69 : decode cd_M_clean 69 = .ok (.aload_n 0, 1) := by decide +kernel
theorem dc_M_clean_70 : decode cd_M_clean 70 = .ok (.getfield 41, 3) := by decide +kernel
theorem dc_M_clean_73 : decode cd_M_clean 73 = .ok (.iload_n 2, 1) := by decide +kernel
theorem dc_M_clean_74 : decode cd_M_clean 74 = .ok (.aload_n 0, 1) := by decide +kernel
theorem dc_M_clean_75 : decode cd_M_clean 75 = .ok (.getfield 44, 3) := by decide +kernel
theorem dc_M_clean_78 : decode cd_M_clean 78 = .ok (.iload_n 2, 1) := by decide +kernel
theorem dc_M_clean_79 : decode cd_M_clean 79 = .ok (.iconst 0, 1) := by decide +kernel
theorem dc_M_clean_80 : decode cd_M_clean 80 = .ok (.dup_x2, 1) := by decide +kernel
theorem dc_M_clean_81 : decode cd_M_clean 81 = .ok (.bastore, 1) := by decide +kernel
theorem dc_M_clean_82 : decode cd_M_clean 82 = .ok (.dup_x2, 1) := by decide +kernel
theorem dc_M_clean_83 : decode cd_M_clean 83 = .ok (.bastore, 1) := by decide +kernel
theorem dc_M_clean_84 : decode cd_M_clean 84 = .ok (.bastore, 1) := by decide +kernel
theorem dc_M_clean_85 : decode cd_M_clean 85 = .ok (.aload_n 0, 1) := by decide +kernel
theorem dc_M_clean_86 : decode cd_M_clean 86 = .ok (.getfield 47, 3) := by decide +kernel
theorem dc_M_clean_89 : decode cd_M_clean 89 = .ok (.bipush 8, 2) := by decide +kernel
theorem dc_M_clean_91 : decode cd_M_clean 91 = .ok (.iload_n 2, 1) := by decide +kernel
theorem dc_M_clean_92 : decode cd_M_clean 92 = .ok (.imul, 1) := by decide +kernel
theorem dc_M_clean_93 : decode cd_M_clean 93 = .ok (.bipush 6, 2) := by decide +kernel
theorem dc_M_clean_95 : decode cd_M_clean 95 = .ok (.iadd, 1) := by decide +kernel
theorem dc_M_clean_96 : decode cd_M_clean 96 = .ok (.bipush 100, 2) := by decide +kernel
theorem dc_M_clean_98 : decode cd_M_clean 98 = .ok (.iastore, 1) := by decide +kernel
theorem dc_M_clean_99 : decode cd_M_clean 99 = .ok (.aload_n 0, 1) := by decide +kernel
theorem dc_M_clean_100 : decode cd_M_clean 100 = .ok (.getfield 47, 3) := by decide +kernel
theorem dc_M_clean_103 : decode cd_M_clean 103 = .ok (.bipush 8, 2) := by decide +kernel
theorem dc_M_clean_105 : decode cd_M_clean 105 = .ok (.iload_n 2, 1) := by decide +kernel
theorem dc_M_clean_106 : decode cd_M_clean 106 = .ok (.imul, 1) := by decide +kernel
theorem dc_M_clean_107 : decode cd_M_clean 107 = .ok (.bipush 7, 2) := by decide +kernel
theorem dc_M_clean_109 : decode cd_M_clean 109 = .ok (.iadd, 1) := by decide +kernel
theorem dc_M_clean_110 : decode cd_M_clean 110 = .ok (.iconst (-1), 1) := by decide +kernel
theorem dc_M_clean_111 : decode cd_M_clean 111 = .ok (.iastore, 1) := by decide +kernel
theorem dc_M_clean_112 : decode cd_M_clean 112 = .ok (.aload_n 0, 1) := by decide +kernel
theorem dc_M_clean_113 : decode cd_M_clean 113 = .ok (.getfield 50, 3) := by decide +kernel
theorem dc_M_clean_116 : decode cd_M_clean 116 = .ok (.iload_n 2, 1) := by decide +kernel
theorem dc_M_clean_117 : decode cd_M_clean 117 = .ok (.aload_n 0, 1) := by decide +kernel
theorem dc_M_clean_118 : decode cd_M_clean 118 = .ok (.getfield 53, 3) := by decide +kernel
theorem dc_M_clean_121 : decode cd_M_clean 121 = .ok (.iload_n 2, 1) := by decide +kernel
theorem dc_M_clean_122 : decode cd_M_clean 122 = .ok (.aload_n 0, 1) := by decide +kernel
theorem dc_M_clean_123 : decode cd_M_clean 123 = .ok (.getfield 56, 3) := by decide +kernel
theorem dc_M_clean_126 : decode cd_M_clean 126 = .ok (.iload_n 2, 1) := by decide +kernel
theorem dc_M_clean_127 : decode cd_M_clean 127 = .ok (.aload_n 0, 1) := by decide +kernel
theorem dc_M_clean_128 : decode cd_M_clean 128 = .ok (.getfield 59, 3) := by decide +kernel
theorem dc_M_clean_131 : decode cd_M_clean 131 = .ok (.iload_n 2, 1) := by decide +kernel
theorem dc_M_clean_132 : decode cd_M_clean 132 = .ok (.iconst (-1), 1) := by decide +kernel
theorem dc_M_clean_133 : decode cd_M_clean 133 = .ok (.dup_x2, 1) := by decide +kernel
theorem dc_M_clean_134 : decode cd_M_clean 134 = .ok (.iastore, 1) := by decide +kernel
theorem dc_M_clean_135 : decode cd_M_clean 135 = .ok (.dup_x2, 1) := by decide +kernel
theorem dc_M_clean_136 : decode cd_M_clean 136 = .ok (.iastore, 1) := by decide +kernel
theorem dc_M_clean_137 : decode cd_M_clean 137 = .ok (.dup_x2, 1) := by decide +kernel
theorem dc_M_clean_138 : decode cd_M_clean 138 = .ok (.iastore, 1) := by decide +kernel
theorem dc_M_clean_139 : decode cd_M_clean 139 = .ok (.iastore, 1) := by decide +kernel
theorem dc_M_clean_140 : decode cd_M_clean 140 = .ok (.iconst 0, 1) := by decide +kernel
theorem dc_M_clean_141 : decode cd_M_clean 141 = .ok (.istore_n 3, 1) := by decide +kernel
theorem dc_M_clean_142 : decode cd_M_clean 142 = .ok (.iload_n 3, 1) := by decide +kernel
theorem dc_M_clean_143 : decode cd_M_clean 143 = .ok (.iconst 3, 1) := by decide +kernel
theorem dc_M_clean_144 : decode cd_M_clean 144 = .ok (.if_icmp .ge 37, 3) := by decide +kernel
theorem dc_M_clean_147 : decode cd_M_clean 147 = .ok (.aload_n 0, 1) := by decide +kernel
theorem dc_M_clean_148 : decode cd_M_clean 148 = .ok (.getfield 13, 3) := by decide +kernel
theorem dc_M_clean_151 : decode cd_M_clean 151 = .ok (.iconst 3, 1) := by decide +kernel
theorem dc_M_clean_152 : decode cd_M_clean 152 = .ok (.iload_n 2, 1) := by decide +kernel
theorem dc_M_clean_153 : decode cd_M_clean 153 = .ok (.imul, 1) := by decide +kernel
theorem dc_M_clean_154 : decode cd_M_clean 154 = .ok (.iload_n 3, 1) := by decide +kernel
theorem dc_M_clean_155 : decode cd_M_clean 155 = .ok (.iadd, 1) := by decide +kernel
theorem dc_M_clean_156 : decode cd_M_clean 156 = .ok (.aload_n 0, 1) := by decide +kernel
theorem dc_M_clean_157 : decode cd_M_clean 157 = .ok (.getfield 7, 3) := by decide +kernel
theorem dc_M_clean_160 : decode cd_M_clean 160 = .ok (.iconst 3, 1) := by decide +kernel
theorem dc_M_clean_161 : decode cd_M_clean 161 = .ok (.iload_n 2, 1) := by decide +kernel
theorem dc_M_clean_162 : decode cd_M_clean 162 = .ok (.imul, 1) := by decide +kernel
theorem dc_M_clean_163 : decode cd_M_clean 163 = .ok (.iload_n 3, 1) := by decide +kernel
theorem dc_M_clean_164 : decode cd_M_clean 164 = .ok (.iadd, 1) := by decide +kernel
theorem dc_M_clean_165 : decode cd_M_clean 165 = .ok (.iaload, 1) := by decide +kernel
theorem dc_M_clean_166 : decode cd_M_clean 166 = .ok (.ifCond .lt 7, 3) := by decide +kernel
theorem dc_M_clean_169 : decode cd_M_clean 169 = .ok (.iconst 1, 1) := by decide +kernel
theorem dc_M_clean_170 : decode cd_M_clean 170 = .ok (.goto 4, 3) := by decide +kernel
theorem dc_M_clean_173 : decode cd_M_clean 173 = .ok (.iconst 0, 1) := by decide +kernel
theorem dc_M_clean_174 : decode cd_M_clean 174 = .ok (.bastore, 1) := by decide +kernel
theorem dc_M_clean_175 : decode cd_M_clean 175 = .ok (.iinc 3 1, 3) := by decide +kernel
theorem dc_M_clean_178 : decode cd_M_clean 178 = .ok (.goto (-36), 3) := by decide +kernel
theorem dc_M_clean_181 : decode cd_M_clean 181 = .ok (.iinc 2 1, 3) := by decide +kernel
theorem dc_M_clean_184 : decode cd_M_clean 184 = .ok (.goto (-182), 3) := by decide +kernel
theorem dc_M_clean_187 : decode cd_M_clean 187 = .ok (.return_, 1) := by decide +kernel
theorem dc_M_child_0 : decode cd_M_child 0 = .ok (.iload_n 2, 1) := by decide +kernel
theorem dc_M_child_1 : decode cd_M_child 1 = .ok (.istore_n 3, 1) := by decide +kernel
theorem dc_M_child_2 : decode cd_M_child 2 = .ok (.iload_n 3, 1) := by decide +kernel
theorem dc_M_child_3 : decode cd_M_child 3 = .ok (.iconst 3, 1) := by decide +kernel
theorem dc_M_child_4 : decode cd_M_child 4 = .ok (.if_icmp .ge 41, 3) := by decide +kernel
theorem dc_M_child_7 : decode cd_M_child 7 = .ok (.aload_n 0, 1) := by decide +kernel
theorem dc_M_child_8 : decode cd_M_child 8 = .ok (.getfield 7, 3) := by decide +kernel
theorem dc_M_child_11 : decode cd_M_child 11 = .ok (.iconst 3, 1) := by decide +kernel
theorem dc_M_child_12 : decode cd_M_child 12 = .ok (.iload_n 1, 1) := by decide +kernel
theorem dc_M_child_13 : decode cd_M_child 13 = .ok (.imul, 1) := by decide +kernel
theorem dc_M_child_14 : decode cd_M_child 14 = .ok (.iload_n 3, 1) := by decide +kernel
theorem dc_M_child_15 : decode cd_M_child 15 = .ok (.iadd, 1) := by decide +kernel
theorem dc_M_child_16 : decode cd_M_child 16 = .ok (.iaload, 1) := by decide +kernel
theorem dc_M_child_17 : decode cd_M_child 17 = .ok (.istore 4, 2) := by decide +kernel
theorem dc_M_child_19 : decode cd_M_child 19 = .ok (.iload 4, 2) := by decide +kernel
theorem dc_M_child_21 : decode cd_M_child 21 = .ok (.ifCond .lt 18, 3) := by decide +kernel
theorem dc_M_child_24 : decode cd_M_child 24 = .ok (.aload_n 0, 1) := by decide +kernel
theorem dc_M_child_25 : decode cd_M_child 25 = .ok (.getfield 50, 3) := by decide +kernel
theorem dc_M_child_28 : decode cd_M_child 28 = .ok (.iload 4, 2) := by decide +kernel
theorem dc_M_child_30 : decode cd_M_child 30 = .ok (.iconst 3, 1) := by decide +kernel
theorem dc_M_child_31 : decode cd_M_child 31 = .ok (.idiv, 1) := by decide +kernel
theorem dc_M_child_32 : decode cd_M_child 32 = .ok (.iaload, 1) := by decide +kernel
theorem dc_M_child_33 : decode cd_M_child 33 = .ok (.iload_n 1, 1) := by decide +kernel
theorem dc_M_child_34 : decode cd_M_child 34 = .ok (.if_icmp .ne 5, 3) := by decide +kernel
theorem dc_M_child_37 : decode cd_M_child 37 = .ok (.iload_n 3, 1) := by decide +kernel
theorem dc_M_child_38 : decode cd_M_child 38 = .ok (.ireturn, 1) := by decide +kernel
theorem dc_M_child_39 : decode cd_M_child 39 = .ok (.iinc 3 1, 3) := by decide +kernel
theorem dc_M_child_42 : decode cd_M_child 42 = .ok (.goto (-40), 3) := by decide +kernel
theorem dc_M_child_45 : decode cd_M_child 45 = .ok (.iconst (-1), 1) := by decide +kernel
theorem dc_M_child_46 : decode cd_M_child 46 = .ok (.ireturn, 1) := by decide +kernel
theorem dc_M_giveNumbers_0 : decode cd_M_giveNumbers 0 = .ok (.iload_n 1, 1) := by decide +kernel
theorem dc_M_giveNumbers_1 : decode cd_M_giveNumbers 1 = .ok (.istore_n 2, 1) := by decide +kernel
theorem dc_M_giveNumbers_2 : decode cd_M_giveNumbers 2 = .ok (.iconst 0, 1) := by decide +kernel
theorem dc_M_giveNumbers_3 : decode cd_M_giveNumbers 3 = .ok (.istore_n 3, 1) := by decide +kernel
theorem dc_M_giveNumbers_4 : decode cd_M_giveNumbers 4 = .ok (.iconst 0, 1) := by decide +kernel
theorem dc_M_giveNumbers_5 : decode cd_M_giveNumbers 5 = .ok (.istore 4, 2) := by decide +kernel
theorem dc_M_giveNumbers_7 : decode cd_M_giveNumbers 7 = .ok (.iload_n 2, 1) := by decide +kernel
theorem dc_M_giveNumbers_8 : decode cd_M_giveNumbers 8 = .ok (.ifCond .lt 107, 3) := by decide +kernel
theorem dc_M_giveNumbers_11 : decode cd_M_giveNumbers 11 = .ok (.aload_n 0, 1) := by decide +kernel
theorem dc_M_giveNumbers_12 : decode cd_M_giveNumbers 12 = .ok (.iload_n 2, 1) := by decide +kernel
theorem dc_M_giveNumbers_13 : decode cd_M_giveNumbers 13 = .ok (.iload_n 3, 1) := by decide +kernel
theorem dc_M_giveNumbers_14 : decode cd_M_giveNumbers 14 = .ok (.invokevirtual 166, 3) := by decide +kernel
theorem dc_M_giveNumbers_17 : decode cd_M_giveNumbers 17 = .ok (.istore 5, 2) := by decide +kernel
theorem dc_M_giveNumbers_19 : decode cd_M_giveNumbers 19 = .ok (.iload 5, 2) := by decide +kernel
theorem dc_M_giveNumbers_21 : decode cd_M_giveNumbers 21 = .ok (.ifCond .lt 22, 3) := by decide +kernel
theorem dc_M_giveNumbers_24 : decode cd_M_giveNumbers 24 = .ok (.aload_n 0, 1) := by decide +kernel
theorem dc_M_giveNumbers_25 : decode cd_M_giveNumbers 25 = .ok (.getfield 7, 3) := by decide +kernel
theorem dc_M_giveNumbers_28 : decode cd_M_giveNumbers 28 = .ok (.iconst 3, 1) := by decide +kernel
theorem dc_M_giveNumbers_29 : decode cd_M_giveNumbers 29 = .ok (.iload_n 2, 1) := by decide +kernel
theorem dc_M_giveNumbers_30 : decode cd_M_giveNumbers 30 = .ok (.imul, 1) := by decide +kernel
theorem dc_M_giveNumbers_31 : decode cd_M_giveNumbers 31 = .ok (.iload 5, 2) := by decide +kernel
theorem dc_M_giveNumbers_33 : decode cd_M_giveNumbers 33 = .ok (.iadd, 1) := by decide +kernel
theorem dc_M_giveNumbers_34 : decode cd_M_giveNumbers 34 = .ok (.iaload, 1) := by decide +kernel
theorem dc_M_giveNumbers_35 : decode cd_M_giveNumbers 35 = .ok (.iconst 3, 1) := by decide +kernel
theorem dc_M_giveNumbers_36 : decode cd_M_giveNumbers 36 = .ok (.idiv, 1) := by decide +kernel
theorem dc_M_giveNumbers_37 : decode cd_M_giveNumbers 37 = .ok (.istore_n 2, 1) := by decide +kernel
theorem dc_M_giveNumbers_38 : decode cd_M_giveNumbers 38 = .ok (.iconst 0, 1) := by decide +kernel
theorem dc_M_giveNumbers_39 : decode cd_M_giveNumbers 39 = .ok (.istore_n 3, 1) := by decide +kernel
theorem dc_M_giveNumbers_40 : decode cd_M_giveNumbers 40 = .ok (.goto (-33), 3) := by decide +kernel
theorem dc_M_giveNumbers_43 : decode cd_M_giveNumbers 43 = .ok (.aload_n 0, 1) := by decide +kernel
theorem dc_M_giveNumbers_44 : decode cd_M_giveNumbers 44 = .ok (.getfield 53, 3) := by decide +kernel
theorem dc_M_giveNumbers_47 : decode cd_M_giveNumbers 47 = .ok (.iload_n 2, 1) := by decide +kernel
theorem dc_M_giveNumbers_48 : decode cd_M_giveNumbers 48 = .ok (.iload 4, 2) := by decide +kernel
theorem dc_M_giveNumbers_50 : decode cd_M_giveNumbers 50 = .ok (.iastore, 1) := by decide +kernel
theorem dc_M_giveNumbers_51 : decode cd_M_giveNumbers 51 = .ok (.iinc 4 1, 3) := by decide +kernel
theorem dc_M_giveNumbers_54 : decode cd_M_giveNumbers 54 = .ok (.aload_n 0, 1) := by decide +kernel
theorem dc_M_giveNumbers_55 : decode cd_M_giveNumbers 55 = .ok (.getfield 50, 3) := by decide +kernel
theorem dc_M_giveNumbers_58 : decode cd_M_giveNumbers 58 = .ok (.iload_n 2, 1) := by decide +kernel
theorem dc_M_giveNumbers_59 : decode cd_M_giveNumbers 59 = .ok (.iaload, 1) := by decide +kernel
theorem dc_M_giveNumbers_60 : decode cd_M_giveNumbers 60 = .ok (.istore 6, 2) := by decide +kernel
theorem dc_M_giveNumbers_62 : decode cd_M_giveNumbers 62 = .ok (.iconst 0, 1) := by decide +kernel
theorem dc_M_giveNumbers_63 : decode cd_M_giveNumbers 63 = .ok (.istore_n 3, 1) := by decide +kernel
theorem dc_M_giveNumbers_64 : decode cd_M_giveNumbers 64 = .ok (.iload 6, 2) := by decide +kernel
theorem dc_M_giveNumbers_66 : decode cd_M_giveNumbers 66 = .ok (.ifCond .lt 40, 3) := by decide +kernel
theorem dc_M_giveNumbers_69 : decode cd_M_giveNumbers 69 = .ok (.aload_n 0, 1) := by decide +kernel
theorem dc_M_giveNumbers_70 : decode cd_M_giveNumbers 70 = .ok (.getfield 7, 3) := by decide +kernel
theorem dc_M_giveNumbers_73 : decode cd_M_giveNumbers 73 = .ok (.iconst 3, 1) := by decide +kernel
theorem dc_M_giveNumbers_74 : decode cd_M_giveNumbers 74 = .ok (.iload 6, 2) := by decide +kernel
theorem dc_M_giveNumbers_76 : decode cd_M_giveNumbers 76 = .ok (.imul, 1) := by decide +kernel
theorem dc_M_giveNumbers_77 : decode cd_M_giveNumbers 77 = .ok (.iload_n 3, 1) := by decide +kernel
theorem dc_M_giveNumbers_78 : decode cd_M_giveNumbers 78 = .ok (.iadd, 1) := by decide +kernel
theorem dc_M_giveNumbers_79 : decode cd_M_giveNumbers 79 = .ok (.iaload, 1) := by decide +kernel
theorem dc_M_giveNumbers_80 : decode cd_M_giveNumbers 80 = .ok (.ifCond .lt 20, 3) := by decide +kernel
theorem dc_M_giveNumbers_83 : decode cd_M_giveNumbers 83 = .ok (.aload_n 0, 1) := by decide +kernel
theorem dc_M_giveNumbers_84 : decode cd_M_giveNumbers 84 = .ok (.getfield 7, 3) := by decide +kernel
theorem dc_M_giveNumbers_87 : decode cd_M_giveNumbers 87 = .ok (.iconst 3, 1) := by decide +kernel
theorem dc_M_giveNumbers_88 : decode cd_M_giveNumbers 88 = .ok (.iload 6, 2) := by decide +kernel
theorem dc_M_giveNumbers_90 : decode cd_M_giveNumbers 90 = .ok (.imul, 1) := by decide +kernel
theorem dc_M_giveNumbers_91 : decode cd_M_giveNumbers 91 = .ok (.iload_n 3, 1) := by decide +kernel
theorem dc_M_giveNumbers_92 : decode cd_M_giveNumbers 92 = .ok (.iadd, 1) := by decide +kernel
theorem dc_M_giveNumbers_93 : decode cd_M_giveNumbers 93 = .ok (.iaload, 1) := by decide +kernel
theorem dc_M_giveNumbers_94 : decode cd_M_giveNumbers 94 = .ok (.iconst 3, 1) := by decide +kernel
theorem dc_M_giveNumbers_95 : decode cd_M_giveNumbers 95 = .ok (.idiv, 1) := by decide +kernel
theorem dc_M_giveNumbers_96 : decode cd_M_giveNumbers 96 = .ok (.iload_n 2, 1) := by decide +kernel
theorem dc_M_giveNumbers_97 : decode cd_M_giveNumbers 97 = .ok (.if_icmp .eq 9, 3) := by decide +kernel
theorem dc_M_giveNumbers_100 : decode cd_M_giveNumbers 100 = .ok (.iinc 3 1, 3) := by decide +kernel
theorem dc_M_giveNumbers_103 : decode cd_M_giveNumbers 103 = .ok (.goto (-39), 3) := by decide +kernel
theorem dc_M_giveNumbers_106 : decode cd_M_giveNumbers 106 = .ok (.iinc 3 1, 3) := by decide +kernel
theorem dc_M_giveNumbers_109 : decode cd_M_giveNumbers 109 = .ok (.iload 6, 2) := by decide +kernel
theorem dc_M_giveNumbers_111 : decode cd_M_giveNumbers 111 = .ok (.istore_n 2, 1) := by decide +kernel
theorem dc_M_giveNumbers_112 : decode cd_M_giveNumbers 112 = .ok (.goto (-105), 3) := by decide +kernel
theorem dc_M_giveNumbers_115 : decode cd_M_giveNumbers 115 = .ok (.return_, 1) := by decide +kernel
theorem dc_M_settle_0 : decode cd_M_settle 0 = .ok (.iconst (-1), 1) := by decide +kernel
theorem dc_M_settle_1 : decode cd_M_settle 1 = .ok (.istore_n 3, 1) := by decide +kernel
theorem dc_M_settle_2 : decode cd_M_settle 2 = .ok (.iconst (-1), 1) := by decide +kernel
theorem dc_M_settle_3 : decode cd_M_settle 3 = .ok (.istore 4, 2) := by decide +kernel
theorem dc_M_settle_5 : decode cd_M_settle 5 = .ok (.iconst 0, 1) := by decide +kernel
theorem dc_M_settle_6 : decode cd_M_settle 6 = .ok (.istore 5, 2) := by decide +kernel
theorem dc_M_settle_8 : decode cd_M_settle 8 = .ok (.iload 5, 2) := by decide +kernel
theorem dc_M_settle_10 : decode cd_M_settle 10 = .ok (.bipush 12, 2) := by decide +kernel
theorem dc_M_settle_12 : decode cd_M_settle 12 = .ok (.if_icmp .ge 37, 3) := by decide +kernel
theorem dc_M_settle_15 : decode cd_M_settle 15 = .ok (.aload_n 0, 1) := by decide +kernel
theorem dc_M_settle_16 : decode cd_M_settle 16 = .ok (.getfield 62, 3) := by decide +kernel
theorem dc_M_settle_19 : decode cd_M_settle 19 = .ok (.iload 5, 2) := by decide +kernel
theorem dc_M_settle_21 : decode cd_M_settle 21 = .ok (.iaload, 1) := by decide +kernel
theorem dc_M_settle_22 : decode cd_M_settle 22 = .ok (.iload_n 1, 1) := by decide +kernel
theorem dc_M_settle_23 : decode cd_M_settle 23 = .ok (.if_icmp .ne 20, 3) := by decide +kernel
theorem dc_M_settle_26 : decode cd_M_settle 26 = .ok (.iload_n 2, 1) := by decide +kernel
theorem dc_M_settle_27 : decode cd_M_settle 27 = .ok (.ifCond .eq 16, 3) := by decide +kernel
theorem dc_M_settle_30 : decode cd_M_settle 30 = .ok (.aload_n 0, 1) := by decide +kernel
theorem dc_M_settle_31 : decode cd_M_settle 31 = .ok (.getfield 50, 3) := by decide +kernel
theorem dc_M_settle_34 : decode cd_M_settle 34 = .ok (.iload 5, 2) := by decide +kernel
theorem dc_M_settle_36 : decode cd_M_settle 36 = .ok (.iaload, 1) := by decide +kernel
theorem dc_M_settle_37 : decode cd_M_settle 37 = .ok (.ifCond .ge 6, 3) := by decide +kernel
theorem dc_M_settle_40 : decode cd_M_settle 40 = .ok (.iload 5, 2) := by decide +kernel
theorem dc_M_settle_42 : decode cd_M_settle 42 = .ok (.istore_n 3, 1) := by decide +kernel
theorem dc_M_settle_43 : decode cd_M_settle 43 = .ok (.iinc 5 1, 3) := by decide +kernel
theorem dc_M_settle_46 : decode cd_M_settle 46 = .ok (.goto (-38), 3) := by decide +kernel
theorem dc_M_settle_49 : decode cd_M_settle 49 = .ok (.iload_n 2, 1) := by decide +kernel
theorem dc_M_settle_50 : decode cd_M_settle 50 = .ok (.ifCond .eq 8, 3) := by decide +kernel
theorem dc_M_settle_53 : decode cd_M_settle 53 = .ok (.aload_n 0, 1) := by decide +kernel
theorem dc_M_settle_54 : decode cd_M_settle 54 = .ok (.iload_n 3, 1) := by decide +kernel
theorem dc_M_settle_55 : decode cd_M_settle 55 = .ok (.invokevirtual 170, 3) := by decide +kernel
theorem dc_M_settle_58 : decode cd_M_settle 58 = .ok (.iconst 0, 1) := by decide +kernel
theorem dc_M_settle_59 : decode cd_M_settle 59 = .ok (.istore 5, 2) := by decide +kernel
theorem dc_M_settle_61 : decode cd_M_settle 61 = .ok (.iload 5, 2) := by decide +kernel
theorem dc_M_settle_63 : decode cd_M_settle 63 = .ok (.bipush 12, 2) := by decide +kernel
theorem dc_M_settle_65 : decode cd_M_settle 65 = .ok (.if_icmp .ge 60, 3) := by decide +kernel
theorem dc_M_settle_68 : decode cd_M_settle 68 = .ok (.aload_n 0, 1) := by decide +kernel
theorem dc_M_settle_69 : decode cd_M_settle 69 = .ok (.getfield 62, 3) := by decide +kernel
theorem dc_M_settle_72 : decode cd_M_settle 72 = .ok (.iload 5, 2) := by decide +kernel
theorem dc_M_settle_74 : decode cd_M_settle 74 = .ok (.iaload, 1) := by decide +kernel
theorem dc_M_settle_75 : decode cd_M_settle 75 = .ok (.iload_n 1, 1) := by decide +kernel
theorem dc_M_settle_76 : decode cd_M_settle 76 = .ok (.if_icmp .ne 43, 3) := by decide +kernel
theorem dc_M_settle_79 : decode cd_M_settle 79 = .ok (.iload_n 2, 1) := by decide +kernel
theorem dc_M_settle_80 : decode cd_M_settle 80 = .ok (.ifCond .eq 39, 3) := by decide +kernel
theorem dc_M_settle_83 : decode cd_M_settle 83 = .ok (.aload_n 0, 1) := by decide +kernel
theorem dc_M_settle_84 : decode cd_M_settle 84 = .ok (.getfield 35, 3) := by decide +kernel
theorem dc_M_settle_87 : decode cd_M_settle 87 = .ok (.iload 5, 2) := by decide +kernel
theorem dc_M_settle_89 : decode cd_M_settle 89 = .ok (.baload, 1) := by decide +kernel
theorem dc_M_settle_90 : decode cd_M_settle 90 = .ok (.ifCond .eq 29, 3) := by decide +kernel
theorem dc_M_settle_93 : decode cd_M_settle 93 = .ok (.iload 4, 2) := by decide +kernel
theorem dc_M_settle_95 : decode cd_M_settle 95 = .ok (.ifCond .lt 20, 3) := by decide +kernel
theorem dc_M_settle_98 : decode cd_M_settle 98 = .ok (.aload_n 0, 1) := by decide +kernel
theorem dc_M_settle_99 : decode cd_M_settle 99 = .ok (.getfield 53, 3) := by decide +kernel
theorem dc_M_settle_102 : decode cd_M_settle 102 = .ok (.iload 5, 2) := by decide +kernel
theorem dc_M_settle_104 : decode cd_M_settle 104 = .ok (.iaload, 1) := by decide +kernel
theorem dc_M_settle_105 : decode cd_M_settle 105 = .ok (.aload_n 0, 1) := by decide +kernel
theorem dc_M_settle_106 : decode cd_M_settle 106 = .ok (.getfield 53, 3) := by decide +kernel
theorem dc_M_settle_109 : decode cd_M_settle 109 = .ok (.iload 4, 2) := by decide +kernel
theorem dc_M_settle_111 : decode cd_M_settle 111 = .ok (.iaload, 1) := by decide +kernel
theorem dc_M_settle_112 : decode cd_M_settle 112 = .ok (.if_icmp .le 7, 3) := by decide +kernel
theorem dc_M_settle_115 : decode cd_M_settle 115 = .ok (.iload 5, 2) := by decide +kernel
theorem dc_M_settle_117 : decode cd_M_settle 117 = .ok (.istore 4, 2) := by decide +kernel
theorem dc_M_settle_119 : decode cd_M_settle 119 = .ok (.iinc 5 1, 3) := by decide +kernel
theorem dc_M_settle_122 : decode cd_M_settle 122 = .ok (.goto (-61), 3) := by decide +kernel
theorem dc_M_settle_125 : decode cd_M_settle 125 = .ok (.iconst 0, 1) := by decide +kernel
theorem dc_M_settle_126 : decode cd_M_settle 126 = .ok (.istore 5, 2) := by decide +kernel
theorem dc_M_settle_128 : decode cd_M_settle 128 = .ok (.iload 5, 2) := by decide +kernel
theorem dc_M_settle_130 : decode cd_M_settle 130 = .ok (.bipush 12, 2) := by decide +kernel
theorem dc_M_settle_132 : decode cd_M_settle 132 = .ok (.if_icmp .ge 68, 3) := by decide +kernel
theorem dc_M_settle_135 : decode cd_M_settle 135 = .ok (.aload_n 0, 1) := by decide +kernel
theorem dc_M_settle_136 : decode cd_M_settle 136 = .ok (.getfield 62, 3) := by decide +kernel
theorem dc_M_settle_139 : decode cd_M_settle 139 = .ok (.iload 5, 2) := by decide +kernel
theorem dc_M_settle_141 : decode cd_M_settle 141 = .ok (.iaload, 1) := by decide +kernel
theorem dc_M_settle_142 : decode cd_M_settle 142 = .ok (.iload_n 1, 1) := by decide +kernel
theorem dc_M_settle_143 : decode cd_M_settle 143 = .ok (.if_icmp .eq 6, 3) := by decide +kernel
theorem dc_M_settle_146 : decode cd_M_settle 146 = .ok (.goto 48, 3) := by decide +kernel
theorem dc_M_settle_149 : decode cd_M_settle 149 = .ok (.aload_n 0, 1) := by decide +kernel
theorem dc_M_settle_150 : decode cd_M_settle 150 = .ok (.getfield 56, 3) := by decide +kernel
theorem dc_M_settle_153 : decode cd_M_settle 153 = .ok (.iload 5, 2) := by decide +kernel
theorem dc_M_settle_155 : decode cd_M_settle 155 = .ok (.iload_n 3, 1) := by decide +kernel
theorem dc_M_settle_156 : decode cd_M_settle 156 = .ok (.iastore, 1) := by decide +kernel
theorem dc_M_settle_157 : decode cd_M_settle 157 = .ok (.aload_n 0, 1) := by decide +kernel
theorem dc_M_settle_158 : decode cd_M_settle 158 = .ok (.getfield 59, 3) := by decide +kernel
theorem dc_M_settle_161 : decode cd_M_settle 161 = .ok (.iload 5, 2) := by decide +kernel
theorem dc_M_settle_163 : decode cd_M_settle 163 = .ok (.iload 4, 2) := by decide +kernel
theorem dc_M_settle_165 : decode cd_M_settle 165 = .ok (.iastore, 1) := by decide +kernel
theorem dc_M_settle_166 : decode cd_M_settle 166 = .ok (.aload_n 0, 1) := by decide +kernel
theorem dc_M_settle_167 : decode cd_M_settle 167 = .ok (.getfield 44, 3) := by decide +kernel
theorem dc_M_settle_170 : decode cd_M_settle 170 = .ok (.iload 5, 2) := by decide +kernel
theorem dc_M_settle_172 : decode cd_M_settle 172 = .ok (.iload_n 2, 1) := by decide +kernel
theorem dc_M_settle_173 : decode cd_M_settle 173 = .ok (.ifCond .ne 7, 3) := by decide +kernel
theorem dc_M_settle_176 : decode cd_M_settle 176 = .ok (.iconst 1, 1) := by decide +kernel
theorem dc_M_settle_177 : decode cd_M_settle 177 = .ok (.goto 4, 3) := by decide +kernel
theorem dc_M_settle_180 : decode cd_M_settle 180 = .ok (.iconst 0, 1) := by decide +kernel
theorem dc_M_settle_181 : decode cd_M_settle 181 = .ok (.bastore, 1) := by decide +kernel
theorem dc_M_settle_182 : decode cd_M_settle 182 = .ok (.iload_n 2, 1) := by decide +kernel
theorem dc_M_settle_183 : decode cd_M_settle 183 = .ok (.ifCond .ne 11, 3) := by decide +kernel
theorem dc_M_settle_186 : decode cd_M_settle 186 = .ok (.aload_n 0, 1) := by decide +kernel
theorem dc_M_settle_187 : decode cd_M_settle 187 = .ok (.getfield 50, 3) := by decide +kernel
theorem dc_M_settle_190 : decode cd_M_settle 190 = .ok (.iload 5, 2) := by decide +kernel
theorem dc_M_settle_192 : decode cd_M_settle 192 = .ok (.iconst (-1), 1) := by decide +kernel
theorem dc_M_settle_193 : decode cd_M_settle 193 = .ok (.iastore, 1) := by decide +kernel
theorem dc_M_settle_194 : decode cd_M_settle 194 = .ok (.iinc 5 1, 3) := by decide +kernel
theorem dc_M_settle_197 : decode cd_M_settle 197 = .ok (.goto (-69), 3) := by decide +kernel
theorem dc_M_settle_200 : decode cd_M_settle 200 = .ok (.return_, 1) := by decide +kernel
theorem dc_M_resetBus_0 : decode cd_M_resetBus 0 = .ok (.aload_n 0, 1) := by decide +kernel
theorem dc_M_resetBus_1 : decode cd_M_resetBus 1 = .ok (.dup, 1) := by decide +kernel
theorem dc_M_resetBus_2 : decode cd_M_resetBus 2 = .ok (.getfield 174, 3) := by decide +kernel
theorem dc_M_resetBus_5 : decode cd_M_resetBus 5 = .ok (.iconst 1, 1) := by decide +kernel
theorem dc_M_resetBus_6 : decode cd_M_resetBus 6 = .ok (.iadd, 1) := by decide +kernel
theorem dc_M_resetBus_7 : decode cd_M_resetBus 7 = .ok (.putfield 174, 3) := by decide +kernel
theorem dc_M_resetBus_10 : decode cd_M_resetBus 10 = .ok (.aload_n 0, 1) := by decide +kernel
theorem dc_M_resetBus_11 : decode cd_M_resetBus 11 = .ok (.iload_n 1, 1) := by decide +kernel
theorem dc_M_resetBus_12 : decode cd_M_resetBus 12 = .ok (.invokevirtual 177, 3) := by decide +kernel
theorem dc_M_resetBus_15 : decode cd_M_resetBus 15 = .ok (.iconst 1, 1) := by decide +kernel
theorem dc_M_resetBus_16 : decode cd_M_resetBus 16 = .ok (.istore_n 2, 1) := by decide +kernel
theorem dc_M_resetBus_17 : decode cd_M_resetBus 17 = .ok (.iload_n 2, 1) := by decide +kernel
theorem dc_M_resetBus_18 : decode cd_M_resetBus 18 = .ok (.bipush 24, 2) := by decide +kernel
theorem dc_M_resetBus_20 : decode cd_M_resetBus 20 = .ok (.if_icmp .gt 23, 3) := by decide +kernel
theorem dc_M_resetBus_23 : decode cd_M_resetBus 23 = .ok (.aload_n 0, 1) := by decide +kernel
theorem dc_M_resetBus_24 : decode cd_M_resetBus 24 = .ok (.iload_n 1, 1) := by decide +kernel
theorem dc_M_resetBus_25 : decode cd_M_resetBus 25 = .ok (.invokevirtual 180, 3) := by decide +kernel
theorem dc_M_resetBus_28 : decode cd_M_resetBus 28 = .ok (.ifCond .eq 15, 3) := by decide +kernel
theorem dc_M_resetBus_31 : decode cd_M_resetBus 31 = .ok (.aload_n 0, 1) := by decide +kernel
theorem dc_M_resetBus_32 : decode cd_M_resetBus 32 = .ok (.iload_n 1, 1) := by decide +kernel
theorem dc_M_resetBus_33 : decode cd_M_resetBus 33 = .ok (.iload_n 2, 1) := by decide +kernel
theorem dc_M_resetBus_34 : decode cd_M_resetBus 34 = .ok (.invokevirtual 184, 3) := by decide +kernel
theorem dc_M_resetBus_37 : decode cd_M_resetBus 37 = .ok (.iinc 2 1, 3) := by decide +kernel
theorem dc_M_resetBus_40 : decode cd_M_resetBus 40 = .ok (.goto (-23), 3) := by decide +kernel
theorem dc_M_resetBus_43 : decode cd_M_resetBus 43 = .ok (.aload_n 0, 1) := by decide +kernel
theorem dc_M_resetBus_44 : decode cd_M_resetBus 44 = .ok (.iload_n 1, 1) := by decide +kernel
theorem dc_M_resetBus_45 : decode cd_M_resetBus 45 = .ok (.aload_n 0, 1) := by decide +kernel
theorem dc_M_resetBus_46 : decode cd_M_resetBus 46 = .ok (.iload_n 1, 1) := by decide +kernel
theorem dc_M_resetBus_47 : decode cd_M_resetBus 47 = .ok (.invokevirtual 180, 3) := by decide +kernel
theorem dc_M_resetBus_50 : decode cd_M_resetBus 50 = .ok (.ifCond .ne 7, 3) := by decide +kernel
theorem dc_M_resetBus_53 : decode cd_M_resetBus 53 = .ok (.iconst 1, 1) := by decide +kernel
theorem dc_M_resetBus_54 : decode cd_M_resetBus 54 = .ok (.goto 4, 3) := by decide +kernel
theorem dc_M_resetBus_57 : decode cd_M_resetBus 57 = .ok (.iconst 0, 1) := by decide +kernel
theorem dc_M_resetBus_58 : decode cd_M_resetBus 58 = .ok (.invokevirtual 187, 3) := by decide +kernel
theorem dc_M_resetBus_61 : decode cd_M_resetBus 61 = .ok (.return_, 1) := by decide +kernel
theorem dc_M_sender_0 : decode cd_M_sender 0 = .ok (.iconst (-1), 1) := by decide +kernel
theorem dc_M_sender_1 : decode cd_M_sender 1 = .ok (.istore_n 3, 1) := by decide +kernel
theorem dc_M_sender_2 : decode cd_M_sender 2 = .ok (.iconst 0, 1) := by decide +kernel
theorem dc_M_sender_3 : decode cd_M_sender 3 = .ok (.istore 4, 2) := by decide +kernel
theorem dc_M_sender_5 : decode cd_M_sender 5 = .ok (.iload 4, 2) := by decide +kernel
theorem dc_M_sender_7 : decode cd_M_sender 7 = .ok (.bipush 12, 2) := by decide +kernel
theorem dc_M_sender_9 : decode cd_M_sender 9 = .ok (.if_icmp .ge 70, 3) := by decide +kernel
theorem dc_M_sender_12 : decode cd_M_sender 12 = .ok (.aload_n 0, 1) := by decide +kernel
theorem dc_M_sender_13 : decode cd_M_sender 13 = .ok (.getfield 62, 3) := by decide +kernel
theorem dc_M_sender_16 : decode cd_M_sender 16 = .ok (.iload 4, 2) := by decide +kernel
theorem dc_M_sender_18 : decode cd_M_sender 18 = .ok (.iaload, 1) := by decide +kernel
theorem dc_M_sender_19 : decode cd_M_sender 19 = .ok (.iload_n 1, 1) := by decide +kernel
theorem dc_M_sender_20 : decode cd_M_sender 20 = .ok (.if_icmp .ne 53, 3) := by decide +kernel
theorem dc_M_sender_23 : decode cd_M_sender 23 = .ok (.aload_n 0, 1) := by decide +kernel
theorem dc_M_sender_24 : decode cd_M_sender 24 = .ok (.getfield 110, 3) := by decide +kernel
theorem dc_M_sender_27 : decode cd_M_sender 27 = .ok (.iload 4, 2) := by decide +kernel
theorem dc_M_sender_29 : decode cd_M_sender 29 = .ok (.iaload, 1) := by decide +kernel
theorem dc_M_sender_30 : decode cd_M_sender 30 = .ok (.ifCond .eq 43, 3) := by decide +kernel
theorem dc_M_sender_33 : decode cd_M_sender 33 = .ok (.iload_n 2, 1) := by decide +kernel
theorem dc_M_sender_34 : decode cd_M_sender 34 = .ok (.ifCond .eq 16, 3) := by decide +kernel
theorem dc_M_sender_37 : decode cd_M_sender 37 = .ok (.aload_n 0, 1) := by decide +kernel
theorem dc_M_sender_38 : decode cd_M_sender 38 = .ok (.getfield 38, 3) := by decide +kernel
theorem dc_M_sender_41 : decode cd_M_sender 41 = .ok (.iload 4, 2) := by decide +kernel
theorem dc_M_sender_43 : decode cd_M_sender 43 = .ok (.baload, 1) := by decide +kernel
theorem dc_M_sender_44 : decode cd_M_sender 44 = .ok (.ifCond .eq 6, 3) := by decide +kernel
theorem dc_M_sender_47 : decode cd_M_sender 47 = .ok (.goto 26, 3) := by decide +kernel
theorem dc_M_sender_50 : decode cd_M_sender 50 = .ok (.iload_n 3, 1) := by decide +kernel
theorem dc_M_sender_51 : decode cd_M_sender 51 = .ok (.ifCond .lt 19, 3) := by decide +kernel
theorem dc_M_sender_54 : decode cd_M_sender 54 = .ok (.aload_n 0, 1) := by decide +kernel
theorem dc_M_sender_55 : decode cd_M_sender 55 = .ok (.getfield 53, 3) := by decide +kernel
theorem dc_M_sender_58 : decode cd_M_sender 58 = .ok (.iload 4, 2) := by decide +kernel
theorem dc_M_sender_60 : decode cd_M_sender 60 = .ok (.iaload, 1) := by decide +kernel
theorem dc_M_sender_61 : decode cd_M_sender 61 = .ok (.aload_n 0, 1) := by decide +kernel
theorem dc_M_sender_62 : decode cd_M_sender 62 = .ok (.getfield 53, 3) := by decide +kernel
theorem dc_M_sender_65 : decode cd_M_sender 65 = .ok (.iload_n 3, 1) := by decide +kernel
theorem dc_M_sender_66 : decode cd_M_sender 66 = .ok (.iaload, 1) := by decide +kernel
theorem dc_M_sender_67 : decode cd_M_sender 67 = .ok (.if_icmp .le 6, 3) := by decide +kernel
theorem dc_M_sender_70 : decode cd_M_sender 70 = .ok (.iload 4, 2) := by decide +kernel
theorem dc_M_sender_72 : decode cd_M_sender 72 = .ok (.istore_n 3, 1) := by decide +kernel
theorem dc_M_sender_73 : decode cd_M_sender 73 = .ok (.iinc 4 1, 3) := by decide +kernel
theorem dc_M_sender_76 : decode cd_M_sender 76 = .ok (.goto (-71), 3) := by decide +kernel
theorem dc_M_sender_79 : decode cd_M_sender 79 = .ok (.iload_n 3, 1) := by decide +kernel
theorem dc_M_sender_80 : decode cd_M_sender 80 = .ok (.ireturn, 1) := by decide +kernel
theorem dc_M_slot_0 : decode cd_M_slot 0 = .ok (.aload_n 0, 1) := by decide +kernel
theorem dc_M_slot_1 : decode cd_M_slot 1 = .ok (.iload_n 1, 1) := by decide +kernel
theorem dc_M_slot_2 : decode cd_M_slot 2 = .ok (.iconst 1, 1) := by decide +kernel
theorem dc_M_slot_3 : decode cd_M_slot 3 = .ok (.invokevirtual 191, 3) := by decide +kernel
theorem dc_M_slot_6 : decode cd_M_slot 6 = .ok (.istore_n 2, 1) := by decide +kernel
theorem dc_M_slot_7 : decode cd_M_slot 7 = .ok (.iload_n 2, 1) := by decide +kernel
theorem dc_M_slot_8 : decode cd_M_slot 8 = .ok (.ifCond .lt 18, 3) := by decide +kernel
theorem dc_M_slot_11 : decode cd_M_slot 11 = .ok (.aload_n 0, 1) := by decide +kernel
theorem dc_M_slot_12 : decode cd_M_slot 12 = .ok (.getfield 38, 3) := by decide +kernel
theorem dc_M_slot_15 : decode cd_M_slot 15 = .ok (.iload_n 2, 1) := by decide +kernel
theorem dc_M_slot_16 : decode cd_M_slot 16 = .ok (.iconst 1, 1) := by decide +kernel
theorem dc_M_slot_17 : decode cd_M_slot 17 = .ok (.bastore, 1) := by decide +kernel
theorem dc_M_slot_18 : decode cd_M_slot 18 = .ok (.aload_n 0, 1) := by decide +kernel
theorem dc_M_slot_19 : decode cd_M_slot 19 = .ok (.iload_n 2, 1) := by decide +kernel
theorem dc_M_slot_20 : decode cd_M_slot 20 = .ok (.invokevirtual 195, 3) := by decide +kernel
theorem dc_M_slot_23 : decode cd_M_slot 23 = .ok (.goto 53, 3) := by decide +kernel
theorem dc_M_slot_26 : decode cd_M_slot 26 = .ok (.aload_n 0, 1) := by decide +kernel
theorem dc_M_slot_27 : decode cd_M_slot 27 = .ok (.iload_n 1, 1) := by decide +kernel
theorem dc_M_slot_28 : decode cd_M_slot 28 = .ok (.iconst 0, 1) := by decide +kernel
theorem dc_M_slot_29 : decode cd_M_slot 29 = .ok (.invokevirtual 191, 3) := by decide +kernel
theorem dc_M_slot_32 : decode cd_M_slot 32 = .ok (.ifCond .lt 44, 3) := by decide +kernel
theorem dc_M_slot_35 : decode cd_M_slot 35 = .ok (.aload_n 0, 1) := by decide +kernel
theorem dc_M_slot_36 : decode cd_M_slot 36 = .ok (.dup, 1) := by decide +kernel
theorem dc_M_slot_37 : decode cd_M_slot 37 = .ok (.getfield 198, 3) := by decide +kernel
theorem dc_M_slot_40 : decode cd_M_slot 40 = .ok (.iconst 1, 1) := by decide +kernel
theorem dc_M_slot_41 : decode cd_M_slot 41 = .ok (.iadd, 1) := by decide +kernel
theorem dc_M_slot_42 : decode cd_M_slot 42 = .ok (.putfield 198, 3) := by decide +kernel
theorem dc_M_slot_45 : decode cd_M_slot 45 = .ok (.iconst 0, 1) := by decide +kernel
theorem dc_M_slot_46 : decode cd_M_slot 46 = .ok (.istore_n 3, 1) := by decide +kernel
theorem dc_M_slot_47 : decode cd_M_slot 47 = .ok (.iload_n 3, 1) := by decide +kernel
theorem dc_M_slot_48 : decode cd_M_slot 48 = .ok (.bipush 12, 2) := by decide +kernel
theorem dc_M_slot_50 : decode cd_M_slot 50 = .ok (.if_icmp .ge 26, 3) := by decide +kernel
theorem dc_M_slot_53 : decode cd_M_slot 53 = .ok (.aload_n 0, 1) := by decide +kernel
theorem dc_M_slot_54 : decode cd_M_slot 54 = .ok (.getfield 62, 3) := by decide +kernel
theorem dc_M_slot_57 : decode cd_M_slot 57 = .ok (.iload_n 3, 1) := by decide +kernel
theorem dc_M_slot_58 : decode cd_M_slot 58 = .ok (.iaload, 1) := by decide +kernel
theorem dc_M_slot_59 : decode cd_M_slot 59 = .ok (.iload_n 1, 1) := by decide +kernel
theorem dc_M_slot_60 : decode cd_M_slot 60 = .ok (.if_icmp .ne 10, 3) := by decide +kernel
theorem dc_M_slot_63 : decode cd_M_slot 63 = .ok (.aload_n 0, 1) := by decide +kernel
theorem dc_M_slot_64 : decode cd_M_slot 64 = .ok (.getfield 38, 3) := by decide +kernel
theorem dc_M_slot_67 : decode cd_M_slot 67 = .ok (.iload_n 3, 1) := by decide +kernel
theorem dc_M_slot_68 : decode cd_M_slot 68 = .ok (.iconst 0, 1) := by decide +kernel
theorem dc_M_slot_69 : decode cd_M_slot 69 = .ok (.bastore, 1) := by decide +kernel
theorem dc_M_slot_70 : decode cd_M_slot 70 = .ok (.iinc 3 1, 3) := by decide +kernel
theorem dc_M_slot_73 : decode cd_M_slot 73 = .ok (.goto (-26), 3) := by decide +kernel
theorem dc_M_slot_76 : decode cd_M_slot 76 = .ok (.return_, 1) := by decide +kernel
theorem dc_M_numbered_0 : decode cd_M_numbered 0 = .ok (.iconst 0, 1) := by decide +kernel
theorem dc_M_numbered_1 : decode cd_M_numbered 1 = .ok (.istore_n 3, 1) := by decide +kernel
theorem dc_M_numbered_2 : decode cd_M_numbered 2 = .ok (.iload_n 3, 1) := by decide +kernel
theorem dc_M_numbered_3 : decode cd_M_numbered 3 = .ok (.bipush 12, 2) := by decide +kernel
theorem dc_M_numbered_5 : decode cd_M_numbered 5 = .ok (.if_icmp .ge 31, 3) := by decide +kernel
theorem dc_M_numbered_8 : decode cd_M_numbered 8 = .ok (.aload_n 0, 1) := by decide +kernel
theorem dc_M_numbered_9 : decode cd_M_numbered 9 = .ok (.getfield 62, 3) := by decide +kernel
theorem dc_M_numbered_12 : decode cd_M_numbered 12 = .ok (.iload_n 3, 1) := by decide +kernel
theorem dc_M_numbered_13 : decode cd_M_numbered 13 = .ok (.iaload, 1) := by decide +kernel
theorem dc_M_numbered_14 : decode cd_M_numbered 14 = .ok (.iload_n 1, 1) := by decide +kernel
theorem dc_M_numbered_15 : decode cd_M_numbered 15 = .ok (.if_icmp .ne 15, 3) := by decide +kernel
theorem dc_M_numbered_18 : decode cd_M_numbered 18 = .ok (.aload_n 0, 1) := by decide +kernel
theorem dc_M_numbered_19 : decode cd_M_numbered 19 = .ok (.getfield 53, 3) := by decide +kernel
theorem dc_M_numbered_22 : decode cd_M_numbered 22 = .ok (.iload_n 3, 1) := by decide +kernel
theorem dc_M_numbered_23 : decode cd_M_numbered 23 = .ok (.iaload, 1) := by decide +kernel
theorem dc_M_numbered_24 : decode cd_M_numbered 24 = .ok (.iload_n 2, 1) := by decide +kernel
theorem dc_M_numbered_25 : decode cd_M_numbered 25 = .ok (.if_icmp .ne 5, 3) := by decide +kernel
theorem dc_M_numbered_28 : decode cd_M_numbered 28 = .ok (.iload_n 3, 1) := by decide +kernel
theorem dc_M_numbered_29 : decode cd_M_numbered 29 = .ok (.ireturn, 1) := by decide +kernel
theorem dc_M_numbered_30 : decode cd_M_numbered 30 = .ok (.iinc 3 1, 3) := by decide +kernel
theorem dc_M_numbered_33 : decode cd_M_numbered 33 = .ok (.goto (-31), 3) := by decide +kernel
theorem dc_M_numbered_36 : decode cd_M_numbered 36 = .ok (.iconst (-1), 1) := by decide +kernel
theorem dc_M_numbered_37 : decode cd_M_numbered 37 = .ok (.ireturn, 1) := by decide +kernel
theorem dc_M_cycle_0 : decode cd_M_cycle 0 = .ok (.aload_n 0, 1) := by decide +kernel
theorem dc_M_cycle_1 : decode cd_M_cycle 1 = .ok (.getfield 59, 3) := by decide +kernel
theorem dc_M_cycle_4 : decode cd_M_cycle 4 = .ok (.iload_n 1, 1) := by decide +kernel
theorem dc_M_cycle_5 : decode cd_M_cycle 5 = .ok (.iaload, 1) := by decide +kernel
theorem dc_M_cycle_6 : decode cd_M_cycle 6 = .ok (.istore_n 2, 1) := by decide +kernel
theorem dc_M_cycle_7 : decode cd_M_cycle 7 = .ok (.iconst 0, 1) := by decide +kernel
theorem dc_M_cycle_8 : decode cd_M_cycle 8 = .ok (.istore_n 3, 1) := by decide +kernel
theorem dc_M_cycle_9 : decode cd_M_cycle 9 = .ok (.ldc2_w 201, 3) := by decide +kernel
theorem dc_M_cycle_12 : decode cd_M_cycle 12 = .ok (.aload_n 0, 1) := by decide +kernel
theorem dc_M_cycle_13 : decode cd_M_cycle 13 = .ok (.getfield 47, 3) := by decide +kernel
theorem dc_M_cycle_16 : decode cd_M_cycle 16 = .ok (.bipush 8, 2) := by decide +kernel
theorem dc_M_cycle_18 : decode cd_M_cycle 18 = .ok (.iload_n 2, 1) := by decide +kernel
theorem dc_M_cycle_19 : decode cd_M_cycle 19 = .ok (.imul, 1) := by decide +kernel
theorem dc_M_cycle_20 : decode cd_M_cycle 20 = .ok (.bipush 6, 2) := by decide +kernel
theorem dc_M_cycle_22 : decode cd_M_cycle 22 = .ok (.iadd, 1) := by decide +kernel
theorem dc_M_cycle_23 : decode cd_M_cycle 23 = .ok (.iaload, 1) := by decide +kernel
theorem dc_M_cycle_24 : decode cd_M_cycle 24 = .ok (.i2l, 1) := by decide +kernel
theorem dc_M_cycle_25 : decode cd_M_cycle 25 = .ok (.lsub, 1) := by decide +kernel
theorem dc_M_cycle_26 : decode cd_M_cycle 26 = .ok (.lstore 4, 2) := by decide +kernel
theorem dc_M_cycle_28 : decode cd_M_cycle 28 = .ok (.aload_n 0, 1) := by decide +kernel
theorem dc_M_cycle_29 : decode cd_M_cycle 29 = .ok (.getfield 47, 3) := by decide +kernel
theorem dc_M_cycle_32 : decode cd_M_cycle 32 = .ok (.bipush 8, 2) := by decide +kernel
theorem dc_M_cycle_34 : decode cd_M_cycle 34 = .ok (.iload_n 2, 1) := by decide +kernel
theorem dc_M_cycle_35 : decode cd_M_cycle 35 = .ok (.imul, 1) := by decide +kernel
theorem dc_M_cycle_36 : decode cd_M_cycle 36 = .ok (.bipush 7, 2) := by decide +kernel
theorem dc_M_cycle_38 : decode cd_M_cycle 38 = .ok (.iadd, 1) := by decide +kernel
theorem dc_M_cycle_39 : decode cd_M_cycle 39 = .ok (.iaload, 1) := by decide +kernel
theorem dc_M_cycle_40 : decode cd_M_cycle 40 = .ok (.istore 6, 2) := by decide +kernel
theorem dc_M_cycle_42 : decode cd_M_cycle 42 = .ok (.iconst 0, 1) := by decide +kernel
theorem dc_M_cycle_43 : decode cd_M_cycle 43 = .ok (.istore 7, 2) := by decide +kernel
theorem dc_M_cycle_45 : decode cd_M_cycle 45 = .ok (.iload 7, 2) := by decide +kernel
theorem dc_M_cycle_47 : decode cd_M_cycle 47 = .ok (.bipush 12, 2) := by decide +kernel
theorem dc_M_cycle_49 : decode cd_M_cycle 49 = .ok (.if_icmp .ge 133, 3) := by decide +kernel
theorem dc_M_cycle_52 : decode cd_M_cycle 52 = .ok (.aload_n 0, 1) := by decide +kernel
theorem dc_M_cycle_53 : decode cd_M_cycle 53 = .ok (.iload_n 1, 1) := by decide +kernel
theorem dc_M_cycle_54 : decode cd_M_cycle 54 = .ok (.iload 7, 2) := by decide +kernel
theorem dc_M_cycle_56 : decode cd_M_cycle 56 = .ok (.invokevirtual 203, 3) := by decide +kernel
theorem dc_M_cycle_59 : decode cd_M_cycle 59 = .ok (.istore 8, 2) := by decide +kernel
theorem dc_M_cycle_61 : decode cd_M_cycle 61 = .ok (.iload 8, 2) := by decide +kernel
theorem dc_M_cycle_63 : decode cd_M_cycle 63 = .ok (.ifCond .lt 113, 3) := by decide +kernel
theorem dc_M_cycle_66 : decode cd_M_cycle 66 = .ok (.aload_n 0, 1) := by decide +kernel
theorem dc_M_cycle_67 : decode cd_M_cycle 67 = .ok (.getfield 29, 3) := by decide +kernel
theorem dc_M_cycle_70 : decode cd_M_cycle 70 = .ok (.iload 8, 2) := by decide +kernel
theorem dc_M_cycle_72 : decode cd_M_cycle 72 = .ok (.iaload, 1) := by decide +kernel
theorem dc_M_cycle_73 : decode cd_M_cycle 73 = .ok (.ifCond .eq 103, 3) := by decide +kernel
theorem dc_M_cycle_76 : decode cd_M_cycle 76 = .ok (.iload 6, 2) := by decide +kernel
theorem dc_M_cycle_78 : decode cd_M_cycle 78 = .ok (.aload_n 0, 1) := by decide +kernel
theorem dc_M_cycle_79 : decode cd_M_cycle 79 = .ok (.getfield 26, 3) := by decide +kernel
theorem dc_M_cycle_82 : decode cd_M_cycle 82 = .ok (.iload 8, 2) := by decide +kernel
theorem dc_M_cycle_84 : decode cd_M_cycle 84 = .ok (.iaload, 1) := by decide +kernel
theorem dc_M_cycle_85 : decode cd_M_cycle 85 = .ok (.ishr, 1) := by decide +kernel
theorem dc_M_cycle_86 : decode cd_M_cycle 86 = .ok (.iconst 1, 1) := by decide +kernel
theorem dc_M_cycle_87 : decode cd_M_cycle 87 = .ok (.iand, 1) := by decide +kernel
theorem dc_M_cycle_88 : decode cd_M_cycle 88 = .ok (.iconst 1, 1) := by decide +kernel
theorem dc_M_cycle_89 : decode cd_M_cycle 89 = .ok (.if_icmp .eq 87, 3) := by decide +kernel
theorem dc_M_cycle_92 : decode cd_M_cycle 92 = .ok (.iload_n 3, 1) := by decide +kernel
theorem dc_M_cycle_93 : decode cd_M_cycle 93 = .ok (.aload_n 0, 1) := by decide +kernel
theorem dc_M_cycle_94 : decode cd_M_cycle 94 = .ok (.getfield 29, 3) := by decide +kernel
theorem dc_M_cycle_97 : decode cd_M_cycle 97 = .ok (.iload 8, 2) := by decide +kernel
theorem dc_M_cycle_99 : decode cd_M_cycle 99 = .ok (.iaload, 1) := by decide +kernel
theorem dc_M_cycle_100 : decode cd_M_cycle 100 = .ok (.iadd, 1) := by decide +kernel
theorem dc_M_cycle_101 : decode cd_M_cycle 101 = .ok (.i2l, 1) := by decide +kernel
theorem dc_M_cycle_102 : decode cd_M_cycle 102 = .ok (.lload 4, 2) := by decide +kernel
theorem dc_M_cycle_104 : decode cd_M_cycle 104 = .ok (.lcmp, 1) := by decide +kernel
theorem dc_M_cycle_105 : decode cd_M_cycle 105 = .ok (.ifCond .le 6, 3) := by decide +kernel
theorem dc_M_cycle_108 : decode cd_M_cycle 108 = .ok (.goto 68, 3) := by decide +kernel
theorem dc_M_cycle_111 : decode cd_M_cycle 111 = .ok (.iload_n 3, 1) := by decide +kernel
theorem dc_M_cycle_112 : decode cd_M_cycle 112 = .ok (.aload_n 0, 1) := by decide +kernel
theorem dc_M_cycle_113 : decode cd_M_cycle 113 = .ok (.getfield 29, 3) := by decide +kernel
theorem dc_M_cycle_116 : decode cd_M_cycle 116 = .ok (.iload 8, 2) := by decide +kernel
theorem dc_M_cycle_118 : decode cd_M_cycle 118 = .ok (.iaload, 1) := by decide +kernel
theorem dc_M_cycle_119 : decode cd_M_cycle 119 = .ok (.iadd, 1) := by decide +kernel
theorem dc_M_cycle_120 : decode cd_M_cycle 120 = .ok (.istore_n 3, 1) := by decide +kernel
theorem dc_M_cycle_121 : decode cd_M_cycle 121 = .ok (.aload_n 0, 1) := by decide +kernel
theorem dc_M_cycle_122 : decode cd_M_cycle 122 = .ok (.dup, 1) := by decide +kernel
theorem dc_M_cycle_123 : decode cd_M_cycle 123 = .ok (.getfield 206, 3) := by decide +kernel
theorem dc_M_cycle_126 : decode cd_M_cycle 126 = .ok (.iconst 1, 1) := by decide +kernel
theorem dc_M_cycle_127 : decode cd_M_cycle 127 = .ok (.iadd, 1) := by decide +kernel
theorem dc_M_cycle_128 : decode cd_M_cycle 128 = .ok (.putfield 206, 3) := by decide +kernel
theorem dc_M_cycle_131 : decode cd_M_cycle 131 = .ok (.iconst 0, 1) := by decide +kernel
theorem dc_M_cycle_132 : decode cd_M_cycle 132 = .ok (.istore 9, 2) := by decide +kernel
theorem dc_M_cycle_134 : decode cd_M_cycle 134 = .ok (.iload 9, 2) := by decide +kernel
theorem dc_M_cycle_136 : decode cd_M_cycle 136 = .ok (.bipush 12, 2) := by decide +kernel
theorem dc_M_cycle_138 : decode cd_M_cycle 138 = .ok (.if_icmp .ge 38, 3) := by decide +kernel
theorem dc_M_cycle_141 : decode cd_M_cycle 141 = .ok (.iload 9, 2) := by decide +kernel
theorem dc_M_cycle_143 : decode cd_M_cycle 143 = .ok (.iload 8, 2) := by decide +kernel
theorem dc_M_cycle_145 : decode cd_M_cycle 145 = .ok (.if_icmp .eq 25, 3) := by decide +kernel
theorem dc_M_cycle_148 : decode cd_M_cycle 148 = .ok (.aload_n 0, 1) := by decide +kernel
theorem dc_M_cycle_149 : decode cd_M_cycle 149 = .ok (.getfield 62, 3) := by decide +kernel
theorem dc_M_cycle_152 : decode cd_M_cycle 152 = .ok (.iload 9, 2) := by decide +kernel
theorem dc_M_cycle_154 : decode cd_M_cycle 154 = .ok (.iaload, 1) := by decide +kernel
theorem dc_M_cycle_155 : decode cd_M_cycle 155 = .ok (.iload_n 1, 1) := by decide +kernel
theorem dc_M_cycle_156 : decode cd_M_cycle 156 = .ok (.if_icmp .ne 14, 3) := by decide +kernel
theorem dc_M_cycle_159 : decode cd_M_cycle 159 = .ok (.aload_n 0, 1) := by decide +kernel
theorem dc_M_cycle_160 : decode cd_M_cycle 160 = .ok (.getfield 23, 3) := by decide +kernel
theorem dc_M_cycle_163 : decode cd_M_cycle 163 = .ok (.iload 9, 2) := by decide +kernel
theorem dc_M_cycle_165 : decode cd_M_cycle 165 = .ok (.dup2, 1) := by decide +kernel
theorem dc_M_cycle_166 : decode cd_M_cycle 166 = .ok (.iaload, 1) := by decide +kernel
theorem dc_M_cycle_167 : decode cd_M_cycle 167 = .ok (.iconst 1, 1) := by decide +kernel
theorem dc_M_cycle_168 : decode cd_M_cycle 168 = .ok (.iadd, 1) := by decide +kernel
theorem dc_M_cycle_169 : decode cd_M_cycle 169 = .ok (.iastore, 1) := by decide +kernel
theorem dc_M_cycle_170 : decode cd_M_cycle 170 = .ok (.iinc 9 1, 3) := by decide +kernel
theorem dc_M_cycle_173 : decode cd_M_cycle 173 = .ok (.goto (-39), 3) := by decide +kernel
theorem dc_M_cycle_176 : decode cd_M_cycle 176 = .ok (.iinc 7 1, 3) := by decide +kernel
theorem dc_M_cycle_179 : decode cd_M_cycle 179 = .ok (.goto (-134), 3) := by decide +kernel
theorem dc_M_cycle_182 : decode cd_M_cycle 182 = .ok (.return_, 1) := by decide +kernel
theorem dc_M_tickBus_0 : decode cd_M_tickBus 0 = .ok (.aload_n 0, 1) := by decide +kernel
theorem dc_M_tickBus_1 : decode cd_M_tickBus 1 = .ok (.iload_n 1, 1) := by decide +kernel
theorem dc_M_tickBus_2 : decode cd_M_tickBus 2 = .ok (.invokevirtual 209, 3) := by decide +kernel
theorem dc_M_tickBus_5 : decode cd_M_tickBus 5 = .ok (.ifCond .eq 11, 3) := by decide +kernel
theorem dc_M_tickBus_8 : decode cd_M_tickBus 8 = .ok (.aload_n 0, 1) := by decide +kernel
theorem dc_M_tickBus_9 : decode cd_M_tickBus 9 = .ok (.iload_n 1, 1) := by decide +kernel
theorem dc_M_tickBus_10 : decode cd_M_tickBus 10 = .ok (.invokevirtual 212, 3) := by decide +kernel
theorem dc_M_tickBus_13 : decode cd_M_tickBus 13 = .ok (.goto 45, 3) := by decide +kernel
theorem dc_M_tickBus_16 : decode cd_M_tickBus 16 = .ok (.aload_n 0, 1) := by decide +kernel
theorem dc_M_tickBus_17 : decode cd_M_tickBus 17 = .ok (.getfield 44, 3) := by decide +kernel
theorem dc_M_tickBus_20 : decode cd_M_tickBus 20 = .ok (.iload_n 1, 1) := by decide +kernel
theorem dc_M_tickBus_21 : decode cd_M_tickBus 21 = .ok (.baload, 1) := by decide +kernel
theorem dc_M_tickBus_22 : decode cd_M_tickBus 22 = .ok (.ifCond .eq 4, 3) := by decide +kernel
theorem dc_M_tickBus_25 : decode cd_M_tickBus 25 = .ok (.return_, 1) := by decide +kernel
theorem dc_M_tickBus_26 : decode cd_M_tickBus 26 = .ok (.aload_n 0, 1) := by decide +kernel
theorem dc_M_tickBus_27 : decode cd_M_tickBus 27 = .ok (.getfield 136, 3) := by decide +kernel
theorem dc_M_tickBus_30 : decode cd_M_tickBus 30 = .ok (.bipush 8, 2) := by decide +kernel
theorem dc_M_tickBus_32 : decode cd_M_tickBus 32 = .ok (.irem, 1) := by decide +kernel
theorem dc_M_tickBus_33 : decode cd_M_tickBus 33 = .ok (.ifCond .ne 20, 3) := by decide +kernel
theorem dc_M_tickBus_36 : decode cd_M_tickBus 36 = .ok (.aload_n 0, 1) := by decide +kernel
theorem dc_M_tickBus_37 : decode cd_M_tickBus 37 = .ok (.getfield 59, 3) := by decide +kernel
theorem dc_M_tickBus_40 : decode cd_M_tickBus 40 = .ok (.iload_n 1, 1) := by decide +kernel
theorem dc_M_tickBus_41 : decode cd_M_tickBus 41 = .ok (.iaload, 1) := by decide +kernel
theorem dc_M_tickBus_42 : decode cd_M_tickBus 42 = .ok (.ifCond .lt 11, 3) := by decide +kernel
theorem dc_M_tickBus_45 : decode cd_M_tickBus 45 = .ok (.aload_n 0, 1) := by decide +kernel
theorem dc_M_tickBus_46 : decode cd_M_tickBus 46 = .ok (.iload_n 1, 1) := by decide +kernel
theorem dc_M_tickBus_47 : decode cd_M_tickBus 47 = .ok (.invokevirtual 215, 3) := by decide +kernel
theorem dc_M_tickBus_50 : decode cd_M_tickBus 50 = .ok (.goto 8, 3) := by decide +kernel
theorem dc_M_tickBus_53 : decode cd_M_tickBus 53 = .ok (.aload_n 0, 1) := by decide +kernel
theorem dc_M_tickBus_54 : decode cd_M_tickBus 54 = .ok (.iload_n 1, 1) := by decide +kernel
theorem dc_M_tickBus_55 : decode cd_M_tickBus 55 = .ok (.invokevirtual 218, 3) := by decide +kernel
theorem dc_M_tickBus_58 : decode cd_M_tickBus 58 = .ok (.return_, 1) := by decide +kernel
theorem dc_M_comeLate_0 : decode cd_M_comeLate 0 = .ok (.iconst 0, 1) := by decide +kernel
theorem dc_M_comeLate_1 : decode cd_M_comeLate 1 = .ok (.istore_n 1, 1) := by decide +kernel
theorem dc_M_comeLate_2 : decode cd_M_comeLate 2 = .ok (.iload_n 1, 1) := by decide +kernel
theorem dc_M_comeLate_3 : decode cd_M_comeLate 3 = .ok (.bipush 48, 2) := by decide +kernel
theorem dc_M_comeLate_5 : decode cd_M_comeLate 5 = .ok (.if_icmp .ge 105, 3) := by decide +kernel
theorem dc_M_comeLate_8 : decode cd_M_comeLate 8 = .ok (.aload_n 0, 1) := by decide +kernel
theorem dc_M_comeLate_9 : decode cd_M_comeLate 9 = .ok (.getfield 68, 3) := by decide +kernel
theorem dc_M_comeLate_12 : decode cd_M_comeLate 12 = .ok (.iload_n 1, 1) := by decide +kernel
theorem dc_M_comeLate_13 : decode cd_M_comeLate 13 = .ok (.iaload, 1) := by decide +kernel
theorem dc_M_comeLate_14 : decode cd_M_comeLate 14 = .ok (.iconst (-1), 1) := by decide +kernel
theorem dc_M_comeLate_15 : decode cd_M_comeLate 15 = .ok (.if_icmp .ne 89, 3) := by decide +kernel
theorem dc_M_comeLate_18 : decode cd_M_comeLate 18 = .ok (.aload_n 0, 1) := by decide +kernel
theorem dc_M_comeLate_19 : decode cd_M_comeLate 19 = .ok (.getfield 89, 3) := by decide +kernel
theorem dc_M_comeLate_22 : decode cd_M_comeLate 22 = .ok (.iload_n 1, 1) := by decide +kernel
theorem dc_M_comeLate_23 : decode cd_M_comeLate 23 = .ok (.iaload, 1) := by decide +kernel
theorem dc_M_comeLate_24 : decode cd_M_comeLate 24 = .ok (.aload_n 0, 1) := by decide +kernel
theorem dc_M_comeLate_25 : decode cd_M_comeLate 25 = .ok (.getfield 136, 3) := by decide +kernel
theorem dc_M_comeLate_28 : decode cd_M_comeLate 28 = .ok (.if_icmp .eq 6, 3) := by decide +kernel
theorem dc_M_comeLate_31 : decode cd_M_comeLate 31 = .ok (.goto 73, 3) := by decide +kernel
theorem dc_M_comeLate_34 : decode cd_M_comeLate 34 = .ok (.aload_n 0, 1) := by decide +kernel
theorem dc_M_comeLate_35 : decode cd_M_comeLate 35 = .ok (.getfield 68, 3) := by decide +kernel
theorem dc_M_comeLate_38 : decode cd_M_comeLate 38 = .ok (.iload_n 1, 1) := by decide +kernel
theorem dc_M_comeLate_39 : decode cd_M_comeLate 39 = .ok (.iconst 4, 1) := by decide +kernel
theorem dc_M_comeLate_40 : decode cd_M_comeLate 40 = .ok (.iastore, 1) := by decide +kernel
theorem dc_M_comeLate_41 : decode cd_M_comeLate 41 = .ok (.iload_n 1, 1) := by decide +kernel
theorem dc_M_comeLate_42 : decode cd_M_comeLate 42 = .ok (.iconst 4, 1) := by decide +kernel
theorem dc_M_comeLate_43 : decode cd_M_comeLate 43 = .ok (.idiv, 1) := by decide +kernel
theorem dc_M_comeLate_44 : decode cd_M_comeLate 44 = .ok (.istore_n 2, 1) := by decide +kernel
theorem dc_M_comeLate_45 : decode cd_M_comeLate 45 = .ok (.aload_n 0, 1) := by decide +kernel
theorem dc_M_comeLate_46 : decode cd_M_comeLate 46 = .ok (.getfield 110, 3) := by decide +kernel
theorem dc_M_comeLate_49 : decode cd_M_comeLate 49 = .ok (.iload_n 2, 1) := by decide +kernel
theorem dc_M_comeLate_50 : decode cd_M_comeLate 50 = .ok (.iaload, 1) := by decide +kernel
theorem dc_M_comeLate_51 : decode cd_M_comeLate 51 = .ok (.iconst 1, 1) := by decide +kernel
theorem dc_M_comeLate_52 : decode cd_M_comeLate 52 = .ok (.isub, 1) := by decide +kernel
theorem dc_M_comeLate_53 : decode cd_M_comeLate 53 = .ok (.istore_n 3, 1) := by decide +kernel
theorem dc_M_comeLate_54 : decode cd_M_comeLate 54 = .ok (.iload_n 3, 1) := by decide +kernel
theorem dc_M_comeLate_55 : decode cd_M_comeLate 55 = .ok (.ifCond .lt 49, 3) := by decide +kernel
theorem dc_M_comeLate_58 : decode cd_M_comeLate 58 = .ok (.aload_n 0, 1) := by decide +kernel
theorem dc_M_comeLate_59 : decode cd_M_comeLate 59 = .ok (.getfield 107, 3) := by decide +kernel
theorem dc_M_comeLate_62 : decode cd_M_comeLate 62 = .ok (.bipush 6, 2) := by decide +kernel
theorem dc_M_comeLate_64 : decode cd_M_comeLate 64 = .ok (.iload_n 2, 1) := by decide +kernel
theorem dc_M_comeLate_65 : decode cd_M_comeLate 65 = .ok (.imul, 1) := by decide +kernel
theorem dc_M_comeLate_66 : decode cd_M_comeLate 66 = .ok (.iload_n 3, 1) := by decide +kernel
theorem dc_M_comeLate_67 : decode cd_M_comeLate 67 = .ok (.iadd, 1) := by decide +kernel
theorem dc_M_comeLate_68 : decode cd_M_comeLate 68 = .ok (.baload, 1) := by decide +kernel
theorem dc_M_comeLate_69 : decode cd_M_comeLate 69 = .ok (.ifCond .ne 29, 3) := by decide +kernel
theorem dc_M_comeLate_72 : decode cd_M_comeLate 72 = .ok (.aload_n 0, 1) := by decide +kernel
theorem dc_M_comeLate_73 : decode cd_M_comeLate 73 = .ok (.getfield 98, 3) := by decide +kernel
theorem dc_M_comeLate_76 : decode cd_M_comeLate 76 = .ok (.bipush 6, 2) := by decide +kernel
theorem dc_M_comeLate_78 : decode cd_M_comeLate 78 = .ok (.iload_n 2, 1) := by decide +kernel
theorem dc_M_comeLate_79 : decode cd_M_comeLate 79 = .ok (.imul, 1) := by decide +kernel
theorem dc_M_comeLate_80 : decode cd_M_comeLate 80 = .ok (.iload_n 3, 1) := by decide +kernel
theorem dc_M_comeLate_81 : decode cd_M_comeLate 81 = .ok (.iadd, 1) := by decide +kernel
theorem dc_M_comeLate_82 : decode cd_M_comeLate 82 = .ok (.iaload, 1) := by decide +kernel
theorem dc_M_comeLate_83 : decode cd_M_comeLate 83 = .ok (.aload_n 0, 1) := by decide +kernel
theorem dc_M_comeLate_84 : decode cd_M_comeLate 84 = .ok (.getfield 92, 3) := by decide +kernel
theorem dc_M_comeLate_87 : decode cd_M_comeLate 87 = .ok (.iload_n 1, 1) := by decide +kernel
theorem dc_M_comeLate_88 : decode cd_M_comeLate 88 = .ok (.iaload, 1) := by decide +kernel
theorem dc_M_comeLate_89 : decode cd_M_comeLate 89 = .ok (.if_icmp .ne 9, 3) := by decide +kernel
theorem dc_M_comeLate_92 : decode cd_M_comeLate 92 = .ok (.aload_n 0, 1) := by decide +kernel
theorem dc_M_comeLate_93 : decode cd_M_comeLate 93 = .ok (.iload_n 2, 1) := by decide +kernel
theorem dc_M_comeLate_94 : decode cd_M_comeLate 94 = .ok (.iload_n 3, 1) := by decide +kernel
theorem dc_M_comeLate_95 : decode cd_M_comeLate 95 = .ok (.invokevirtual 146, 3) := by decide +kernel
theorem dc_M_comeLate_98 : decode cd_M_comeLate 98 = .ok (.iinc 3 (-1), 3) := by decide +kernel
theorem dc_M_comeLate_101 : decode cd_M_comeLate 101 = .ok (.goto (-47), 3) := by decide +kernel
theorem dc_M_comeLate_104 : decode cd_M_comeLate 104 = .ok (.iinc 1 1, 3) := by decide +kernel
theorem dc_M_comeLate_107 : decode cd_M_comeLate 107 = .ok (.goto (-105), 3) := by decide +kernel
theorem dc_M_comeLate_110 : decode cd_M_comeLate 110 = .ok (.return_, 1) := by decide +kernel
theorem dc_M_tick_0 : decode cd_M_tick 0 = .ok (.aload_n 0, 1) := by decide +kernel
theorem dc_M_tick_1 : decode cd_M_tick 1 = .ok (.iconst 0, 1) := by decide +kernel
theorem dc_M_tick_2 : decode cd_M_tick 2 = .ok (.putfield 117, 3) := by decide +kernel
theorem dc_M_tick_5 : decode cd_M_tick 5 = .ok (.iload_n 1, 1) := by decide +kernel
theorem dc_M_tick_6 : decode cd_M_tick 6 = .ok (.iconst 1, 1) := by decide +kernel
theorem dc_M_tick_7 : decode cd_M_tick 7 = .ok (.if_icmp .lt 9, 3) := by decide +kernel
theorem dc_M_tick_10 : decode cd_M_tick 10 = .ok (.iload_n 1, 1) := by decide +kernel
theorem dc_M_tick_11 : decode cd_M_tick 11 = .ok (.bipush 50, 2) := by decide +kernel
theorem dc_M_tick_13 : decode cd_M_tick 13 = .ok (.if_icmp .le 9, 3) := by decide +kernel
theorem dc_M_tick_16 : decode cd_M_tick 16 = .ok (.aload_n 0, 1) := by decide +kernel
theorem dc_M_tick_17 : decode cd_M_tick 17 = .ok (.iconst 1, 1) := by decide +kernel
theorem dc_M_tick_18 : decode cd_M_tick 18 = .ok (.invokevirtual 124, 3) := by decide +kernel
theorem dc_M_tick_21 : decode cd_M_tick 21 = .ok (.ireturn, 1) := by decide +kernel
theorem dc_M_tick_22 : decode cd_M_tick 22 = .ok (.aload_n 0, 1) := by decide +kernel
theorem dc_M_tick_23 : decode cd_M_tick 23 = .ok (.invokevirtual 221, 3) := by decide +kernel
theorem dc_M_tick_26 : decode cd_M_tick 26 = .ok (.iconst 0, 1) := by decide +kernel
theorem dc_M_tick_27 : decode cd_M_tick 27 = .ok (.istore_n 2, 1) := by decide +kernel
theorem dc_M_tick_28 : decode cd_M_tick 28 = .ok (.iload_n 2, 1) := by decide +kernel
theorem dc_M_tick_29 : decode cd_M_tick 29 = .ok (.iload_n 1, 1) := by decide +kernel
theorem dc_M_tick_30 : decode cd_M_tick 30 = .ok (.if_icmp .ge 52, 3) := by decide +kernel
theorem dc_M_tick_33 : decode cd_M_tick 33 = .ok (.iconst 0, 1) := by decide +kernel
theorem dc_M_tick_34 : decode cd_M_tick 34 = .ok (.istore_n 3, 1) := by decide +kernel
theorem dc_M_tick_35 : decode cd_M_tick 35 = .ok (.iload_n 3, 1) := by decide +kernel
theorem dc_M_tick_36 : decode cd_M_tick 36 = .ok (.bipush 12, 2) := by decide +kernel
theorem dc_M_tick_38 : decode cd_M_tick 38 = .ok (.if_icmp .ge 24, 3) := by decide +kernel
theorem dc_M_tick_41 : decode cd_M_tick 41 = .ok (.aload_n 0, 1) := by decide +kernel
theorem dc_M_tick_42 : decode cd_M_tick 42 = .ok (.getfield 62, 3) := by decide +kernel
theorem dc_M_tick_45 : decode cd_M_tick 45 = .ok (.iload_n 3, 1) := by decide +kernel
theorem dc_M_tick_46 : decode cd_M_tick 46 = .ok (.iaload, 1) := by decide +kernel
theorem dc_M_tick_47 : decode cd_M_tick 47 = .ok (.iload_n 3, 1) := by decide +kernel
theorem dc_M_tick_48 : decode cd_M_tick 48 = .ok (.if_icmp .ne 8, 3) := by decide +kernel
theorem dc_M_tick_51 : decode cd_M_tick 51 = .ok (.aload_n 0, 1) := by decide +kernel
theorem dc_M_tick_52 : decode cd_M_tick 52 = .ok (.iload_n 3, 1) := by decide +kernel
theorem dc_M_tick_53 : decode cd_M_tick 53 = .ok (.invokevirtual 224, 3) := by decide +kernel
theorem dc_M_tick_56 : decode cd_M_tick 56 = .ok (.iinc 3 1, 3) := by decide +kernel
theorem dc_M_tick_59 : decode cd_M_tick 59 = .ok (.goto (-24), 3) := by decide +kernel
theorem dc_M_tick_62 : decode cd_M_tick 62 = .ok (.aload_n 0, 1) := by decide +kernel
theorem dc_M_tick_63 : decode cd_M_tick 63 = .ok (.dup, 1) := by decide +kernel
theorem dc_M_tick_64 : decode cd_M_tick 64 = .ok (.getfield 136, 3) := by decide +kernel
theorem dc_M_tick_67 : decode cd_M_tick 67 = .ok (.iconst 1, 1) := by decide +kernel
theorem dc_M_tick_68 : decode cd_M_tick 68 = .ok (.iadd, 1) := by decide +kernel
theorem dc_M_tick_69 : decode cd_M_tick 69 = .ok (.putfield 136, 3) := by decide +kernel
theorem dc_M_tick_72 : decode cd_M_tick 72 = .ok (.aload_n 0, 1) := by decide +kernel
theorem dc_M_tick_73 : decode cd_M_tick 73 = .ok (.invokevirtual 227, 3) := by decide +kernel
theorem dc_M_tick_76 : decode cd_M_tick 76 = .ok (.iinc 2 1, 3) := by decide +kernel
theorem dc_M_tick_79 : decode cd_M_tick 79 = .ok (.goto (-51), 3) := by decide +kernel
theorem dc_M_tick_82 : decode cd_M_tick 82 = .ok (.aload_n 0, 1) := by decide +kernel
theorem dc_M_tick_83 : decode cd_M_tick 83 = .ok (.getfield 136, 3) := by decide +kernel
theorem dc_M_tick_86 : decode cd_M_tick 86 = .ok (.ireturn, 1) := by decide +kernel
theorem dc_M_talk_0 : decode cd_M_talk 0 = .ok (.aload_n 0, 1) := by decide +kernel
theorem dc_M_talk_1 : decode cd_M_talk 1 = .ok (.iconst 0, 1) := by decide +kernel
theorem dc_M_talk_2 : decode cd_M_talk 2 = .ok (.putfield 117, 3) := by decide +kernel
theorem dc_M_talk_5 : decode cd_M_talk 5 = .ok (.iload_n 1, 1) := by decide +kernel
theorem dc_M_talk_6 : decode cd_M_talk 6 = .ok (.bipush 12, 2) := by decide +kernel
theorem dc_M_talk_8 : decode cd_M_talk 8 = .ok (.invokestatic 120, 3) := by decide +kernel
theorem dc_M_talk_11 : decode cd_M_talk 11 = .ok (.ifCond .eq 11, 3) := by decide +kernel
theorem dc_M_talk_14 : decode cd_M_talk 14 = .ok (.aload_n 0, 1) := by decide +kernel
theorem dc_M_talk_15 : decode cd_M_talk 15 = .ok (.iconst 1, 1) := by decide +kernel
theorem dc_M_talk_16 : decode cd_M_talk 16 = .ok (.putfield 117, 3) := by decide +kernel
theorem dc_M_talk_19 : decode cd_M_talk 19 = .ok (.goto 43, 3) := by decide +kernel
theorem dc_M_talk_22 : decode cd_M_talk 22 = .ok (.iload_n 2, 1) := by decide +kernel
theorem dc_M_talk_23 : decode cd_M_talk 23 = .ok (.bipush 32, 2) := by decide +kernel
theorem dc_M_talk_25 : decode cd_M_talk 25 = .ok (.invokestatic 120, 3) := by decide +kernel
theorem dc_M_talk_28 : decode cd_M_talk 28 = .ok (.ifCond .ne 12, 3) := by decide +kernel
theorem dc_M_talk_31 : decode cd_M_talk 31 = .ok (.iload_n 3, 1) := by decide +kernel
theorem dc_M_talk_32 : decode cd_M_talk 32 = .ok (.bipush 101, 2) := by decide +kernel
theorem dc_M_talk_34 : decode cd_M_talk 34 = .ok (.invokestatic 120, 3) := by decide +kernel
theorem dc_M_talk_37 : decode cd_M_talk 37 = .ok (.ifCond .eq 11, 3) := by decide +kernel
theorem dc_M_talk_40 : decode cd_M_talk 40 = .ok (.aload_n 0, 1) := by decide +kernel
theorem dc_M_talk_41 : decode cd_M_talk 41 = .ok (.iconst 2, 1) := by decide +kernel
theorem dc_M_talk_42 : decode cd_M_talk 42 = .ok (.putfield 117, 3) := by decide +kernel
theorem dc_M_talk_45 : decode cd_M_talk 45 = .ok (.goto 17, 3) := by decide +kernel
theorem dc_M_talk_48 : decode cd_M_talk 48 = .ok (.aload_n 0, 1) := by decide +kernel
theorem dc_M_talk_49 : decode cd_M_talk 49 = .ok (.getfield 26, 3) := by decide +kernel
theorem dc_M_talk_52 : decode cd_M_talk 52 = .ok (.iload_n 1, 1) := by decide +kernel
theorem dc_M_talk_53 : decode cd_M_talk 53 = .ok (.iload_n 2, 1) := by decide +kernel
theorem dc_M_talk_54 : decode cd_M_talk 54 = .ok (.iastore, 1) := by decide +kernel
theorem dc_M_talk_55 : decode cd_M_talk 55 = .ok (.aload_n 0, 1) := by decide +kernel
theorem dc_M_talk_56 : decode cd_M_talk 56 = .ok (.getfield 29, 3) := by decide +kernel
theorem dc_M_talk_59 : decode cd_M_talk 59 = .ok (.iload_n 1, 1) := by decide +kernel
theorem dc_M_talk_60 : decode cd_M_talk 60 = .ok (.iload_n 3, 1) := by decide +kernel
theorem dc_M_talk_61 : decode cd_M_talk 61 = .ok (.iastore, 1) := by decide +kernel
theorem dc_M_talk_62 : decode cd_M_talk 62 = .ok (.return_, 1) := by decide +kernel
theorem dc_M_time_0 : decode cd_M_time 0 = .ok (.aload_n 0, 1) := by decide +kernel
theorem dc_M_time_1 : decode cd_M_time 1 = .ok (.iconst 0, 1) := by decide +kernel
theorem dc_M_time_2 : decode cd_M_time 2 = .ok (.putfield 117, 3) := by decide +kernel
theorem dc_M_time_5 : decode cd_M_time 5 = .ok (.iload_n 1, 1) := by decide +kernel
theorem dc_M_time_6 : decode cd_M_time 6 = .ok (.iconst 2, 1) := by decide +kernel
theorem dc_M_time_7 : decode cd_M_time 7 = .ok (.if_icmp .lt 9, 3) := by decide +kernel
theorem dc_M_time_10 : decode cd_M_time 10 = .ok (.iload_n 1, 1) := by decide +kernel
theorem dc_M_time_11 : decode cd_M_time 11 = .ok (.bipush 60, 2) := by decide +kernel
theorem dc_M_time_13 : decode cd_M_time 13 = .ok (.if_icmp .le 11, 3) := by decide +kernel
theorem dc_M_time_16 : decode cd_M_time 16 = .ok (.aload_n 0, 1) := by decide +kernel
theorem dc_M_time_17 : decode cd_M_time 17 = .ok (.iconst 1, 1) := by decide +kernel
theorem dc_M_time_18 : decode cd_M_time 18 = .ok (.putfield 117, 3) := by decide +kernel
theorem dc_M_time_21 : decode cd_M_time 21 = .ok (.goto 8, 3) := by decide +kernel
theorem dc_M_time_24 : decode cd_M_time 24 = .ok (.aload_n 0, 1) := by decide +kernel
theorem dc_M_time_25 : decode cd_M_time 25 = .ok (.iload_n 1, 1) := by decide +kernel
theorem dc_M_time_26 : decode cd_M_time 26 = .ok (.putfield 113, 3) := by decide +kernel
theorem dc_M_time_29 : decode cd_M_time 29 = .ok (.return_, 1) := by decide +kernel
theorem dc_M_ended_0 : decode cd_M_ended 0 = .ok (.aload_n 0, 1) := by decide +kernel
theorem dc_M_ended_1 : decode cd_M_ended 1 = .ok (.iconst 0, 1) := by decide +kernel
theorem dc_M_ended_2 : decode cd_M_ended 2 = .ok (.putfield 117, 3) := by decide +kernel
theorem dc_M_ended_5 : decode cd_M_ended 5 = .ok (.iload_n 1, 1) := by decide +kernel
theorem dc_M_ended_6 : decode cd_M_ended 6 = .ok (.bipush 12, 2) := by decide +kernel
theorem dc_M_ended_8 : decode cd_M_ended 8 = .ok (.invokestatic 120, 3) := by decide +kernel
theorem dc_M_ended_11 : decode cd_M_ended 11 = .ok (.ifCond .eq 9, 3) := by decide +kernel
theorem dc_M_ended_14 : decode cd_M_ended 14 = .ok (.aload_n 0, 1) := by decide +kernel
theorem dc_M_ended_15 : decode cd_M_ended 15 = .ok (.iconst 1, 1) := by decide +kernel
theorem dc_M_ended_16 : decode cd_M_ended 16 = .ok (.invokevirtual 124, 3) := by decide +kernel
theorem dc_M_ended_19 : decode cd_M_ended 19 = .ok (.ireturn, 1) := by decide +kernel
theorem dc_M_ended_20 : decode cd_M_ended 20 = .ok (.iload_n 2, 1) := by decide +kernel
theorem dc_M_ended_21 : decode cd_M_ended 21 = .ok (.iconst 4, 1) := by decide +kernel
theorem dc_M_ended_22 : decode cd_M_ended 22 = .ok (.invokestatic 120, 3) := by decide +kernel
theorem dc_M_ended_25 : decode cd_M_ended 25 = .ok (.ifCond .eq 9, 3) := by decide +kernel
theorem dc_M_ended_28 : decode cd_M_ended 28 = .ok (.aload_n 0, 1) := by decide +kernel
theorem dc_M_ended_29 : decode cd_M_ended 29 = .ok (.iconst 2, 1) := by decide +kernel
theorem dc_M_ended_30 : decode cd_M_ended 30 = .ok (.invokevirtual 124, 3) := by decide +kernel
theorem dc_M_ended_33 : decode cd_M_ended 33 = .ok (.ireturn, 1) := by decide +kernel
theorem dc_M_ended_34 : decode cd_M_ended 34 = .ok (.aload_n 0, 1) := by decide +kernel
theorem dc_M_ended_35 : decode cd_M_ended 35 = .ok (.getfield 68, 3) := by decide +kernel
theorem dc_M_ended_38 : decode cd_M_ended 38 = .ok (.iconst 4, 1) := by decide +kernel
theorem dc_M_ended_39 : decode cd_M_ended 39 = .ok (.iload_n 1, 1) := by decide +kernel
theorem dc_M_ended_40 : decode cd_M_ended 40 = .ok (.imul, 1) := by decide +kernel
theorem dc_M_ended_41 : decode cd_M_ended 41 = .ok (.iload_n 2, 1) := by decide +kernel
theorem dc_M_ended_42 : decode cd_M_ended 42 = .ok (.iadd, 1) := by decide +kernel
theorem dc_M_ended_43 : decode cd_M_ended 43 = .ok (.iaload, 1) := by decide +kernel
theorem dc_M_ended_44 : decode cd_M_ended 44 = .ok (.bipush (-2), 2) := by decide +kernel
theorem dc_M_ended_46 : decode cd_M_ended 46 = .ok (.if_icmp .ne 11, 3) := by decide +kernel
theorem dc_M_ended_49 : decode cd_M_ended 49 = .ok (.aload_n 0, 1) := by decide +kernel
theorem dc_M_ended_50 : decode cd_M_ended 50 = .ok (.iconst 3, 1) := by decide +kernel
theorem dc_M_ended_51 : decode cd_M_ended 51 = .ok (.invokevirtual 124, 3) := by decide +kernel
theorem dc_M_ended_54 : decode cd_M_ended 54 = .ok (.goto 13, 3) := by decide +kernel
theorem dc_M_ended_57 : decode cd_M_ended 57 = .ok (.aload_n 0, 1) := by decide +kernel
theorem dc_M_ended_58 : decode cd_M_ended 58 = .ok (.getfield 68, 3) := by decide +kernel
theorem dc_M_ended_61 : decode cd_M_ended 61 = .ok (.iconst 4, 1) := by decide +kernel
theorem dc_M_ended_62 : decode cd_M_ended 62 = .ok (.iload_n 1, 1) := by decide +kernel
theorem dc_M_ended_63 : decode cd_M_ended 63 = .ok (.imul, 1) := by decide +kernel
theorem dc_M_ended_64 : decode cd_M_ended 64 = .ok (.iload_n 2, 1) := by decide +kernel
theorem dc_M_ended_65 : decode cd_M_ended 65 = .ok (.iadd, 1) := by decide +kernel
theorem dc_M_ended_66 : decode cd_M_ended 66 = .ok (.iaload, 1) := by decide +kernel
theorem dc_M_ended_67 : decode cd_M_ended 67 = .ok (.ireturn, 1) := by decide +kernel
theorem dc_M_value_0 : decode cd_M_value 0 = .ok (.aload_n 0, 1) := by decide +kernel
theorem dc_M_value_1 : decode cd_M_value 1 = .ok (.iconst 0, 1) := by decide +kernel
theorem dc_M_value_2 : decode cd_M_value 2 = .ok (.putfield 117, 3) := by decide +kernel
theorem dc_M_value_5 : decode cd_M_value 5 = .ok (.iload_n 1, 1) := by decide +kernel
theorem dc_M_value_6 : decode cd_M_value 6 = .ok (.bipush 12, 2) := by decide +kernel
theorem dc_M_value_8 : decode cd_M_value 8 = .ok (.invokestatic 120, 3) := by decide +kernel
theorem dc_M_value_11 : decode cd_M_value 11 = .ok (.ifCond .eq 9, 3) := by decide +kernel
theorem dc_M_value_14 : decode cd_M_value 14 = .ok (.aload_n 0, 1) := by decide +kernel
theorem dc_M_value_15 : decode cd_M_value 15 = .ok (.iconst 1, 1) := by decide +kernel
theorem dc_M_value_16 : decode cd_M_value 16 = .ok (.invokevirtual 124, 3) := by decide +kernel
theorem dc_M_value_19 : decode cd_M_value 19 = .ok (.ireturn, 1) := by decide +kernel
theorem dc_M_value_20 : decode cd_M_value 20 = .ok (.iload_n 2, 1) := by decide +kernel
theorem dc_M_value_21 : decode cd_M_value 21 = .ok (.iconst 4, 1) := by decide +kernel
theorem dc_M_value_22 : decode cd_M_value 22 = .ok (.invokestatic 120, 3) := by decide +kernel
theorem dc_M_value_25 : decode cd_M_value 25 = .ok (.ifCond .eq 9, 3) := by decide +kernel
theorem dc_M_value_28 : decode cd_M_value 28 = .ok (.aload_n 0, 1) := by decide +kernel
theorem dc_M_value_29 : decode cd_M_value 29 = .ok (.iconst 2, 1) := by decide +kernel
theorem dc_M_value_30 : decode cd_M_value 30 = .ok (.invokevirtual 124, 3) := by decide +kernel
theorem dc_M_value_33 : decode cd_M_value 33 = .ok (.ireturn, 1) := by decide +kernel
theorem dc_M_value_34 : decode cd_M_value 34 = .ok (.aload_n 0, 1) := by decide +kernel
theorem dc_M_value_35 : decode cd_M_value 35 = .ok (.getfield 68, 3) := by decide +kernel
theorem dc_M_value_38 : decode cd_M_value 38 = .ok (.iconst 4, 1) := by decide +kernel
theorem dc_M_value_39 : decode cd_M_value 39 = .ok (.iload_n 1, 1) := by decide +kernel
theorem dc_M_value_40 : decode cd_M_value 40 = .ok (.imul, 1) := by decide +kernel
theorem dc_M_value_41 : decode cd_M_value 41 = .ok (.iload_n 2, 1) := by decide +kernel
theorem dc_M_value_42 : decode cd_M_value 42 = .ok (.iadd, 1) := by decide +kernel
theorem dc_M_value_43 : decode cd_M_value 43 = .ok (.iaload, 1) := by decide +kernel
theorem dc_M_value_44 : decode cd_M_value 44 = .ok (.istore_n 3, 1) := by decide +kernel
theorem dc_M_value_45 : decode cd_M_value 45 = .ok (.iload_n 3, 1) := by decide +kernel
theorem dc_M_value_46 : decode cd_M_value 46 = .ok (.bipush (-2), 2) := by decide +kernel
theorem dc_M_value_48 : decode cd_M_value 48 = .ok (.if_icmp .eq 8, 3) := by decide +kernel
theorem dc_M_value_51 : decode cd_M_value 51 = .ok (.iload_n 3, 1) := by decide +kernel
theorem dc_M_value_52 : decode cd_M_value 52 = .ok (.iconst (-1), 1) := by decide +kernel
theorem dc_M_value_53 : decode cd_M_value 53 = .ok (.if_icmp .ne 9, 3) := by decide +kernel
theorem dc_M_value_56 : decode cd_M_value 56 = .ok (.aload_n 0, 1) := by decide +kernel
theorem dc_M_value_57 : decode cd_M_value 57 = .ok (.iconst 3, 1) := by decide +kernel
theorem dc_M_value_58 : decode cd_M_value 58 = .ok (.invokevirtual 124, 3) := by decide +kernel
theorem dc_M_value_61 : decode cd_M_value 61 = .ok (.ireturn, 1) := by decide +kernel
theorem dc_M_value_62 : decode cd_M_value 62 = .ok (.aload_n 0, 1) := by decide +kernel
theorem dc_M_value_63 : decode cd_M_value 63 = .ok (.getfield 68, 3) := by decide +kernel
theorem dc_M_value_66 : decode cd_M_value 66 = .ok (.iconst 4, 1) := by decide +kernel
theorem dc_M_value_67 : decode cd_M_value 67 = .ok (.iload_n 1, 1) := by decide +kernel
theorem dc_M_value_68 : decode cd_M_value 68 = .ok (.imul, 1) := by decide +kernel
theorem dc_M_value_69 : decode cd_M_value 69 = .ok (.iload_n 2, 1) := by decide +kernel
theorem dc_M_value_70 : decode cd_M_value 70 = .ok (.iadd, 1) := by decide +kernel
theorem dc_M_value_71 : decode cd_M_value 71 = .ok (.bipush (-2), 2) := by decide +kernel
theorem dc_M_value_73 : decode cd_M_value 73 = .ok (.iastore, 1) := by decide +kernel
theorem dc_M_value_74 : decode cd_M_value 74 = .ok (.iload_n 3, 1) := by decide +kernel
theorem dc_M_value_75 : decode cd_M_value 75 = .ok (.ifCond .ne 16, 3) := by decide +kernel
theorem dc_M_value_78 : decode cd_M_value 78 = .ok (.aload_n 0, 1) := by decide +kernel
theorem dc_M_value_79 : decode cd_M_value 79 = .ok (.getfield 86, 3) := by decide +kernel
theorem dc_M_value_82 : decode cd_M_value 82 = .ok (.iconst 4, 1) := by decide +kernel
theorem dc_M_value_83 : decode cd_M_value 83 = .ok (.iload_n 1, 1) := by decide +kernel
theorem dc_M_value_84 : decode cd_M_value 84 = .ok (.imul, 1) := by decide +kernel
theorem dc_M_value_85 : decode cd_M_value 85 = .ok (.iload_n 2, 1) := by decide +kernel
theorem dc_M_value_86 : decode cd_M_value 86 = .ok (.iadd, 1) := by decide +kernel
theorem dc_M_value_87 : decode cd_M_value 87 = .ok (.iaload, 1) := by decide +kernel
theorem dc_M_value_88 : decode cd_M_value 88 = .ok (.goto 8, 3) := by decide +kernel
theorem dc_M_value_91 : decode cd_M_value 91 = .ok (.aload_n 0, 1) := by decide +kernel
theorem dc_M_value_92 : decode cd_M_value 92 = .ok (.iconst 4, 1) := by decide +kernel
theorem dc_M_value_93 : decode cd_M_value 93 = .ok (.invokevirtual 124, 3) := by decide +kernel
theorem dc_M_value_96 : decode cd_M_value 96 = .ok (.ireturn, 1) := by decide +kernel
theorem dc_M_waiting_0 : decode cd_M_waiting 0 = .ok (.iconst 0, 1) := by decide +kernel
theorem dc_M_waiting_1 : decode cd_M_waiting 1 = .ok (.istore_n 2, 1) := by decide +kernel
theorem dc_M_waiting_2 : decode cd_M_waiting 2 = .ok (.iconst 4, 1) := by decide +kernel
theorem dc_M_waiting_3 : decode cd_M_waiting 3 = .ok (.iload_n 1, 1) := by decide +kernel
theorem dc_M_waiting_4 : decode cd_M_waiting 4 = .ok (.imul, 1) := by decide +kernel
theorem dc_M_waiting_5 : decode cd_M_waiting 5 = .ok (.istore_n 3, 1) := by decide +kernel
theorem dc_M_waiting_6 : decode cd_M_waiting 6 = .ok (.iload_n 3, 1) := by decide +kernel
theorem dc_M_waiting_7 : decode cd_M_waiting 7 = .ok (.iconst 4, 1) := by decide +kernel
theorem dc_M_waiting_8 : decode cd_M_waiting 8 = .ok (.iload_n 1, 1) := by decide +kernel
theorem dc_M_waiting_9 : decode cd_M_waiting 9 = .ok (.imul, 1) := by decide +kernel
theorem dc_M_waiting_10 : decode cd_M_waiting 10 = .ok (.iconst 4, 1) := by decide +kernel
theorem dc_M_waiting_11 : decode cd_M_waiting 11 = .ok (.iadd, 1) := by decide +kernel
theorem dc_M_waiting_12 : decode cd_M_waiting 12 = .ok (.if_icmp .ge 22, 3) := by decide +kernel
theorem dc_M_waiting_15 : decode cd_M_waiting 15 = .ok (.aload_n 0, 1) := by decide +kernel
theorem dc_M_waiting_16 : decode cd_M_waiting 16 = .ok (.getfield 68, 3) := by decide +kernel
theorem dc_M_waiting_19 : decode cd_M_waiting 19 = .ok (.iload_n 3, 1) := by decide +kernel
theorem dc_M_waiting_20 : decode cd_M_waiting 20 = .ok (.iaload, 1) := by decide +kernel
theorem dc_M_waiting_21 : decode cd_M_waiting 21 = .ok (.iconst (-1), 1) := by decide +kernel
theorem dc_M_waiting_22 : decode cd_M_waiting 22 = .ok (.if_icmp .ne 6, 3) := by decide +kernel
theorem dc_M_waiting_25 : decode cd_M_waiting 25 = .ok (.iinc 2 1, 3) := by decide +kernel
theorem dc_M_waiting_28 : decode cd_M_waiting 28 = .ok (.iinc 3 1, 3) := by decide +kernel
theorem dc_M_waiting_31 : decode cd_M_waiting 31 = .ok (.goto (-25), 3) := by decide +kernel
theorem dc_M_waiting_34 : decode cd_M_waiting 34 = .ok (.iload_n 2, 1) := by decide +kernel
theorem dc_M_waiting_35 : decode cd_M_waiting 35 = .ok (.ireturn, 1) := by decide +kernel
theorem dc_M_about_0 : decode cd_M_about 0 = .ok (.aload_n 0, 1) := by decide +kernel
theorem dc_M_about_1 : decode cd_M_about 1 = .ok (.iconst 0, 1) := by decide +kernel
theorem dc_M_about_2 : decode cd_M_about 2 = .ok (.putfield 117, 3) := by decide +kernel
theorem dc_M_about_5 : decode cd_M_about 5 = .ok (.iload_n 1, 1) := by decide +kernel
theorem dc_M_about_6 : decode cd_M_about 6 = .ok (.bipush 12, 2) := by decide +kernel
theorem dc_M_about_8 : decode cd_M_about 8 = .ok (.invokestatic 120, 3) := by decide +kernel
theorem dc_M_about_11 : decode cd_M_about 11 = .ok (.ifCond .eq 9, 3) := by decide +kernel
theorem dc_M_about_14 : decode cd_M_about 14 = .ok (.aload_n 0, 1) := by decide +kernel
theorem dc_M_about_15 : decode cd_M_about 15 = .ok (.iconst 1, 1) := by decide +kernel
theorem dc_M_about_16 : decode cd_M_about 16 = .ok (.invokevirtual 124, 3) := by decide +kernel
theorem dc_M_about_19 : decode cd_M_about 19 = .ok (.ireturn, 1) := by decide +kernel
theorem dc_M_about_20 : decode cd_M_about 20 = .ok (.aload_n 0, 1) := by decide +kernel
theorem dc_M_about_21 : decode cd_M_about 21 = .ok (.invokevirtual 221, 3) := by decide +kernel
theorem dc_M_about_24 : decode cd_M_about 24 = .ok (.iload_n 2, 1) := by decide +kernel
theorem dc_M_about_25 : decode cd_M_about 25 = .ok (.tableswitch 147 0 8 #[51, 84, 91, 98, 105, 112, 119, 126, 132], 51) := by decide +kernel
theorem dc_M_about_76 : decode cd_M_about 76 = .ok (.aload_n 0, 1) := by decide +kernel
theorem dc_M_about_77 : decode cd_M_about 77 = .ok (.getfield 44, 3) := by decide +kernel
theorem dc_M_about_80 : decode cd_M_about 80 = .ok (.iload_n 1, 1) := by decide +kernel
theorem dc_M_about_81 : decode cd_M_about 81 = .ok (.baload, 1) := by decide +kernel
theorem dc_M_about_82 : decode cd_M_about 82 = .ok (.ifCond .ne 16, 3) := by decide +kernel
theorem dc_M_about_85 : decode cd_M_about 85 = .ok (.aload_n 0, 1) := by decide +kernel
theorem dc_M_about_86 : decode cd_M_about 86 = .ok (.aload_n 0, 1) := by decide +kernel
theorem dc_M_about_87 : decode cd_M_about 87 = .ok (.getfield 62, 3) := by decide +kernel
theorem dc_M_about_90 : decode cd_M_about 90 = .ok (.iload_n 1, 1) := by decide +kernel
theorem dc_M_about_91 : decode cd_M_about 91 = .ok (.iaload, 1) := by decide +kernel
theorem dc_M_about_92 : decode cd_M_about 92 = .ok (.invokevirtual 209, 3) := by decide +kernel
theorem dc_M_about_95 : decode cd_M_about 95 = .ok (.ifCond .eq 7, 3) := by decide +kernel
theorem dc_M_about_98 : decode cd_M_about 98 = .ok (.iconst (-1), 1) := by decide +kernel
theorem dc_M_about_99 : decode cd_M_about 99 = .ok (.goto 9, 3) := by decide +kernel
theorem dc_M_about_102 : decode cd_M_about 102 = .ok (.aload_n 0, 1) := by decide +kernel
theorem dc_M_about_103 : decode cd_M_about 103 = .ok (.getfield 53, 3) := by decide +kernel
theorem dc_M_about_106 : decode cd_M_about 106 = .ok (.iload_n 1, 1) := by decide +kernel
theorem dc_M_about_107 : decode cd_M_about 107 = .ok (.iaload, 1) := by decide +kernel
theorem dc_M_about_108 : decode cd_M_about 108 = .ok (.ireturn, 1) := by decide +kernel
theorem dc_M_about_109 : decode cd_M_about 109 = .ok (.aload_n 0, 1) := by decide +kernel
theorem dc_M_about_110 : decode cd_M_about 110 = .ok (.getfield 50, 3) := by decide +kernel
theorem dc_M_about_113 : decode cd_M_about 113 = .ok (.iload_n 1, 1) := by decide +kernel
theorem dc_M_about_114 : decode cd_M_about 114 = .ok (.iaload, 1) := by decide +kernel
theorem dc_M_about_115 : decode cd_M_about 115 = .ok (.ireturn, 1) := by decide +kernel
theorem dc_M_about_116 : decode cd_M_about 116 = .ok (.aload_n 0, 1) := by decide +kernel
theorem dc_M_about_117 : decode cd_M_about 117 = .ok (.getfield 56, 3) := by decide +kernel
theorem dc_M_about_120 : decode cd_M_about 120 = .ok (.iload_n 1, 1) := by decide +kernel
theorem dc_M_about_121 : decode cd_M_about 121 = .ok (.iaload, 1) := by decide +kernel
theorem dc_M_about_122 : decode cd_M_about 122 = .ok (.ireturn, 1) := by decide +kernel
theorem dc_M_about_123 : decode cd_M_about 123 = .ok (.aload_n 0, 1) := by decide +kernel
theorem dc_M_about_124 : decode cd_M_about 124 = .ok (.getfield 59, 3) := by decide +kernel
theorem dc_M_about_127 : decode cd_M_about 127 = .ok (.iload_n 1, 1) := by decide +kernel
theorem dc_M_about_128 : decode cd_M_about 128 = .ok (.iaload, 1) := by decide +kernel
theorem dc_M_about_129 : decode cd_M_about 129 = .ok (.ireturn, 1) := by decide +kernel
theorem dc_M_about_130 : decode cd_M_about 130 = .ok (.aload_n 0, 1) := by decide +kernel
theorem dc_M_about_131 : decode cd_M_about 131 = .ok (.getfield 110, 3) := by decide +kernel
theorem dc_M_about_134 : decode cd_M_about 134 = .ok (.iload_n 1, 1) := by decide +kernel
theorem dc_M_about_135 : decode cd_M_about 135 = .ok (.iaload, 1) := by decide +kernel
theorem dc_M_about_136 : decode cd_M_about 136 = .ok (.ireturn, 1) := by decide +kernel
theorem dc_M_about_137 : decode cd_M_about 137 = .ok (.aload_n 0, 1) := by decide +kernel
theorem dc_M_about_138 : decode cd_M_about 138 = .ok (.getfield 23, 3) := by decide +kernel
theorem dc_M_about_141 : decode cd_M_about 141 = .ok (.iload_n 1, 1) := by decide +kernel
theorem dc_M_about_142 : decode cd_M_about 142 = .ok (.iaload, 1) := by decide +kernel
theorem dc_M_about_143 : decode cd_M_about 143 = .ok (.ireturn, 1) := by decide +kernel
theorem dc_M_about_144 : decode cd_M_about 144 = .ok (.aload_n 0, 1) := by decide +kernel
theorem dc_M_about_145 : decode cd_M_about 145 = .ok (.getfield 20, 3) := by decide +kernel
theorem dc_M_about_148 : decode cd_M_about 148 = .ok (.iload_n 1, 1) := by decide +kernel
theorem dc_M_about_149 : decode cd_M_about 149 = .ok (.iaload, 1) := by decide +kernel
theorem dc_M_about_150 : decode cd_M_about 150 = .ok (.ireturn, 1) := by decide +kernel
theorem dc_M_about_151 : decode cd_M_about 151 = .ok (.aload_n 0, 1) := by decide +kernel
theorem dc_M_about_152 : decode cd_M_about 152 = .ok (.iload_n 1, 1) := by decide +kernel
theorem dc_M_about_153 : decode cd_M_about 153 = .ok (.invokevirtual 230, 3) := by decide +kernel
theorem dc_M_about_156 : decode cd_M_about 156 = .ok (.ireturn, 1) := by decide +kernel
theorem dc_M_about_157 : decode cd_M_about 157 = .ok (.aload_n 0, 1) := by decide +kernel
theorem dc_M_about_158 : decode cd_M_about 158 = .ok (.getfield 38, 3) := by decide +kernel
theorem dc_M_about_161 : decode cd_M_about 161 = .ok (.iload_n 1, 1) := by decide +kernel
theorem dc_M_about_162 : decode cd_M_about 162 = .ok (.baload, 1) := by decide +kernel
theorem dc_M_about_163 : decode cd_M_about 163 = .ok (.ifCond .eq 7, 3) := by decide +kernel
theorem dc_M_about_166 : decode cd_M_about 166 = .ok (.iconst 1, 1) := by decide +kernel
theorem dc_M_about_167 : decode cd_M_about 167 = .ok (.goto 4, 3) := by decide +kernel
theorem dc_M_about_170 : decode cd_M_about 170 = .ok (.iconst 0, 1) := by decide +kernel
theorem dc_M_about_171 : decode cd_M_about 171 = .ok (.ireturn, 1) := by decide +kernel
theorem dc_M_about_172 : decode cd_M_about 172 = .ok (.aload_n 0, 1) := by decide +kernel
theorem dc_M_about_173 : decode cd_M_about 173 = .ok (.iconst 2, 1) := by decide +kernel
theorem dc_M_about_174 : decode cd_M_about 174 = .ok (.invokevirtual 124, 3) := by decide +kernel
theorem dc_M_about_177 : decode cd_M_about 177 = .ok (.ireturn, 1) := by decide +kernel
theorem dc_M_word_0 : decode cd_M_word 0 = .ok (.aload_n 0, 1) := by decide +kernel
theorem dc_M_word_1 : decode cd_M_word 1 = .ok (.iconst 0, 1) := by decide +kernel
theorem dc_M_word_2 : decode cd_M_word 2 = .ok (.putfield 117, 3) := by decide +kernel
theorem dc_M_word_5 : decode cd_M_word 5 = .ok (.iload_n 1, 1) := by decide +kernel
theorem dc_M_word_6 : decode cd_M_word 6 = .ok (.bipush 12, 2) := by decide +kernel
theorem dc_M_word_8 : decode cd_M_word 8 = .ok (.invokestatic 120, 3) := by decide +kernel
theorem dc_M_word_11 : decode cd_M_word 11 = .ok (.ifCond .eq 9, 3) := by decide +kernel
theorem dc_M_word_14 : decode cd_M_word 14 = .ok (.aload_n 0, 1) := by decide +kernel
theorem dc_M_word_15 : decode cd_M_word 15 = .ok (.iconst 1, 1) := by decide +kernel
theorem dc_M_word_16 : decode cd_M_word 16 = .ok (.invokevirtual 124, 3) := by decide +kernel
theorem dc_M_word_19 : decode cd_M_word 19 = .ok (.ireturn, 1) := by decide +kernel
theorem dc_M_word_20 : decode cd_M_word 20 = .ok (.iload_n 2, 1) := by decide +kernel
theorem dc_M_word_21 : decode cd_M_word 21 = .ok (.bipush 8, 2) := by decide +kernel
theorem dc_M_word_23 : decode cd_M_word 23 = .ok (.invokestatic 120, 3) := by decide +kernel
theorem dc_M_word_26 : decode cd_M_word 26 = .ok (.ifCond .eq 11, 3) := by decide +kernel
theorem dc_M_word_29 : decode cd_M_word 29 = .ok (.aload_n 0, 1) := by decide +kernel
theorem dc_M_word_30 : decode cd_M_word 30 = .ok (.iconst 2, 1) := by decide +kernel
theorem dc_M_word_31 : decode cd_M_word 31 = .ok (.invokevirtual 124, 3) := by decide +kernel
theorem dc_M_word_34 : decode cd_M_word 34 = .ok (.goto 14, 3) := by decide +kernel
theorem dc_M_word_37 : decode cd_M_word 37 = .ok (.aload_n 0, 1) := by decide +kernel
theorem dc_M_word_38 : decode cd_M_word 38 = .ok (.getfield 47, 3) := by decide +kernel
theorem dc_M_word_41 : decode cd_M_word 41 = .ok (.bipush 8, 2) := by decide +kernel
theorem dc_M_word_43 : decode cd_M_word 43 = .ok (.iload_n 1, 1) := by decide +kernel
theorem dc_M_word_44 : decode cd_M_word 44 = .ok (.imul, 1) := by decide +kernel
theorem dc_M_word_45 : decode cd_M_word 45 = .ok (.iload_n 2, 1) := by decide +kernel
theorem dc_M_word_46 : decode cd_M_word 46 = .ok (.iadd, 1) := by decide +kernel
theorem dc_M_word_47 : decode cd_M_word 47 = .ok (.iaload, 1) := by decide +kernel
theorem dc_M_word_48 : decode cd_M_word 48 = .ok (.ireturn, 1) := by decide +kernel
theorem dc_M_count_0 : decode cd_M_count 0 = .ok (.aload_n 0, 1) := by decide +kernel
theorem dc_M_count_1 : decode cd_M_count 1 = .ok (.iconst 0, 1) := by decide +kernel
theorem dc_M_count_2 : decode cd_M_count 2 = .ok (.putfield 117, 3) := by decide +kernel
theorem dc_M_count_5 : decode cd_M_count 5 = .ok (.aload_n 0, 1) := by decide +kernel
theorem dc_M_count_6 : decode cd_M_count 6 = .ok (.invokevirtual 221, 3) := by decide +kernel
theorem dc_M_count_9 : decode cd_M_count 9 = .ok (.iconst 0, 1) := by decide +kernel
theorem dc_M_count_10 : decode cd_M_count 10 = .ok (.istore_n 2, 1) := by decide +kernel
theorem dc_M_count_11 : decode cd_M_count 11 = .ok (.iload_n 1, 1) := by decide +kernel
theorem dc_M_count_12 : decode cd_M_count 12 = .ok (.tableswitch 153 0 7 #[48, 53, 82, 87, 92, 97, 102, 107], 48) := by decide +kernel
theorem dc_M_count_60 : decode cd_M_count 60 = .ok (.aload_n 0, 1) := by decide +kernel
theorem dc_M_count_61 : decode cd_M_count 61 = .ok (.invokevirtual 128, 3) := by decide +kernel
theorem dc_M_count_64 : decode cd_M_count 64 = .ok (.ireturn, 1) := by decide +kernel
theorem dc_M_count_65 : decode cd_M_count 65 = .ok (.iconst 0, 1) := by decide +kernel
theorem dc_M_count_66 : decode cd_M_count 66 = .ok (.istore_n 3, 1) := by decide +kernel
theorem dc_M_count_67 : decode cd_M_count 67 = .ok (.iload_n 3, 1) := by decide +kernel
theorem dc_M_count_68 : decode cd_M_count 68 = .ok (.bipush 12, 2) := by decide +kernel
theorem dc_M_count_70 : decode cd_M_count 70 = .ok (.if_icmp .ge 22, 3) := by decide +kernel
theorem dc_M_count_73 : decode cd_M_count 73 = .ok (.aload_n 0, 1) := by decide +kernel
theorem dc_M_count_74 : decode cd_M_count 74 = .ok (.getfield 62, 3) := by decide +kernel
theorem dc_M_count_77 : decode cd_M_count 77 = .ok (.iload_n 3, 1) := by decide +kernel
theorem dc_M_count_78 : decode cd_M_count 78 = .ok (.iaload, 1) := by decide +kernel
theorem dc_M_count_79 : decode cd_M_count 79 = .ok (.iload_n 3, 1) := by decide +kernel
theorem dc_M_count_80 : decode cd_M_count 80 = .ok (.if_icmp .ne 6, 3) := by decide +kernel
theorem dc_M_count_83 : decode cd_M_count 83 = .ok (.iinc 2 1, 3) := by decide +kernel
theorem dc_M_count_86 : decode cd_M_count 86 = .ok (.iinc 3 1, 3) := by decide +kernel
theorem dc_M_count_89 : decode cd_M_count 89 = .ok (.goto (-22), 3) := by decide +kernel
theorem dc_M_count_92 : decode cd_M_count 92 = .ok (.iload_n 2, 1) := by decide +kernel
theorem dc_M_count_93 : decode cd_M_count 93 = .ok (.ireturn, 1) := by decide +kernel
theorem dc_M_count_94 : decode cd_M_count 94 = .ok (.aload_n 0, 1) := by decide +kernel
theorem dc_M_count_95 : decode cd_M_count 95 = .ok (.getfield 136, 3) := by decide +kernel
theorem dc_M_count_98 : decode cd_M_count 98 = .ok (.ireturn, 1) := by decide +kernel
theorem dc_M_count_99 : decode cd_M_count 99 = .ok (.aload_n 0, 1) := by decide +kernel
theorem dc_M_count_100 : decode cd_M_count 100 = .ok (.getfield 174, 3) := by decide +kernel
theorem dc_M_count_103 : decode cd_M_count 103 = .ok (.ireturn, 1) := by decide +kernel
theorem dc_M_count_104 : decode cd_M_count 104 = .ok (.aload_n 0, 1) := by decide +kernel
theorem dc_M_count_105 : decode cd_M_count 105 = .ok (.getfield 150, 3) := by decide +kernel
theorem dc_M_count_108 : decode cd_M_count 108 = .ok (.ireturn, 1) := by decide +kernel
theorem dc_M_count_109 : decode cd_M_count 109 = .ok (.aload_n 0, 1) := by decide +kernel
theorem dc_M_count_110 : decode cd_M_count 110 = .ok (.getfield 206, 3) := by decide +kernel
theorem dc_M_count_113 : decode cd_M_count 113 = .ok (.ireturn, 1) := by decide +kernel
theorem dc_M_count_114 : decode cd_M_count 114 = .ok (.aload_n 0, 1) := by decide +kernel
theorem dc_M_count_115 : decode cd_M_count 115 = .ok (.getfield 198, 3) := by decide +kernel
theorem dc_M_count_118 : decode cd_M_count 118 = .ok (.ireturn, 1) := by decide +kernel
theorem dc_M_count_119 : decode cd_M_count 119 = .ok (.iconst 0, 1) := by decide +kernel
theorem dc_M_count_120 : decode cd_M_count 120 = .ok (.istore_n 3, 1) := by decide +kernel
theorem dc_M_count_121 : decode cd_M_count 121 = .ok (.iload_n 3, 1) := by decide +kernel
theorem dc_M_count_122 : decode cd_M_count 122 = .ok (.bipush 12, 2) := by decide +kernel
theorem dc_M_count_124 : decode cd_M_count 124 = .ok (.if_icmp .ge 39, 3) := by decide +kernel
theorem dc_M_count_127 : decode cd_M_count 127 = .ok (.aload_n 0, 1) := by decide +kernel
theorem dc_M_count_128 : decode cd_M_count 128 = .ok (.getfield 62, 3) := by decide +kernel
theorem dc_M_count_131 : decode cd_M_count 131 = .ok (.iload_n 3, 1) := by decide +kernel
theorem dc_M_count_132 : decode cd_M_count 132 = .ok (.iaload, 1) := by decide +kernel
theorem dc_M_count_133 : decode cd_M_count 133 = .ok (.iload_n 3, 1) := by decide +kernel
theorem dc_M_count_134 : decode cd_M_count 134 = .ok (.if_icmp .ne 23, 3) := by decide +kernel
theorem dc_M_count_137 : decode cd_M_count 137 = .ok (.aload_n 0, 1) := by decide +kernel
theorem dc_M_count_138 : decode cd_M_count 138 = .ok (.getfield 44, 3) := by decide +kernel
theorem dc_M_count_141 : decode cd_M_count 141 = .ok (.iload_n 3, 1) := by decide +kernel
theorem dc_M_count_142 : decode cd_M_count 142 = .ok (.baload, 1) := by decide +kernel
theorem dc_M_count_143 : decode cd_M_count 143 = .ok (.ifCond .eq 14, 3) := by decide +kernel
theorem dc_M_count_146 : decode cd_M_count 146 = .ok (.aload_n 0, 1) := by decide +kernel
theorem dc_M_count_147 : decode cd_M_count 147 = .ok (.iload_n 3, 1) := by decide +kernel
theorem dc_M_count_148 : decode cd_M_count 148 = .ok (.invokevirtual 209, 3) := by decide +kernel
theorem dc_M_count_151 : decode cd_M_count 151 = .ok (.ifCond .ne 6, 3) := by decide +kernel
theorem dc_M_count_154 : decode cd_M_count 154 = .ok (.iinc 2 1, 3) := by decide +kernel
theorem dc_M_count_157 : decode cd_M_count 157 = .ok (.iinc 3 1, 3) := by decide +kernel
theorem dc_M_count_160 : decode cd_M_count 160 = .ok (.goto (-39), 3) := by decide +kernel
theorem dc_M_count_163 : decode cd_M_count 163 = .ok (.iload_n 2, 1) := by decide +kernel
theorem dc_M_count_164 : decode cd_M_count 164 = .ok (.ireturn, 1) := by decide +kernel
theorem dc_M_count_165 : decode cd_M_count 165 = .ok (.iconst (-1), 1) := by decide +kernel
theorem dc_M_count_166 : decode cd_M_count 166 = .ok (.ireturn, 1) := by decide +kernel
end
section
theorem dc_L_plug_0 : decode cd_L_plug 0 = .ok (.aload 5, 2) := by decide +kernel
theorem dc_L_plug_2 : decode cd_L_plug 2 = .ok (.iconst 0, 1) := by decide +kernel
theorem dc_L_plug_3 : decode cd_L_plug 3 = .ok (.aload_n 0, 1) := by decide +kernel
theorem dc_L_plug_4 : decode cd_L_plug 4 = .ok (.iload_n 1, 1) := by decide +kernel
theorem dc_L_plug_5 : decode cd_L_plug 5 = .ok (.iload_n 2, 1) := by decide +kernel
theorem dc_L_plug_6 : decode cd_L_plug 6 = .ok (.iload_n 3, 1) := by decide +kernel
theorem dc_L_plug_7 : decode cd_L_plug 7 = .ok (.iload 4, 2) := by decide +kernel
theorem dc_L_plug_9 : decode cd_L_plug 9 = .ok (.invokevirtual 7, 3) := by decide +kernel
theorem dc_L_plug_12 : decode cd_L_plug 12 = .ok (.i2l, 1) := by decide +kernel
theorem dc_L_plug_13 : decode cd_L_plug 13 = .ok (.lastore, 1) := by decide +kernel
theorem dc_L_plug_14 : decode cd_L_plug 14 = .ok (.goto 15, 3) := by decide +kernel
theorem dc_L_plug_17 : decode cd_L_plug 17 = .ok (.astore 6, 2) := by decide +kernel
theorem dc_L_plug_19 : decode cd_L_plug 19 = .ok (.iconst 1, 1) := by decide +kernel
theorem dc_L_plug_20 : decode cd_L_plug 20 = .ok (.ireturn, 1) := by decide +kernel
theorem dc_L_plug_21 : decode cd_L_plug 21 = .ok (.astore 6, 2) := by decide +kernel
theorem dc_L_plug_23 : decode cd_L_plug 23 = .ok (.iconst 2, 1) := by decide +kernel
theorem dc_L_plug_24 : decode cd_L_plug 24 = .ok (.ireturn, 1) := by decide +kernel
theorem dc_L_plug_25 : decode cd_L_plug 25 = .ok (.astore 6, 2) := by decide +kernel
theorem dc_L_plug_27 : decode cd_L_plug 27 = .ok (.iconst 3, 1) := by decide +kernel
theorem dc_L_plug_28 : decode cd_L_plug 28 = .ok (.ireturn, 1) := by decide +kernel
theorem dc_L_plug_29 : decode cd_L_plug 29 = .ok (.iconst 0, 1) := by decide +kernel
theorem dc_L_plug_30 : decode cd_L_plug 30 = .ok (.ireturn, 1) := by decide +kernel
theorem dc_L_unplug_0 : decode cd_L_unplug 0 = .ok (.aload_n 3, 1) := by decide +kernel
theorem dc_L_unplug_1 : decode cd_L_unplug 1 = .ok (.iconst 0, 1) := by decide +kernel
theorem dc_L_unplug_2 : decode cd_L_unplug 2 = .ok (.aload_n 0, 1) := by decide +kernel
theorem dc_L_unplug_3 : decode cd_L_unplug 3 = .ok (.iload_n 1, 1) := by decide +kernel
theorem dc_L_unplug_4 : decode cd_L_unplug 4 = .ok (.iload_n 2, 1) := by decide +kernel
theorem dc_L_unplug_5 : decode cd_L_unplug 5 = .ok (.invokevirtual 19, 3) := by decide +kernel
theorem dc_L_unplug_8 : decode cd_L_unplug 8 = .ok (.i2l, 1) := by decide +kernel
theorem dc_L_unplug_9 : decode cd_L_unplug 9 = .ok (.lastore, 1) := by decide +kernel
theorem dc_L_unplug_10 : decode cd_L_unplug 10 = .ok (.goto 15, 3) := by decide +kernel
theorem dc_L_unplug_13 : decode cd_L_unplug 13 = .ok (.astore 4, 2) := by decide +kernel
theorem dc_L_unplug_15 : decode cd_L_unplug 15 = .ok (.iconst 1, 1) := by decide +kernel
theorem dc_L_unplug_16 : decode cd_L_unplug 16 = .ok (.ireturn, 1) := by decide +kernel
theorem dc_L_unplug_17 : decode cd_L_unplug 17 = .ok (.astore 4, 2) := by decide +kernel
theorem dc_L_unplug_19 : decode cd_L_unplug 19 = .ok (.iconst 2, 1) := by decide +kernel
theorem dc_L_unplug_20 : decode cd_L_unplug 20 = .ok (.ireturn, 1) := by decide +kernel
theorem dc_L_unplug_21 : decode cd_L_unplug 21 = .ok (.astore 4, 2) := by decide +kernel
theorem dc_L_unplug_23 : decode cd_L_unplug 23 = .ok (.iconst 3, 1) := by decide +kernel
theorem dc_L_unplug_24 : decode cd_L_unplug 24 = .ok (.ireturn, 1) := by decide +kernel
theorem dc_L_unplug_25 : decode cd_L_unplug 25 = .ok (.iconst 0, 1) := by decide +kernel
theorem dc_L_unplug_26 : decode cd_L_unplug 26 = .ok (.ireturn, 1) := by decide +kernel
theorem dc_L_reset_0 : decode cd_L_reset 0 = .ok (.aload_n 0, 1) := by decide +kernel
theorem dc_L_reset_1 : decode cd_L_reset 1 = .ok (.iload_n 1, 1) := by decide +kernel
theorem dc_L_reset_2 : decode cd_L_reset 2 = .ok (.iload_n 2, 1) := by decide +kernel
theorem dc_L_reset_3 : decode cd_L_reset 3 = .ok (.iload_n 3, 1) := by decide +kernel
theorem dc_L_reset_4 : decode cd_L_reset 4 = .ok (.iload 4, 2) := by decide +kernel
theorem dc_L_reset_6 : decode cd_L_reset 6 = .ok (.invokevirtual 23, 3) := by decide +kernel
theorem dc_L_reset_9 : decode cd_L_reset 9 = .ok (.goto 7, 3) := by decide +kernel
theorem dc_L_reset_12 : decode cd_L_reset 12 = .ok (.astore 5, 2) := by decide +kernel
theorem dc_L_reset_14 : decode cd_L_reset 14 = .ok (.iconst 1, 1) := by decide +kernel
theorem dc_L_reset_15 : decode cd_L_reset 15 = .ok (.ireturn, 1) := by decide +kernel
theorem dc_L_reset_16 : decode cd_L_reset 16 = .ok (.iconst 0, 1) := by decide +kernel
theorem dc_L_reset_17 : decode cd_L_reset 17 = .ok (.ireturn, 1) := by decide +kernel
theorem dc_L_ask_0 : decode cd_L_ask 0 = .ok (.aload 7, 2) := by decide +kernel
theorem dc_L_ask_2 : decode cd_L_ask 2 = .ok (.iconst 0, 1) := by decide +kernel
theorem dc_L_ask_3 : decode cd_L_ask 3 = .ok (.aload_n 0, 1) := by decide +kernel
theorem dc_L_ask_4 : decode cd_L_ask 4 = .ok (.iload_n 1, 1) := by decide +kernel
theorem dc_L_ask_5 : decode cd_L_ask 5 = .ok (.iload_n 2, 1) := by decide +kernel
theorem dc_L_ask_6 : decode cd_L_ask 6 = .ok (.iload_n 3, 1) := by decide +kernel
theorem dc_L_ask_7 : decode cd_L_ask 7 = .ok (.iload 4, 2) := by decide +kernel
theorem dc_L_ask_9 : decode cd_L_ask 9 = .ok (.iload 5, 2) := by decide +kernel
theorem dc_L_ask_11 : decode cd_L_ask 11 = .ok (.iload 6, 2) := by decide +kernel
theorem dc_L_ask_13 : decode cd_L_ask 13 = .ok (.invokevirtual 27, 3) := by decide +kernel
theorem dc_L_ask_16 : decode cd_L_ask 16 = .ok (.i2l, 1) := by decide +kernel
theorem dc_L_ask_17 : decode cd_L_ask 17 = .ok (.lastore, 1) := by decide +kernel
theorem dc_L_ask_18 : decode cd_L_ask 18 = .ok (.goto 19, 3) := by decide +kernel
theorem dc_L_ask_21 : decode cd_L_ask 21 = .ok (.astore 8, 2) := by decide +kernel
theorem dc_L_ask_23 : decode cd_L_ask 23 = .ok (.iconst 1, 1) := by decide +kernel
theorem dc_L_ask_24 : decode cd_L_ask 24 = .ok (.ireturn, 1) := by decide +kernel
theorem dc_L_ask_25 : decode cd_L_ask 25 = .ok (.astore 8, 2) := by decide +kernel
theorem dc_L_ask_27 : decode cd_L_ask 27 = .ok (.iconst 2, 1) := by decide +kernel
theorem dc_L_ask_28 : decode cd_L_ask 28 = .ok (.ireturn, 1) := by decide +kernel
theorem dc_L_ask_29 : decode cd_L_ask 29 = .ok (.astore 8, 2) := by decide +kernel
theorem dc_L_ask_31 : decode cd_L_ask 31 = .ok (.iconst 3, 1) := by decide +kernel
theorem dc_L_ask_32 : decode cd_L_ask 32 = .ok (.ireturn, 1) := by decide +kernel
theorem dc_L_ask_33 : decode cd_L_ask 33 = .ok (.astore 8, 2) := by decide +kernel
theorem dc_L_ask_35 : decode cd_L_ask 35 = .ok (.iconst 4, 1) := by decide +kernel
theorem dc_L_ask_36 : decode cd_L_ask 36 = .ok (.ireturn, 1) := by decide +kernel
theorem dc_L_ask_37 : decode cd_L_ask 37 = .ok (.iconst 0, 1) := by decide +kernel
theorem dc_L_ask_38 : decode cd_L_ask 38 = .ok (.ireturn, 1) := by decide +kernel
theorem dc_L_talk_0 : decode cd_L_talk 0 = .ok (.aload_n 0, 1) := by decide +kernel
theorem dc_L_talk_1 : decode cd_L_talk 1 = .ok (.iload_n 1, 1) := by decide +kernel
theorem dc_L_talk_2 : decode cd_L_talk 2 = .ok (.iload_n 2, 1) := by decide +kernel
theorem dc_L_talk_3 : decode cd_L_talk 3 = .ok (.iload_n 3, 1) := by decide +kernel
theorem dc_L_talk_4 : decode cd_L_talk 4 = .ok (.invokevirtual 33, 3) := by decide +kernel
theorem dc_L_talk_7 : decode cd_L_talk 7 = .ok (.goto 11, 3) := by decide +kernel
theorem dc_L_talk_10 : decode cd_L_talk 10 = .ok (.astore 4, 2) := by decide +kernel
theorem dc_L_talk_12 : decode cd_L_talk 12 = .ok (.iconst 1, 1) := by decide +kernel
theorem dc_L_talk_13 : decode cd_L_talk 13 = .ok (.ireturn, 1) := by decide +kernel
theorem dc_L_talk_14 : decode cd_L_talk 14 = .ok (.astore 4, 2) := by decide +kernel
theorem dc_L_talk_16 : decode cd_L_talk 16 = .ok (.iconst 2, 1) := by decide +kernel
theorem dc_L_talk_17 : decode cd_L_talk 17 = .ok (.ireturn, 1) := by decide +kernel
theorem dc_L_talk_18 : decode cd_L_talk 18 = .ok (.iconst 0, 1) := by decide +kernel
theorem dc_L_talk_19 : decode cd_L_talk 19 = .ok (.ireturn, 1) := by decide +kernel
theorem dc_L_time_0 : decode cd_L_time 0 = .ok (.aload_n 0, 1) := by decide +kernel
theorem dc_L_time_1 : decode cd_L_time 1 = .ok (.iload_n 1, 1) := by decide +kernel
theorem dc_L_time_2 : decode cd_L_time 2 = .ok (.invokevirtual 37, 3) := by decide +kernel
theorem dc_L_time_5 : decode cd_L_time 5 = .ok (.goto 6, 3) := by decide +kernel
theorem dc_L_time_8 : decode cd_L_time 8 = .ok (.astore_n 2, 1) := by decide +kernel
theorem dc_L_time_9 : decode cd_L_time 9 = .ok (.iconst 1, 1) := by decide +kernel
theorem dc_L_time_10 : decode cd_L_time 10 = .ok (.ireturn, 1) := by decide +kernel
theorem dc_L_time_11 : decode cd_L_time 11 = .ok (.iconst 0, 1) := by decide +kernel
theorem dc_L_time_12 : decode cd_L_time 12 = .ok (.ireturn, 1) := by decide +kernel
theorem dc_L_tick_0 : decode cd_L_tick 0 = .ok (.aload_n 2, 1) := by decide +kernel
theorem dc_L_tick_1 : decode cd_L_tick 1 = .ok (.iconst 0, 1) := by decide +kernel
theorem dc_L_tick_2 : decode cd_L_tick 2 = .ok (.aload_n 0, 1) := by decide +kernel
theorem dc_L_tick_3 : decode cd_L_tick 3 = .ok (.iload_n 1, 1) := by decide +kernel
theorem dc_L_tick_4 : decode cd_L_tick 4 = .ok (.invokevirtual 41, 3) := by decide +kernel
theorem dc_L_tick_7 : decode cd_L_tick 7 = .ok (.i2l, 1) := by decide +kernel
theorem dc_L_tick_8 : decode cd_L_tick 8 = .ok (.lastore, 1) := by decide +kernel
theorem dc_L_tick_9 : decode cd_L_tick 9 = .ok (.goto 6, 3) := by decide +kernel
theorem dc_L_tick_12 : decode cd_L_tick 12 = .ok (.astore_n 3, 1) := by decide +kernel
theorem dc_L_tick_13 : decode cd_L_tick 13 = .ok (.iconst 1, 1) := by decide +kernel
theorem dc_L_tick_14 : decode cd_L_tick 14 = .ok (.ireturn, 1) := by decide +kernel
theorem dc_L_tick_15 : decode cd_L_tick 15 = .ok (.iconst 0, 1) := by decide +kernel
theorem dc_L_tick_16 : decode cd_L_tick 16 = .ok (.ireturn, 1) := by decide +kernel
theorem dc_L_ended_0 : decode cd_L_ended 0 = .ok (.aload_n 3, 1) := by decide +kernel
theorem dc_L_ended_1 : decode cd_L_ended 1 = .ok (.iconst 0, 1) := by decide +kernel
theorem dc_L_ended_2 : decode cd_L_ended 2 = .ok (.aload_n 0, 1) := by decide +kernel
theorem dc_L_ended_3 : decode cd_L_ended 3 = .ok (.iload_n 1, 1) := by decide +kernel
theorem dc_L_ended_4 : decode cd_L_ended 4 = .ok (.iload_n 2, 1) := by decide +kernel
theorem dc_L_ended_5 : decode cd_L_ended 5 = .ok (.invokevirtual 45, 3) := by decide +kernel
theorem dc_L_ended_8 : decode cd_L_ended 8 = .ok (.i2l, 1) := by decide +kernel
theorem dc_L_ended_9 : decode cd_L_ended 9 = .ok (.lastore, 1) := by decide +kernel
theorem dc_L_ended_10 : decode cd_L_ended 10 = .ok (.goto 15, 3) := by decide +kernel
theorem dc_L_ended_13 : decode cd_L_ended 13 = .ok (.astore 4, 2) := by decide +kernel
theorem dc_L_ended_15 : decode cd_L_ended 15 = .ok (.iconst 1, 1) := by decide +kernel
theorem dc_L_ended_16 : decode cd_L_ended 16 = .ok (.ireturn, 1) := by decide +kernel
theorem dc_L_ended_17 : decode cd_L_ended 17 = .ok (.astore 4, 2) := by decide +kernel
theorem dc_L_ended_19 : decode cd_L_ended 19 = .ok (.iconst 2, 1) := by decide +kernel
theorem dc_L_ended_20 : decode cd_L_ended 20 = .ok (.ireturn, 1) := by decide +kernel
theorem dc_L_ended_21 : decode cd_L_ended 21 = .ok (.astore 4, 2) := by decide +kernel
theorem dc_L_ended_23 : decode cd_L_ended 23 = .ok (.iconst 3, 1) := by decide +kernel
theorem dc_L_ended_24 : decode cd_L_ended 24 = .ok (.ireturn, 1) := by decide +kernel
theorem dc_L_ended_25 : decode cd_L_ended 25 = .ok (.iconst 0, 1) := by decide +kernel
theorem dc_L_ended_26 : decode cd_L_ended 26 = .ok (.ireturn, 1) := by decide +kernel
theorem dc_L_value_0 : decode cd_L_value 0 = .ok (.aload_n 3, 1) := by decide +kernel
theorem dc_L_value_1 : decode cd_L_value 1 = .ok (.iconst 0, 1) := by decide +kernel
theorem dc_L_value_2 : decode cd_L_value 2 = .ok (.aload_n 0, 1) := by decide +kernel
theorem dc_L_value_3 : decode cd_L_value 3 = .ok (.iload_n 1, 1) := by decide +kernel
theorem dc_L_value_4 : decode cd_L_value 4 = .ok (.iload_n 2, 1) := by decide +kernel
theorem dc_L_value_5 : decode cd_L_value 5 = .ok (.invokevirtual 48, 3) := by decide +kernel
theorem dc_L_value_8 : decode cd_L_value 8 = .ok (.i2l, 1) := by decide +kernel
theorem dc_L_value_9 : decode cd_L_value 9 = .ok (.lastore, 1) := by decide +kernel
theorem dc_L_value_10 : decode cd_L_value 10 = .ok (.goto 19, 3) := by decide +kernel
theorem dc_L_value_13 : decode cd_L_value 13 = .ok (.astore 4, 2) := by decide +kernel
theorem dc_L_value_15 : decode cd_L_value 15 = .ok (.iconst 1, 1) := by decide +kernel
theorem dc_L_value_16 : decode cd_L_value 16 = .ok (.ireturn, 1) := by decide +kernel
theorem dc_L_value_17 : decode cd_L_value 17 = .ok (.astore 4, 2) := by decide +kernel
theorem dc_L_value_19 : decode cd_L_value 19 = .ok (.iconst 2, 1) := by decide +kernel
theorem dc_L_value_20 : decode cd_L_value 20 = .ok (.ireturn, 1) := by decide +kernel
theorem dc_L_value_21 : decode cd_L_value 21 = .ok (.astore 4, 2) := by decide +kernel
theorem dc_L_value_23 : decode cd_L_value 23 = .ok (.iconst 3, 1) := by decide +kernel
theorem dc_L_value_24 : decode cd_L_value 24 = .ok (.ireturn, 1) := by decide +kernel
theorem dc_L_value_25 : decode cd_L_value 25 = .ok (.astore 4, 2) := by decide +kernel
theorem dc_L_value_27 : decode cd_L_value 27 = .ok (.iconst 4, 1) := by decide +kernel
theorem dc_L_value_28 : decode cd_L_value 28 = .ok (.ireturn, 1) := by decide +kernel
theorem dc_L_value_29 : decode cd_L_value 29 = .ok (.iconst 0, 1) := by decide +kernel
theorem dc_L_value_30 : decode cd_L_value 30 = .ok (.ireturn, 1) := by decide +kernel
theorem dc_L_about_0 : decode cd_L_about 0 = .ok (.aload_n 3, 1) := by decide +kernel
theorem dc_L_about_1 : decode cd_L_about 1 = .ok (.iconst 0, 1) := by decide +kernel
theorem dc_L_about_2 : decode cd_L_about 2 = .ok (.aload_n 0, 1) := by decide +kernel
theorem dc_L_about_3 : decode cd_L_about 3 = .ok (.iload_n 1, 1) := by decide +kernel
theorem dc_L_about_4 : decode cd_L_about 4 = .ok (.iload_n 2, 1) := by decide +kernel
theorem dc_L_about_5 : decode cd_L_about 5 = .ok (.invokevirtual 51, 3) := by decide +kernel
theorem dc_L_about_8 : decode cd_L_about 8 = .ok (.i2l, 1) := by decide +kernel
theorem dc_L_about_9 : decode cd_L_about 9 = .ok (.lastore, 1) := by decide +kernel
theorem dc_L_about_10 : decode cd_L_about 10 = .ok (.goto 11, 3) := by decide +kernel
theorem dc_L_about_13 : decode cd_L_about 13 = .ok (.astore 4, 2) := by decide +kernel
theorem dc_L_about_15 : decode cd_L_about 15 = .ok (.iconst 1, 1) := by decide +kernel
theorem dc_L_about_16 : decode cd_L_about 16 = .ok (.ireturn, 1) := by decide +kernel
theorem dc_L_about_17 : decode cd_L_about 17 = .ok (.astore 4, 2) := by decide +kernel
theorem dc_L_about_19 : decode cd_L_about 19 = .ok (.iconst 2, 1) := by decide +kernel
theorem dc_L_about_20 : decode cd_L_about 20 = .ok (.ireturn, 1) := by decide +kernel
theorem dc_L_about_21 : decode cd_L_about 21 = .ok (.iconst 0, 1) := by decide +kernel
theorem dc_L_about_22 : decode cd_L_about 22 = .ok (.ireturn, 1) := by decide +kernel
theorem dc_L_word_0 : decode cd_L_word 0 = .ok (.aload_n 3, 1) := by decide +kernel
theorem dc_L_word_1 : decode cd_L_word 1 = .ok (.iconst 0, 1) := by decide +kernel
theorem dc_L_word_2 : decode cd_L_word 2 = .ok (.aload_n 0, 1) := by decide +kernel
theorem dc_L_word_3 : decode cd_L_word 3 = .ok (.iload_n 1, 1) := by decide +kernel
theorem dc_L_word_4 : decode cd_L_word 4 = .ok (.iload_n 2, 1) := by decide +kernel
theorem dc_L_word_5 : decode cd_L_word 5 = .ok (.invokevirtual 54, 3) := by decide +kernel
theorem dc_L_word_8 : decode cd_L_word 8 = .ok (.i2l, 1) := by decide +kernel
theorem dc_L_word_9 : decode cd_L_word 9 = .ok (.lastore, 1) := by decide +kernel
theorem dc_L_word_10 : decode cd_L_word 10 = .ok (.goto 11, 3) := by decide +kernel
theorem dc_L_word_13 : decode cd_L_word 13 = .ok (.astore 4, 2) := by decide +kernel
theorem dc_L_word_15 : decode cd_L_word 15 = .ok (.iconst 1, 1) := by decide +kernel
theorem dc_L_word_16 : decode cd_L_word 16 = .ok (.ireturn, 1) := by decide +kernel
theorem dc_L_word_17 : decode cd_L_word 17 = .ok (.astore 4, 2) := by decide +kernel
theorem dc_L_word_19 : decode cd_L_word 19 = .ok (.iconst 2, 1) := by decide +kernel
theorem dc_L_word_20 : decode cd_L_word 20 = .ok (.ireturn, 1) := by decide +kernel
theorem dc_L_word_21 : decode cd_L_word 21 = .ok (.iconst 0, 1) := by decide +kernel
theorem dc_L_word_22 : decode cd_L_word 22 = .ok (.ireturn, 1) := by decide +kernel
theorem dc_L_law_0 : decode cd_L_law 0 = .ok (.new 8, 3) := by decide +kernel
theorem dc_L_law_3 : decode cd_L_law 3 = .ok (.dup, 1) := by decide +kernel
theorem dc_L_law_4 : decode cd_L_law 4 = .ok (.invokespecial 57, 3) := by decide +kernel
theorem dc_L_law_7 : decode cd_L_law 7 = .ok (.astore_n 1, 1) := by decide +kernel
theorem dc_L_law_8 : decode cd_L_law 8 = .ok (.new 58, 3) := by decide +kernel
theorem dc_L_law_11 : decode cd_L_law 11 = .ok (.dup, 1) := by decide +kernel
theorem dc_L_law_12 : decode cd_L_law 12 = .ok (.invokespecial 60, 3) := by decide +kernel
theorem dc_L_law_15 : decode cd_L_law 15 = .ok (.astore_n 2, 1) := by decide +kernel
theorem dc_L_law_16 : decode cd_L_law 16 = .ok (.iconst 1, 1) := by decide +kernel
theorem dc_L_law_17 : decode cd_L_law 17 = .ok (.newarray .long, 2) := by decide +kernel
theorem dc_L_law_19 : decode cd_L_law 19 = .ok (.astore_n 3, 1) := by decide +kernel
theorem dc_L_law_20 : decode cd_L_law 20 = .ok (.iconst 0, 1) := by decide +kernel
theorem dc_L_law_21 : decode cd_L_law 21 = .ok (.istore 4, 2) := by decide +kernel
theorem dc_L_law_23 : decode cd_L_law 23 = .ok (.iload 4, 2) := by decide +kernel
theorem dc_L_law_25 : decode cd_L_law 25 = .ok (.aload_n 0, 1) := by decide +kernel
theorem dc_L_law_26 : decode cd_L_law 26 = .ok (.arraylength, 1) := by decide +kernel
theorem dc_L_law_27 : decode cd_L_law 27 = .ok (.bipush 7, 2) := by decide +kernel
theorem dc_L_law_29 : decode cd_L_law 29 = .ok (.isub, 1) := by decide +kernel
theorem dc_L_law_30 : decode cd_L_law 30 = .ok (.if_icmp .gt 911, 3) := by decide +kernel
theorem dc_L_law_33 : decode cd_L_law 33 = .ok (.aload_n 0, 1) := by decide +kernel
theorem dc_L_law_34 : decode cd_L_law 34 = .ok (.iload 4, 2) := by decide +kernel
theorem dc_L_law_36 : decode cd_L_law 36 = .ok (.iaload, 1) := by decide +kernel
theorem dc_L_law_37 : decode cd_L_law 37 = .ok (.bipush 15, 2) := by decide +kernel
theorem dc_L_law_39 : decode cd_L_law 39 = .ok (.iand, 1) := by decide +kernel
theorem dc_L_law_40 : decode cd_L_law 40 = .ok (.tableswitch 895 0 11 #[64, 156, 224, 328, 446, 506, 542, 598, 666, 734, 802, 870], 64) := by decide +kernel
theorem dc_L_law_104 : decode cd_L_law 104 = .ok (.aload_n 1, 1) := by decide +kernel
theorem dc_L_law_105 : decode cd_L_law 105 = .ok (.aload_n 0, 1) := by decide +kernel
theorem dc_L_law_106 : decode cd_L_law 106 = .ok (.iload 4, 2) := by decide +kernel
theorem dc_L_law_108 : decode cd_L_law 108 = .ok (.iconst 1, 1) := by decide +kernel
theorem dc_L_law_109 : decode cd_L_law 109 = .ok (.iadd, 1) := by decide +kernel
theorem dc_L_law_110 : decode cd_L_law 110 = .ok (.iaload, 1) := by decide +kernel
theorem dc_L_law_111 : decode cd_L_law 111 = .ok (.aload_n 0, 1) := by decide +kernel
theorem dc_L_law_112 : decode cd_L_law 112 = .ok (.iload 4, 2) := by decide +kernel
theorem dc_L_law_114 : decode cd_L_law 114 = .ok (.iconst 2, 1) := by decide +kernel
theorem dc_L_law_115 : decode cd_L_law 115 = .ok (.iadd, 1) := by decide +kernel
theorem dc_L_law_116 : decode cd_L_law 116 = .ok (.iaload, 1) := by decide +kernel
theorem dc_L_law_117 : decode cd_L_law 117 = .ok (.aload_n 0, 1) := by decide +kernel
theorem dc_L_law_118 : decode cd_L_law 118 = .ok (.iload 4, 2) := by decide +kernel
theorem dc_L_law_120 : decode cd_L_law 120 = .ok (.iconst 3, 1) := by decide +kernel
theorem dc_L_law_121 : decode cd_L_law 121 = .ok (.iadd, 1) := by decide +kernel
theorem dc_L_law_122 : decode cd_L_law 122 = .ok (.iaload, 1) := by decide +kernel
theorem dc_L_law_123 : decode cd_L_law 123 = .ok (.aload_n 0, 1) := by decide +kernel
theorem dc_L_law_124 : decode cd_L_law 124 = .ok (.iload 4, 2) := by decide +kernel
theorem dc_L_law_126 : decode cd_L_law 126 = .ok (.iconst 4, 1) := by decide +kernel
theorem dc_L_law_127 : decode cd_L_law 127 = .ok (.iadd, 1) := by decide +kernel
theorem dc_L_law_128 : decode cd_L_law 128 = .ok (.iaload, 1) := by decide +kernel
theorem dc_L_law_129 : decode cd_L_law 129 = .ok (.aload_n 3, 1) := by decide +kernel
theorem dc_L_law_130 : decode cd_L_law 130 = .ok (.invokestatic 61, 3) := by decide +kernel
theorem dc_L_law_133 : decode cd_L_law 133 = .ok (.istore 5, 2) := by decide +kernel
theorem dc_L_law_135 : decode cd_L_law 135 = .ok (.aload_n 2, 1) := by decide +kernel
theorem dc_L_law_136 : decode cd_L_law 136 = .ok (.aload_n 0, 1) := by decide +kernel
theorem dc_L_law_137 : decode cd_L_law 137 = .ok (.iload 4, 2) := by decide +kernel
theorem dc_L_law_139 : decode cd_L_law 139 = .ok (.iconst 1, 1) := by decide +kernel
theorem dc_L_law_140 : decode cd_L_law 140 = .ok (.iadd, 1) := by decide +kernel
theorem dc_L_law_141 : decode cd_L_law 141 = .ok (.iaload, 1) := by decide +kernel
theorem dc_L_law_142 : decode cd_L_law 142 = .ok (.aload_n 0, 1) := by decide +kernel
theorem dc_L_law_143 : decode cd_L_law 143 = .ok (.iload 4, 2) := by decide +kernel
theorem dc_L_law_145 : decode cd_L_law 145 = .ok (.iconst 2, 1) := by decide +kernel
theorem dc_L_law_146 : decode cd_L_law 146 = .ok (.iadd, 1) := by decide +kernel
theorem dc_L_law_147 : decode cd_L_law 147 = .ok (.iaload, 1) := by decide +kernel
theorem dc_L_law_148 : decode cd_L_law 148 = .ok (.aload_n 0, 1) := by decide +kernel
theorem dc_L_law_149 : decode cd_L_law 149 = .ok (.iload 4, 2) := by decide +kernel
theorem dc_L_law_151 : decode cd_L_law 151 = .ok (.iconst 3, 1) := by decide +kernel
theorem dc_L_law_152 : decode cd_L_law 152 = .ok (.iadd, 1) := by decide +kernel
theorem dc_L_law_153 : decode cd_L_law 153 = .ok (.iaload, 1) := by decide +kernel
theorem dc_L_law_154 : decode cd_L_law 154 = .ok (.aload_n 0, 1) := by decide +kernel
theorem dc_L_law_155 : decode cd_L_law 155 = .ok (.iload 4, 2) := by decide +kernel
theorem dc_L_law_157 : decode cd_L_law 157 = .ok (.iconst 4, 1) := by decide +kernel
theorem dc_L_law_158 : decode cd_L_law 158 = .ok (.iadd, 1) := by decide +kernel
theorem dc_L_law_159 : decode cd_L_law 159 = .ok (.iaload, 1) := by decide +kernel
theorem dc_L_law_160 : decode cd_L_law 160 = .ok (.invokevirtual 66, 3) := by decide +kernel
theorem dc_L_law_163 : decode cd_L_law 163 = .ok (.istore 6, 2) := by decide +kernel
theorem dc_L_law_165 : decode cd_L_law 165 = .ok (.aload_n 2, 1) := by decide +kernel
theorem dc_L_law_166 : decode cd_L_law 166 = .ok (.invokevirtual 67, 3) := by decide +kernel
theorem dc_L_law_169 : decode cd_L_law 169 = .ok (.iload 5, 2) := by decide +kernel
theorem dc_L_law_171 : decode cd_L_law 171 = .ok (.if_icmp .eq 5, 3) := by decide +kernel
theorem dc_L_law_174 : decode cd_L_law 174 = .ok (.iconst 0, 1) := by decide +kernel
theorem dc_L_law_175 : decode cd_L_law 175 = .ok (.ireturn, 1) := by decide +kernel
theorem dc_L_law_176 : decode cd_L_law 176 = .ok (.iload 5, 2) := by decide +kernel
theorem dc_L_law_178 : decode cd_L_law 178 = .ok (.ifCond .ne 15, 3) := by decide +kernel
theorem dc_L_law_181 : decode cd_L_law 181 = .ok (.aload_n 3, 1) := by decide +kernel
theorem dc_L_law_182 : decode cd_L_law 182 = .ok (.iconst 0, 1) := by decide +kernel
theorem dc_L_law_183 : decode cd_L_law 183 = .ok (.laload, 1) := by decide +kernel
theorem dc_L_law_184 : decode cd_L_law 184 = .ok (.iload 6, 2) := by decide +kernel
theorem dc_L_law_186 : decode cd_L_law 186 = .ok (.i2l, 1) := by decide +kernel
theorem dc_L_law_187 : decode cd_L_law 187 = .ok (.lcmp, 1) := by decide +kernel
theorem dc_L_law_188 : decode cd_L_law 188 = .ok (.ifCond .eq 5, 3) := by decide +kernel
theorem dc_L_law_191 : decode cd_L_law 191 = .ok (.iconst 0, 1) := by decide +kernel
theorem dc_L_law_192 : decode cd_L_law 192 = .ok (.ireturn, 1) := by decide +kernel
theorem dc_L_law_193 : decode cd_L_law 193 = .ok (.goto 742, 3) := by decide +kernel
theorem dc_L_law_196 : decode cd_L_law 196 = .ok (.aload_n 1, 1) := by decide +kernel
theorem dc_L_law_197 : decode cd_L_law 197 = .ok (.aload_n 0, 1) := by decide +kernel
theorem dc_L_law_198 : decode cd_L_law 198 = .ok (.iload 4, 2) := by decide +kernel
theorem dc_L_law_200 : decode cd_L_law 200 = .ok (.iconst 1, 1) := by decide +kernel
theorem dc_L_law_201 : decode cd_L_law 201 = .ok (.iadd, 1) := by decide +kernel
theorem dc_L_law_202 : decode cd_L_law 202 = .ok (.iaload, 1) := by decide +kernel
theorem dc_L_law_203 : decode cd_L_law 203 = .ok (.aload_n 0, 1) := by decide +kernel
theorem dc_L_law_204 : decode cd_L_law 204 = .ok (.iload 4, 2) := by decide +kernel
theorem dc_L_law_206 : decode cd_L_law 206 = .ok (.iconst 2, 1) := by decide +kernel
theorem dc_L_law_207 : decode cd_L_law 207 = .ok (.iadd, 1) := by decide +kernel
theorem dc_L_law_208 : decode cd_L_law 208 = .ok (.iaload, 1) := by decide +kernel
theorem dc_L_law_209 : decode cd_L_law 209 = .ok (.aload_n 3, 1) := by decide +kernel
theorem dc_L_law_210 : decode cd_L_law 210 = .ok (.invokestatic 71, 3) := by decide +kernel
theorem dc_L_law_213 : decode cd_L_law 213 = .ok (.istore 5, 2) := by decide +kernel
theorem dc_L_law_215 : decode cd_L_law 215 = .ok (.aload_n 2, 1) := by decide +kernel
theorem dc_L_law_216 : decode cd_L_law 216 = .ok (.aload_n 0, 1) := by decide +kernel
theorem dc_L_law_217 : decode cd_L_law 217 = .ok (.iload 4, 2) := by decide +kernel
theorem dc_L_law_219 : decode cd_L_law 219 = .ok (.iconst 1, 1) := by decide +kernel
theorem dc_L_law_220 : decode cd_L_law 220 = .ok (.iadd, 1) := by decide +kernel
theorem dc_L_law_221 : decode cd_L_law 221 = .ok (.iaload, 1) := by decide +kernel
theorem dc_L_law_222 : decode cd_L_law 222 = .ok (.aload_n 0, 1) := by decide +kernel
theorem dc_L_law_223 : decode cd_L_law 223 = .ok (.iload 4, 2) := by decide +kernel
theorem dc_L_law_225 : decode cd_L_law 225 = .ok (.iconst 2, 1) := by decide +kernel
theorem dc_L_law_226 : decode cd_L_law 226 = .ok (.iadd, 1) := by decide +kernel
theorem dc_L_law_227 : decode cd_L_law 227 = .ok (.iaload, 1) := by decide +kernel
theorem dc_L_law_228 : decode cd_L_law 228 = .ok (.invokevirtual 74, 3) := by decide +kernel
theorem dc_L_law_231 : decode cd_L_law 231 = .ok (.istore 6, 2) := by decide +kernel
theorem dc_L_law_233 : decode cd_L_law 233 = .ok (.aload_n 2, 1) := by decide +kernel
theorem dc_L_law_234 : decode cd_L_law 234 = .ok (.invokevirtual 67, 3) := by decide +kernel
theorem dc_L_law_237 : decode cd_L_law 237 = .ok (.iload 5, 2) := by decide +kernel
theorem dc_L_law_239 : decode cd_L_law 239 = .ok (.if_icmp .eq 5, 3) := by decide +kernel
theorem dc_L_law_242 : decode cd_L_law 242 = .ok (.iconst 0, 1) := by decide +kernel
theorem dc_L_law_243 : decode cd_L_law 243 = .ok (.ireturn, 1) := by decide +kernel
theorem dc_L_law_244 : decode cd_L_law 244 = .ok (.iload 5, 2) := by decide +kernel
theorem dc_L_law_246 : decode cd_L_law 246 = .ok (.ifCond .ne 15, 3) := by decide +kernel
theorem dc_L_law_249 : decode cd_L_law 249 = .ok (.aload_n 3, 1) := by decide +kernel
theorem dc_L_law_250 : decode cd_L_law 250 = .ok (.iconst 0, 1) := by decide +kernel
theorem dc_L_law_251 : decode cd_L_law 251 = .ok (.laload, 1) := by decide +kernel
theorem dc_L_law_252 : decode cd_L_law 252 = .ok (.iload 6, 2) := by decide +kernel
theorem dc_L_law_254 : decode cd_L_law 254 = .ok (.i2l, 1) := by decide +kernel
theorem dc_L_law_255 : decode cd_L_law 255 = .ok (.lcmp, 1) := by decide +kernel
theorem dc_L_law_256 : decode cd_L_law 256 = .ok (.ifCond .eq 5, 3) := by decide +kernel
theorem dc_L_law_259 : decode cd_L_law 259 = .ok (.iconst 0, 1) := by decide +kernel
theorem dc_L_law_260 : decode cd_L_law 260 = .ok (.ireturn, 1) := by decide +kernel
theorem dc_L_law_261 : decode cd_L_law 261 = .ok (.goto 674, 3) := by decide +kernel
theorem dc_L_law_264 : decode cd_L_law 264 = .ok (.aload_n 1, 1) := by decide +kernel
theorem dc_L_law_265 : decode cd_L_law 265 = .ok (.aload_n 0, 1) := by decide +kernel
theorem dc_L_law_266 : decode cd_L_law 266 = .ok (.iload 4, 2) := by decide +kernel
theorem dc_L_law_268 : decode cd_L_law 268 = .ok (.iconst 1, 1) := by decide +kernel
theorem dc_L_law_269 : decode cd_L_law 269 = .ok (.iadd, 1) := by decide +kernel
theorem dc_L_law_270 : decode cd_L_law 270 = .ok (.iaload, 1) := by decide +kernel
theorem dc_L_law_271 : decode cd_L_law 271 = .ok (.aload_n 0, 1) := by decide +kernel
theorem dc_L_law_272 : decode cd_L_law 272 = .ok (.iload 4, 2) := by decide +kernel
theorem dc_L_law_274 : decode cd_L_law 274 = .ok (.iconst 2, 1) := by decide +kernel
theorem dc_L_law_275 : decode cd_L_law 275 = .ok (.iadd, 1) := by decide +kernel
theorem dc_L_law_276 : decode cd_L_law 276 = .ok (.iaload, 1) := by decide +kernel
theorem dc_L_law_277 : decode cd_L_law 277 = .ok (.aload_n 0, 1) := by decide +kernel
theorem dc_L_law_278 : decode cd_L_law 278 = .ok (.iload 4, 2) := by decide +kernel
theorem dc_L_law_280 : decode cd_L_law 280 = .ok (.iconst 3, 1) := by decide +kernel
theorem dc_L_law_281 : decode cd_L_law 281 = .ok (.iadd, 1) := by decide +kernel
theorem dc_L_law_282 : decode cd_L_law 282 = .ok (.iaload, 1) := by decide +kernel
theorem dc_L_law_283 : decode cd_L_law 283 = .ok (.ifCond .eq 7, 3) := by decide +kernel
theorem dc_L_law_286 : decode cd_L_law 286 = .ok (.iconst 1, 1) := by decide +kernel
theorem dc_L_law_287 : decode cd_L_law 287 = .ok (.goto 4, 3) := by decide +kernel
theorem dc_L_law_290 : decode cd_L_law 290 = .ok (.iconst 0, 1) := by decide +kernel
theorem dc_L_law_291 : decode cd_L_law 291 = .ok (.aload_n 0, 1) := by decide +kernel
theorem dc_L_law_292 : decode cd_L_law 292 = .ok (.iload 4, 2) := by decide +kernel
theorem dc_L_law_294 : decode cd_L_law 294 = .ok (.iconst 4, 1) := by decide +kernel
theorem dc_L_law_295 : decode cd_L_law 295 = .ok (.iadd, 1) := by decide +kernel
theorem dc_L_law_296 : decode cd_L_law 296 = .ok (.iaload, 1) := by decide +kernel
theorem dc_L_law_297 : decode cd_L_law 297 = .ok (.ifCond .eq 7, 3) := by decide +kernel
theorem dc_L_law_300 : decode cd_L_law 300 = .ok (.iconst 1, 1) := by decide +kernel
theorem dc_L_law_301 : decode cd_L_law 301 = .ok (.goto 4, 3) := by decide +kernel
theorem dc_L_law_304 : decode cd_L_law 304 = .ok (.iconst 0, 1) := by decide +kernel
theorem dc_L_law_305 : decode cd_L_law 305 = .ok (.invokestatic 75, 3) := by decide +kernel
theorem dc_L_law_308 : decode cd_L_law 308 = .ok (.istore 5, 2) := by decide +kernel
theorem dc_L_law_310 : decode cd_L_law 310 = .ok (.aload_n 2, 1) := by decide +kernel
theorem dc_L_law_311 : decode cd_L_law 311 = .ok (.aload_n 0, 1) := by decide +kernel
theorem dc_L_law_312 : decode cd_L_law 312 = .ok (.iload 4, 2) := by decide +kernel
theorem dc_L_law_314 : decode cd_L_law 314 = .ok (.iconst 1, 1) := by decide +kernel
theorem dc_L_law_315 : decode cd_L_law 315 = .ok (.iadd, 1) := by decide +kernel
theorem dc_L_law_316 : decode cd_L_law 316 = .ok (.iaload, 1) := by decide +kernel
theorem dc_L_law_317 : decode cd_L_law 317 = .ok (.aload_n 0, 1) := by decide +kernel
theorem dc_L_law_318 : decode cd_L_law 318 = .ok (.iload 4, 2) := by decide +kernel
theorem dc_L_law_320 : decode cd_L_law 320 = .ok (.iconst 2, 1) := by decide +kernel
theorem dc_L_law_321 : decode cd_L_law 321 = .ok (.iadd, 1) := by decide +kernel
theorem dc_L_law_322 : decode cd_L_law 322 = .ok (.iaload, 1) := by decide +kernel
theorem dc_L_law_323 : decode cd_L_law 323 = .ok (.aload_n 0, 1) := by decide +kernel
theorem dc_L_law_324 : decode cd_L_law 324 = .ok (.iload 4, 2) := by decide +kernel
theorem dc_L_law_326 : decode cd_L_law 326 = .ok (.iconst 3, 1) := by decide +kernel
theorem dc_L_law_327 : decode cd_L_law 327 = .ok (.iadd, 1) := by decide +kernel
theorem dc_L_law_328 : decode cd_L_law 328 = .ok (.iaload, 1) := by decide +kernel
theorem dc_L_law_329 : decode cd_L_law 329 = .ok (.ifCond .eq 7, 3) := by decide +kernel
theorem dc_L_law_332 : decode cd_L_law 332 = .ok (.iconst 1, 1) := by decide +kernel
theorem dc_L_law_333 : decode cd_L_law 333 = .ok (.goto 4, 3) := by decide +kernel
theorem dc_L_law_336 : decode cd_L_law 336 = .ok (.iconst 0, 1) := by decide +kernel
theorem dc_L_law_337 : decode cd_L_law 337 = .ok (.aload_n 0, 1) := by decide +kernel
theorem dc_L_law_338 : decode cd_L_law 338 = .ok (.iload 4, 2) := by decide +kernel
theorem dc_L_law_340 : decode cd_L_law 340 = .ok (.iconst 4, 1) := by decide +kernel
theorem dc_L_law_341 : decode cd_L_law 341 = .ok (.iadd, 1) := by decide +kernel
theorem dc_L_law_342 : decode cd_L_law 342 = .ok (.iaload, 1) := by decide +kernel
theorem dc_L_law_343 : decode cd_L_law 343 = .ok (.ifCond .eq 7, 3) := by decide +kernel
theorem dc_L_law_346 : decode cd_L_law 346 = .ok (.iconst 1, 1) := by decide +kernel
theorem dc_L_law_347 : decode cd_L_law 347 = .ok (.goto 4, 3) := by decide +kernel
theorem dc_L_law_350 : decode cd_L_law 350 = .ok (.iconst 0, 1) := by decide +kernel
theorem dc_L_law_351 : decode cd_L_law 351 = .ok (.invokevirtual 78, 3) := by decide +kernel
theorem dc_L_law_354 : decode cd_L_law 354 = .ok (.aload_n 2, 1) := by decide +kernel
theorem dc_L_law_355 : decode cd_L_law 355 = .ok (.invokevirtual 67, 3) := by decide +kernel
theorem dc_L_law_358 : decode cd_L_law 358 = .ok (.iload 5, 2) := by decide +kernel
theorem dc_L_law_360 : decode cd_L_law 360 = .ok (.if_icmp .eq 5, 3) := by decide +kernel
theorem dc_L_law_363 : decode cd_L_law 363 = .ok (.iconst 0, 1) := by decide +kernel
theorem dc_L_law_364 : decode cd_L_law 364 = .ok (.ireturn, 1) := by decide +kernel
theorem dc_L_law_365 : decode cd_L_law 365 = .ok (.goto 570, 3) := by decide +kernel
theorem dc_L_law_368 : decode cd_L_law 368 = .ok (.aload_n 1, 1) := by decide +kernel
theorem dc_L_law_369 : decode cd_L_law 369 = .ok (.aload_n 0, 1) := by decide +kernel
theorem dc_L_law_370 : decode cd_L_law 370 = .ok (.iload 4, 2) := by decide +kernel
theorem dc_L_law_372 : decode cd_L_law 372 = .ok (.iconst 1, 1) := by decide +kernel
theorem dc_L_law_373 : decode cd_L_law 373 = .ok (.iadd, 1) := by decide +kernel
theorem dc_L_law_374 : decode cd_L_law 374 = .ok (.iaload, 1) := by decide +kernel
theorem dc_L_law_375 : decode cd_L_law 375 = .ok (.aload_n 0, 1) := by decide +kernel
theorem dc_L_law_376 : decode cd_L_law 376 = .ok (.iload 4, 2) := by decide +kernel
theorem dc_L_law_378 : decode cd_L_law 378 = .ok (.iconst 2, 1) := by decide +kernel
theorem dc_L_law_379 : decode cd_L_law 379 = .ok (.iadd, 1) := by decide +kernel
theorem dc_L_law_380 : decode cd_L_law 380 = .ok (.iaload, 1) := by decide +kernel
theorem dc_L_law_381 : decode cd_L_law 381 = .ok (.aload_n 0, 1) := by decide +kernel
theorem dc_L_law_382 : decode cd_L_law 382 = .ok (.iload 4, 2) := by decide +kernel
theorem dc_L_law_384 : decode cd_L_law 384 = .ok (.iconst 3, 1) := by decide +kernel
theorem dc_L_law_385 : decode cd_L_law 385 = .ok (.iadd, 1) := by decide +kernel
theorem dc_L_law_386 : decode cd_L_law 386 = .ok (.iaload, 1) := by decide +kernel
theorem dc_L_law_387 : decode cd_L_law 387 = .ok (.aload_n 0, 1) := by decide +kernel
theorem dc_L_law_388 : decode cd_L_law 388 = .ok (.iload 4, 2) := by decide +kernel
theorem dc_L_law_390 : decode cd_L_law 390 = .ok (.iconst 4, 1) := by decide +kernel
theorem dc_L_law_391 : decode cd_L_law 391 = .ok (.iadd, 1) := by decide +kernel
theorem dc_L_law_392 : decode cd_L_law 392 = .ok (.iaload, 1) := by decide +kernel
theorem dc_L_law_393 : decode cd_L_law 393 = .ok (.aload_n 0, 1) := by decide +kernel
theorem dc_L_law_394 : decode cd_L_law 394 = .ok (.iload 4, 2) := by decide +kernel
theorem dc_L_law_396 : decode cd_L_law 396 = .ok (.iconst 5, 1) := by decide +kernel
theorem dc_L_law_397 : decode cd_L_law 397 = .ok (.iadd, 1) := by decide +kernel
theorem dc_L_law_398 : decode cd_L_law 398 = .ok (.iaload, 1) := by decide +kernel
theorem dc_L_law_399 : decode cd_L_law 399 = .ok (.aload_n 0, 1) := by decide +kernel
theorem dc_L_law_400 : decode cd_L_law 400 = .ok (.iload 4, 2) := by decide +kernel
theorem dc_L_law_402 : decode cd_L_law 402 = .ok (.bipush 6, 2) := by decide +kernel
theorem dc_L_law_404 : decode cd_L_law 404 = .ok (.iadd, 1) := by decide +kernel
theorem dc_L_law_405 : decode cd_L_law 405 = .ok (.iaload, 1) := by decide +kernel
theorem dc_L_law_406 : decode cd_L_law 406 = .ok (.aload_n 3, 1) := by decide +kernel
theorem dc_L_law_407 : decode cd_L_law 407 = .ok (.invokestatic 79, 3) := by decide +kernel
theorem dc_L_law_410 : decode cd_L_law 410 = .ok (.istore 5, 2) := by decide +kernel
theorem dc_L_law_412 : decode cd_L_law 412 = .ok (.aload_n 2, 1) := by decide +kernel
theorem dc_L_law_413 : decode cd_L_law 413 = .ok (.aload_n 0, 1) := by decide +kernel
theorem dc_L_law_414 : decode cd_L_law 414 = .ok (.iload 4, 2) := by decide +kernel
theorem dc_L_law_416 : decode cd_L_law 416 = .ok (.iconst 1, 1) := by decide +kernel
theorem dc_L_law_417 : decode cd_L_law 417 = .ok (.iadd, 1) := by decide +kernel
theorem dc_L_law_418 : decode cd_L_law 418 = .ok (.iaload, 1) := by decide +kernel
theorem dc_L_law_419 : decode cd_L_law 419 = .ok (.aload_n 0, 1) := by decide +kernel
theorem dc_L_law_420 : decode cd_L_law 420 = .ok (.iload 4, 2) := by decide +kernel
theorem dc_L_law_422 : decode cd_L_law 422 = .ok (.iconst 2, 1) := by decide +kernel
theorem dc_L_law_423 : decode cd_L_law 423 = .ok (.iadd, 1) := by decide +kernel
theorem dc_L_law_424 : decode cd_L_law 424 = .ok (.iaload, 1) := by decide +kernel
theorem dc_L_law_425 : decode cd_L_law 425 = .ok (.aload_n 0, 1) := by decide +kernel
theorem dc_L_law_426 : decode cd_L_law 426 = .ok (.iload 4, 2) := by decide +kernel
theorem dc_L_law_428 : decode cd_L_law 428 = .ok (.iconst 3, 1) := by decide +kernel
theorem dc_L_law_429 : decode cd_L_law 429 = .ok (.iadd, 1) := by decide +kernel
theorem dc_L_law_430 : decode cd_L_law 430 = .ok (.iaload, 1) := by decide +kernel
theorem dc_L_law_431 : decode cd_L_law 431 = .ok (.aload_n 0, 1) := by decide +kernel
theorem dc_L_law_432 : decode cd_L_law 432 = .ok (.iload 4, 2) := by decide +kernel
theorem dc_L_law_434 : decode cd_L_law 434 = .ok (.iconst 4, 1) := by decide +kernel
theorem dc_L_law_435 : decode cd_L_law 435 = .ok (.iadd, 1) := by decide +kernel
theorem dc_L_law_436 : decode cd_L_law 436 = .ok (.iaload, 1) := by decide +kernel
theorem dc_L_law_437 : decode cd_L_law 437 = .ok (.aload_n 0, 1) := by decide +kernel
theorem dc_L_law_438 : decode cd_L_law 438 = .ok (.iload 4, 2) := by decide +kernel
theorem dc_L_law_440 : decode cd_L_law 440 = .ok (.iconst 5, 1) := by decide +kernel
theorem dc_L_law_441 : decode cd_L_law 441 = .ok (.iadd, 1) := by decide +kernel
theorem dc_L_law_442 : decode cd_L_law 442 = .ok (.iaload, 1) := by decide +kernel
theorem dc_L_law_443 : decode cd_L_law 443 = .ok (.aload_n 0, 1) := by decide +kernel
theorem dc_L_law_444 : decode cd_L_law 444 = .ok (.iload 4, 2) := by decide +kernel
theorem dc_L_law_446 : decode cd_L_law 446 = .ok (.bipush 6, 2) := by decide +kernel
theorem dc_L_law_448 : decode cd_L_law 448 = .ok (.iadd, 1) := by decide +kernel
theorem dc_L_law_449 : decode cd_L_law 449 = .ok (.iaload, 1) := by decide +kernel
theorem dc_L_law_450 : decode cd_L_law 450 = .ok (.invokevirtual 82, 3) := by decide +kernel
theorem dc_L_law_453 : decode cd_L_law 453 = .ok (.istore 6, 2) := by decide +kernel
theorem dc_L_law_455 : decode cd_L_law 455 = .ok (.aload_n 2, 1) := by decide +kernel
theorem dc_L_law_456 : decode cd_L_law 456 = .ok (.invokevirtual 67, 3) := by decide +kernel
theorem dc_L_law_459 : decode cd_L_law 459 = .ok (.iload 5, 2) := by decide +kernel
theorem dc_L_law_461 : decode cd_L_law 461 = .ok (.if_icmp .eq 5, 3) := by decide +kernel
theorem dc_L_law_464 : decode cd_L_law 464 = .ok (.iconst 0, 1) := by decide +kernel
theorem dc_L_law_465 : decode cd_L_law 465 = .ok (.ireturn, 1) := by decide +kernel
theorem dc_L_law_466 : decode cd_L_law 466 = .ok (.iload 5, 2) := by decide +kernel
theorem dc_L_law_468 : decode cd_L_law 468 = .ok (.ifCond .ne 15, 3) := by decide +kernel
theorem dc_L_law_471 : decode cd_L_law 471 = .ok (.aload_n 3, 1) := by decide +kernel
theorem dc_L_law_472 : decode cd_L_law 472 = .ok (.iconst 0, 1) := by decide +kernel
theorem dc_L_law_473 : decode cd_L_law 473 = .ok (.laload, 1) := by decide +kernel
theorem dc_L_law_474 : decode cd_L_law 474 = .ok (.iload 6, 2) := by decide +kernel
theorem dc_L_law_476 : decode cd_L_law 476 = .ok (.i2l, 1) := by decide +kernel
theorem dc_L_law_477 : decode cd_L_law 477 = .ok (.lcmp, 1) := by decide +kernel
theorem dc_L_law_478 : decode cd_L_law 478 = .ok (.ifCond .eq 5, 3) := by decide +kernel
theorem dc_L_law_481 : decode cd_L_law 481 = .ok (.iconst 0, 1) := by decide +kernel
theorem dc_L_law_482 : decode cd_L_law 482 = .ok (.ireturn, 1) := by decide +kernel
theorem dc_L_law_483 : decode cd_L_law 483 = .ok (.goto 452, 3) := by decide +kernel
theorem dc_L_law_486 : decode cd_L_law 486 = .ok (.aload_n 1, 1) := by decide +kernel
theorem dc_L_law_487 : decode cd_L_law 487 = .ok (.aload_n 0, 1) := by decide +kernel
theorem dc_L_law_488 : decode cd_L_law 488 = .ok (.iload 4, 2) := by decide +kernel
theorem dc_L_law_490 : decode cd_L_law 490 = .ok (.iconst 1, 1) := by decide +kernel
theorem dc_L_law_491 : decode cd_L_law 491 = .ok (.iadd, 1) := by decide +kernel
theorem dc_L_law_492 : decode cd_L_law 492 = .ok (.iaload, 1) := by decide +kernel
theorem dc_L_law_493 : decode cd_L_law 493 = .ok (.aload_n 0, 1) := by decide +kernel
theorem dc_L_law_494 : decode cd_L_law 494 = .ok (.iload 4, 2) := by decide +kernel
theorem dc_L_law_496 : decode cd_L_law 496 = .ok (.iconst 2, 1) := by decide +kernel
theorem dc_L_law_497 : decode cd_L_law 497 = .ok (.iadd, 1) := by decide +kernel
theorem dc_L_law_498 : decode cd_L_law 498 = .ok (.iaload, 1) := by decide +kernel
theorem dc_L_law_499 : decode cd_L_law 499 = .ok (.aload_n 0, 1) := by decide +kernel
theorem dc_L_law_500 : decode cd_L_law 500 = .ok (.iload 4, 2) := by decide +kernel
theorem dc_L_law_502 : decode cd_L_law 502 = .ok (.iconst 3, 1) := by decide +kernel
theorem dc_L_law_503 : decode cd_L_law 503 = .ok (.iadd, 1) := by decide +kernel
theorem dc_L_law_504 : decode cd_L_law 504 = .ok (.iaload, 1) := by decide +kernel
theorem dc_L_law_505 : decode cd_L_law 505 = .ok (.invokestatic 83, 3) := by decide +kernel
theorem dc_L_law_508 : decode cd_L_law 508 = .ok (.istore 5, 2) := by decide +kernel
theorem dc_L_law_510 : decode cd_L_law 510 = .ok (.aload_n 2, 1) := by decide +kernel
theorem dc_L_law_511 : decode cd_L_law 511 = .ok (.aload_n 0, 1) := by decide +kernel
theorem dc_L_law_512 : decode cd_L_law 512 = .ok (.iload 4, 2) := by decide +kernel
theorem dc_L_law_514 : decode cd_L_law 514 = .ok (.iconst 1, 1) := by decide +kernel
theorem dc_L_law_515 : decode cd_L_law 515 = .ok (.iadd, 1) := by decide +kernel
theorem dc_L_law_516 : decode cd_L_law 516 = .ok (.iaload, 1) := by decide +kernel
theorem dc_L_law_517 : decode cd_L_law 517 = .ok (.aload_n 0, 1) := by decide +kernel
theorem dc_L_law_518 : decode cd_L_law 518 = .ok (.iload 4, 2) := by decide +kernel
theorem dc_L_law_520 : decode cd_L_law 520 = .ok (.iconst 2, 1) := by decide +kernel
theorem dc_L_law_521 : decode cd_L_law 521 = .ok (.iadd, 1) := by decide +kernel
theorem dc_L_law_522 : decode cd_L_law 522 = .ok (.iaload, 1) := by decide +kernel
theorem dc_L_law_523 : decode cd_L_law 523 = .ok (.aload_n 0, 1) := by decide +kernel
theorem dc_L_law_524 : decode cd_L_law 524 = .ok (.iload 4, 2) := by decide +kernel
theorem dc_L_law_526 : decode cd_L_law 526 = .ok (.iconst 3, 1) := by decide +kernel
theorem dc_L_law_527 : decode cd_L_law 527 = .ok (.iadd, 1) := by decide +kernel
theorem dc_L_law_528 : decode cd_L_law 528 = .ok (.iaload, 1) := by decide +kernel
theorem dc_L_law_529 : decode cd_L_law 529 = .ok (.invokevirtual 86, 3) := by decide +kernel
theorem dc_L_law_532 : decode cd_L_law 532 = .ok (.aload_n 2, 1) := by decide +kernel
theorem dc_L_law_533 : decode cd_L_law 533 = .ok (.invokevirtual 67, 3) := by decide +kernel
theorem dc_L_law_536 : decode cd_L_law 536 = .ok (.iload 5, 2) := by decide +kernel
theorem dc_L_law_538 : decode cd_L_law 538 = .ok (.if_icmp .eq 5, 3) := by decide +kernel
theorem dc_L_law_541 : decode cd_L_law 541 = .ok (.iconst 0, 1) := by decide +kernel
theorem dc_L_law_542 : decode cd_L_law 542 = .ok (.ireturn, 1) := by decide +kernel
theorem dc_L_law_543 : decode cd_L_law 543 = .ok (.goto 392, 3) := by decide +kernel
theorem dc_L_law_546 : decode cd_L_law 546 = .ok (.aload_n 1, 1) := by decide +kernel
theorem dc_L_law_547 : decode cd_L_law 547 = .ok (.aload_n 0, 1) := by decide +kernel
theorem dc_L_law_548 : decode cd_L_law 548 = .ok (.iload 4, 2) := by decide +kernel
theorem dc_L_law_550 : decode cd_L_law 550 = .ok (.iconst 1, 1) := by decide +kernel
theorem dc_L_law_551 : decode cd_L_law 551 = .ok (.iadd, 1) := by decide +kernel
theorem dc_L_law_552 : decode cd_L_law 552 = .ok (.iaload, 1) := by decide +kernel
theorem dc_L_law_553 : decode cd_L_law 553 = .ok (.invokestatic 87, 3) := by decide +kernel
theorem dc_L_law_556 : decode cd_L_law 556 = .ok (.istore 5, 2) := by decide +kernel
theorem dc_L_law_558 : decode cd_L_law 558 = .ok (.aload_n 2, 1) := by decide +kernel
theorem dc_L_law_559 : decode cd_L_law 559 = .ok (.aload_n 0, 1) := by decide +kernel
theorem dc_L_law_560 : decode cd_L_law 560 = .ok (.iload 4, 2) := by decide +kernel
theorem dc_L_law_562 : decode cd_L_law 562 = .ok (.iconst 1, 1) := by decide +kernel
theorem dc_L_law_563 : decode cd_L_law 563 = .ok (.iadd, 1) := by decide +kernel
theorem dc_L_law_564 : decode cd_L_law 564 = .ok (.iaload, 1) := by decide +kernel
theorem dc_L_law_565 : decode cd_L_law 565 = .ok (.invokevirtual 90, 3) := by decide +kernel
theorem dc_L_law_568 : decode cd_L_law 568 = .ok (.aload_n 2, 1) := by decide +kernel
theorem dc_L_law_569 : decode cd_L_law 569 = .ok (.invokevirtual 67, 3) := by decide +kernel
theorem dc_L_law_572 : decode cd_L_law 572 = .ok (.iload 5, 2) := by decide +kernel
theorem dc_L_law_574 : decode cd_L_law 574 = .ok (.if_icmp .eq 5, 3) := by decide +kernel
theorem dc_L_law_577 : decode cd_L_law 577 = .ok (.iconst 0, 1) := by decide +kernel
theorem dc_L_law_578 : decode cd_L_law 578 = .ok (.ireturn, 1) := by decide +kernel
theorem dc_L_law_579 : decode cd_L_law 579 = .ok (.goto 356, 3) := by decide +kernel
theorem dc_L_law_582 : decode cd_L_law 582 = .ok (.aload_n 1, 1) := by decide +kernel
theorem dc_L_law_583 : decode cd_L_law 583 = .ok (.aload_n 0, 1) := by decide +kernel
theorem dc_L_law_584 : decode cd_L_law 584 = .ok (.iload 4, 2) := by decide +kernel
theorem dc_L_law_586 : decode cd_L_law 586 = .ok (.iconst 1, 1) := by decide +kernel
theorem dc_L_law_587 : decode cd_L_law 587 = .ok (.iadd, 1) := by decide +kernel
theorem dc_L_law_588 : decode cd_L_law 588 = .ok (.iaload, 1) := by decide +kernel
theorem dc_L_law_589 : decode cd_L_law 589 = .ok (.aload_n 3, 1) := by decide +kernel
theorem dc_L_law_590 : decode cd_L_law 590 = .ok (.invokestatic 91, 3) := by decide +kernel
theorem dc_L_law_593 : decode cd_L_law 593 = .ok (.istore 5, 2) := by decide +kernel
theorem dc_L_law_595 : decode cd_L_law 595 = .ok (.aload_n 2, 1) := by decide +kernel
theorem dc_L_law_596 : decode cd_L_law 596 = .ok (.aload_n 0, 1) := by decide +kernel
theorem dc_L_law_597 : decode cd_L_law 597 = .ok (.iload 4, 2) := by decide +kernel
theorem dc_L_law_599 : decode cd_L_law 599 = .ok (.iconst 1, 1) := by decide +kernel
theorem dc_L_law_600 : decode cd_L_law 600 = .ok (.iadd, 1) := by decide +kernel
theorem dc_L_law_601 : decode cd_L_law 601 = .ok (.iaload, 1) := by decide +kernel
theorem dc_L_law_602 : decode cd_L_law 602 = .ok (.invokevirtual 94, 3) := by decide +kernel
theorem dc_L_law_605 : decode cd_L_law 605 = .ok (.istore 6, 2) := by decide +kernel
theorem dc_L_law_607 : decode cd_L_law 607 = .ok (.aload_n 2, 1) := by decide +kernel
theorem dc_L_law_608 : decode cd_L_law 608 = .ok (.invokevirtual 67, 3) := by decide +kernel
theorem dc_L_law_611 : decode cd_L_law 611 = .ok (.iload 5, 2) := by decide +kernel
theorem dc_L_law_613 : decode cd_L_law 613 = .ok (.if_icmp .eq 5, 3) := by decide +kernel
theorem dc_L_law_616 : decode cd_L_law 616 = .ok (.iconst 0, 1) := by decide +kernel
theorem dc_L_law_617 : decode cd_L_law 617 = .ok (.ireturn, 1) := by decide +kernel
theorem dc_L_law_618 : decode cd_L_law 618 = .ok (.iload 5, 2) := by decide +kernel
theorem dc_L_law_620 : decode cd_L_law 620 = .ok (.ifCond .ne 15, 3) := by decide +kernel
theorem dc_L_law_623 : decode cd_L_law 623 = .ok (.aload_n 3, 1) := by decide +kernel
theorem dc_L_law_624 : decode cd_L_law 624 = .ok (.iconst 0, 1) := by decide +kernel
theorem dc_L_law_625 : decode cd_L_law 625 = .ok (.laload, 1) := by decide +kernel
theorem dc_L_law_626 : decode cd_L_law 626 = .ok (.iload 6, 2) := by decide +kernel
theorem dc_L_law_628 : decode cd_L_law 628 = .ok (.i2l, 1) := by decide +kernel
theorem dc_L_law_629 : decode cd_L_law 629 = .ok (.lcmp, 1) := by decide +kernel
theorem dc_L_law_630 : decode cd_L_law 630 = .ok (.ifCond .eq 5, 3) := by decide +kernel
theorem dc_L_law_633 : decode cd_L_law 633 = .ok (.iconst 0, 1) := by decide +kernel
theorem dc_L_law_634 : decode cd_L_law 634 = .ok (.ireturn, 1) := by decide +kernel
theorem dc_L_law_635 : decode cd_L_law 635 = .ok (.goto 300, 3) := by decide +kernel
theorem dc_L_law_638 : decode cd_L_law 638 = .ok (.aload_n 1, 1) := by decide +kernel
theorem dc_L_law_639 : decode cd_L_law 639 = .ok (.aload_n 0, 1) := by decide +kernel
theorem dc_L_law_640 : decode cd_L_law 640 = .ok (.iload 4, 2) := by decide +kernel
theorem dc_L_law_642 : decode cd_L_law 642 = .ok (.iconst 1, 1) := by decide +kernel
theorem dc_L_law_643 : decode cd_L_law 643 = .ok (.iadd, 1) := by decide +kernel
theorem dc_L_law_644 : decode cd_L_law 644 = .ok (.iaload, 1) := by decide +kernel
theorem dc_L_law_645 : decode cd_L_law 645 = .ok (.aload_n 0, 1) := by decide +kernel
theorem dc_L_law_646 : decode cd_L_law 646 = .ok (.iload 4, 2) := by decide +kernel
theorem dc_L_law_648 : decode cd_L_law 648 = .ok (.iconst 2, 1) := by decide +kernel
theorem dc_L_law_649 : decode cd_L_law 649 = .ok (.iadd, 1) := by decide +kernel
theorem dc_L_law_650 : decode cd_L_law 650 = .ok (.iaload, 1) := by decide +kernel
theorem dc_L_law_651 : decode cd_L_law 651 = .ok (.aload_n 3, 1) := by decide +kernel
theorem dc_L_law_652 : decode cd_L_law 652 = .ok (.invokestatic 95, 3) := by decide +kernel
theorem dc_L_law_655 : decode cd_L_law 655 = .ok (.istore 5, 2) := by decide +kernel
theorem dc_L_law_657 : decode cd_L_law 657 = .ok (.aload_n 2, 1) := by decide +kernel
theorem dc_L_law_658 : decode cd_L_law 658 = .ok (.aload_n 0, 1) := by decide +kernel
theorem dc_L_law_659 : decode cd_L_law 659 = .ok (.iload 4, 2) := by decide +kernel
theorem dc_L_law_661 : decode cd_L_law 661 = .ok (.iconst 1, 1) := by decide +kernel
theorem dc_L_law_662 : decode cd_L_law 662 = .ok (.iadd, 1) := by decide +kernel
theorem dc_L_law_663 : decode cd_L_law 663 = .ok (.iaload, 1) := by decide +kernel
theorem dc_L_law_664 : decode cd_L_law 664 = .ok (.aload_n 0, 1) := by decide +kernel
theorem dc_L_law_665 : decode cd_L_law 665 = .ok (.iload 4, 2) := by decide +kernel
theorem dc_L_law_667 : decode cd_L_law 667 = .ok (.iconst 2, 1) := by decide +kernel
theorem dc_L_law_668 : decode cd_L_law 668 = .ok (.iadd, 1) := by decide +kernel
theorem dc_L_law_669 : decode cd_L_law 669 = .ok (.iaload, 1) := by decide +kernel
theorem dc_L_law_670 : decode cd_L_law 670 = .ok (.invokevirtual 97, 3) := by decide +kernel
theorem dc_L_law_673 : decode cd_L_law 673 = .ok (.istore 6, 2) := by decide +kernel
theorem dc_L_law_675 : decode cd_L_law 675 = .ok (.aload_n 2, 1) := by decide +kernel
theorem dc_L_law_676 : decode cd_L_law 676 = .ok (.invokevirtual 67, 3) := by decide +kernel
theorem dc_L_law_679 : decode cd_L_law 679 = .ok (.iload 5, 2) := by decide +kernel
theorem dc_L_law_681 : decode cd_L_law 681 = .ok (.if_icmp .eq 5, 3) := by decide +kernel
theorem dc_L_law_684 : decode cd_L_law 684 = .ok (.iconst 0, 1) := by decide +kernel
theorem dc_L_law_685 : decode cd_L_law 685 = .ok (.ireturn, 1) := by decide +kernel
theorem dc_L_law_686 : decode cd_L_law 686 = .ok (.iload 5, 2) := by decide +kernel
theorem dc_L_law_688 : decode cd_L_law 688 = .ok (.ifCond .ne 15, 3) := by decide +kernel
theorem dc_L_law_691 : decode cd_L_law 691 = .ok (.aload_n 3, 1) := by decide +kernel
theorem dc_L_law_692 : decode cd_L_law 692 = .ok (.iconst 0, 1) := by decide +kernel
theorem dc_L_law_693 : decode cd_L_law 693 = .ok (.laload, 1) := by decide +kernel
theorem dc_L_law_694 : decode cd_L_law 694 = .ok (.iload 6, 2) := by decide +kernel
theorem dc_L_law_696 : decode cd_L_law 696 = .ok (.i2l, 1) := by decide +kernel
theorem dc_L_law_697 : decode cd_L_law 697 = .ok (.lcmp, 1) := by decide +kernel
theorem dc_L_law_698 : decode cd_L_law 698 = .ok (.ifCond .eq 5, 3) := by decide +kernel
theorem dc_L_law_701 : decode cd_L_law 701 = .ok (.iconst 0, 1) := by decide +kernel
theorem dc_L_law_702 : decode cd_L_law 702 = .ok (.ireturn, 1) := by decide +kernel
theorem dc_L_law_703 : decode cd_L_law 703 = .ok (.goto 232, 3) := by decide +kernel
theorem dc_L_law_706 : decode cd_L_law 706 = .ok (.aload_n 1, 1) := by decide +kernel
theorem dc_L_law_707 : decode cd_L_law 707 = .ok (.aload_n 0, 1) := by decide +kernel
theorem dc_L_law_708 : decode cd_L_law 708 = .ok (.iload 4, 2) := by decide +kernel
theorem dc_L_law_710 : decode cd_L_law 710 = .ok (.iconst 1, 1) := by decide +kernel
theorem dc_L_law_711 : decode cd_L_law 711 = .ok (.iadd, 1) := by decide +kernel
theorem dc_L_law_712 : decode cd_L_law 712 = .ok (.iaload, 1) := by decide +kernel
theorem dc_L_law_713 : decode cd_L_law 713 = .ok (.aload_n 0, 1) := by decide +kernel
theorem dc_L_law_714 : decode cd_L_law 714 = .ok (.iload 4, 2) := by decide +kernel
theorem dc_L_law_716 : decode cd_L_law 716 = .ok (.iconst 2, 1) := by decide +kernel
theorem dc_L_law_717 : decode cd_L_law 717 = .ok (.iadd, 1) := by decide +kernel
theorem dc_L_law_718 : decode cd_L_law 718 = .ok (.iaload, 1) := by decide +kernel
theorem dc_L_law_719 : decode cd_L_law 719 = .ok (.aload_n 3, 1) := by decide +kernel
theorem dc_L_law_720 : decode cd_L_law 720 = .ok (.invokestatic 98, 3) := by decide +kernel
theorem dc_L_law_723 : decode cd_L_law 723 = .ok (.istore 5, 2) := by decide +kernel
theorem dc_L_law_725 : decode cd_L_law 725 = .ok (.aload_n 2, 1) := by decide +kernel
theorem dc_L_law_726 : decode cd_L_law 726 = .ok (.aload_n 0, 1) := by decide +kernel
theorem dc_L_law_727 : decode cd_L_law 727 = .ok (.iload 4, 2) := by decide +kernel
theorem dc_L_law_729 : decode cd_L_law 729 = .ok (.iconst 1, 1) := by decide +kernel
theorem dc_L_law_730 : decode cd_L_law 730 = .ok (.iadd, 1) := by decide +kernel
theorem dc_L_law_731 : decode cd_L_law 731 = .ok (.iaload, 1) := by decide +kernel
theorem dc_L_law_732 : decode cd_L_law 732 = .ok (.aload_n 0, 1) := by decide +kernel
theorem dc_L_law_733 : decode cd_L_law 733 = .ok (.iload 4, 2) := by decide +kernel
theorem dc_L_law_735 : decode cd_L_law 735 = .ok (.iconst 2, 1) := by decide +kernel
theorem dc_L_law_736 : decode cd_L_law 736 = .ok (.iadd, 1) := by decide +kernel
theorem dc_L_law_737 : decode cd_L_law 737 = .ok (.iaload, 1) := by decide +kernel
theorem dc_L_law_738 : decode cd_L_law 738 = .ok (.invokevirtual 100, 3) := by decide +kernel
theorem dc_L_law_741 : decode cd_L_law 741 = .ok (.istore 6, 2) := by decide +kernel
theorem dc_L_law_743 : decode cd_L_law 743 = .ok (.aload_n 2, 1) := by decide +kernel
theorem dc_L_law_744 : decode cd_L_law 744 = .ok (.invokevirtual 67, 3) := by decide +kernel
theorem dc_L_law_747 : decode cd_L_law 747 = .ok (.iload 5, 2) := by decide +kernel
theorem dc_L_law_749 : decode cd_L_law 749 = .ok (.if_icmp .eq 5, 3) := by decide +kernel
theorem dc_L_law_752 : decode cd_L_law 752 = .ok (.iconst 0, 1) := by decide +kernel
theorem dc_L_law_753 : decode cd_L_law 753 = .ok (.ireturn, 1) := by decide +kernel
theorem dc_L_law_754 : decode cd_L_law 754 = .ok (.iload 5, 2) := by decide +kernel
theorem dc_L_law_756 : decode cd_L_law 756 = .ok (.ifCond .ne 15, 3) := by decide +kernel
theorem dc_L_law_759 : decode cd_L_law 759 = .ok (.aload_n 3, 1) := by decide +kernel
theorem dc_L_law_760 : decode cd_L_law 760 = .ok (.iconst 0, 1) := by decide +kernel
theorem dc_L_law_761 : decode cd_L_law 761 = .ok (.laload, 1) := by decide +kernel
theorem dc_L_law_762 : decode cd_L_law 762 = .ok (.iload 6, 2) := by decide +kernel
theorem dc_L_law_764 : decode cd_L_law 764 = .ok (.i2l, 1) := by decide +kernel
theorem dc_L_law_765 : decode cd_L_law 765 = .ok (.lcmp, 1) := by decide +kernel
theorem dc_L_law_766 : decode cd_L_law 766 = .ok (.ifCond .eq 5, 3) := by decide +kernel
theorem dc_L_law_769 : decode cd_L_law 769 = .ok (.iconst 0, 1) := by decide +kernel
theorem dc_L_law_770 : decode cd_L_law 770 = .ok (.ireturn, 1) := by decide +kernel
theorem dc_L_law_771 : decode cd_L_law 771 = .ok (.goto 164, 3) := by decide +kernel
theorem dc_L_law_774 : decode cd_L_law 774 = .ok (.aload_n 1, 1) := by decide +kernel
theorem dc_L_law_775 : decode cd_L_law 775 = .ok (.aload_n 0, 1) := by decide +kernel
theorem dc_L_law_776 : decode cd_L_law 776 = .ok (.iload 4, 2) := by decide +kernel
theorem dc_L_law_778 : decode cd_L_law 778 = .ok (.iconst 1, 1) := by decide +kernel
theorem dc_L_law_779 : decode cd_L_law 779 = .ok (.iadd, 1) := by decide +kernel
theorem dc_L_law_780 : decode cd_L_law 780 = .ok (.iaload, 1) := by decide +kernel
theorem dc_L_law_781 : decode cd_L_law 781 = .ok (.aload_n 0, 1) := by decide +kernel
theorem dc_L_law_782 : decode cd_L_law 782 = .ok (.iload 4, 2) := by decide +kernel
theorem dc_L_law_784 : decode cd_L_law 784 = .ok (.iconst 2, 1) := by decide +kernel
theorem dc_L_law_785 : decode cd_L_law 785 = .ok (.iadd, 1) := by decide +kernel
theorem dc_L_law_786 : decode cd_L_law 786 = .ok (.iaload, 1) := by decide +kernel
theorem dc_L_law_787 : decode cd_L_law 787 = .ok (.aload_n 3, 1) := by decide +kernel
theorem dc_L_law_788 : decode cd_L_law 788 = .ok (.invokestatic 101, 3) := by decide +kernel
theorem dc_L_law_791 : decode cd_L_law 791 = .ok (.istore 5, 2) := by decide +kernel
theorem dc_L_law_793 : decode cd_L_law 793 = .ok (.aload_n 2, 1) := by decide +kernel
theorem dc_L_law_794 : decode cd_L_law 794 = .ok (.aload_n 0, 1) := by decide +kernel
theorem dc_L_law_795 : decode cd_L_law 795 = .ok (.iload 4, 2) := by decide +kernel
theorem dc_L_law_797 : decode cd_L_law 797 = .ok (.iconst 1, 1) := by decide +kernel
theorem dc_L_law_798 : decode cd_L_law 798 = .ok (.iadd, 1) := by decide +kernel
theorem dc_L_law_799 : decode cd_L_law 799 = .ok (.iaload, 1) := by decide +kernel
theorem dc_L_law_800 : decode cd_L_law 800 = .ok (.aload_n 0, 1) := by decide +kernel
theorem dc_L_law_801 : decode cd_L_law 801 = .ok (.iload 4, 2) := by decide +kernel
theorem dc_L_law_803 : decode cd_L_law 803 = .ok (.iconst 2, 1) := by decide +kernel
theorem dc_L_law_804 : decode cd_L_law 804 = .ok (.iadd, 1) := by decide +kernel
theorem dc_L_law_805 : decode cd_L_law 805 = .ok (.iaload, 1) := by decide +kernel
theorem dc_L_law_806 : decode cd_L_law 806 = .ok (.invokevirtual 103, 3) := by decide +kernel
theorem dc_L_law_809 : decode cd_L_law 809 = .ok (.istore 6, 2) := by decide +kernel
theorem dc_L_law_811 : decode cd_L_law 811 = .ok (.aload_n 2, 1) := by decide +kernel
theorem dc_L_law_812 : decode cd_L_law 812 = .ok (.invokevirtual 67, 3) := by decide +kernel
theorem dc_L_law_815 : decode cd_L_law 815 = .ok (.iload 5, 2) := by decide +kernel
theorem dc_L_law_817 : decode cd_L_law 817 = .ok (.if_icmp .eq 5, 3) := by decide +kernel
theorem dc_L_law_820 : decode cd_L_law 820 = .ok (.iconst 0, 1) := by decide +kernel
theorem dc_L_law_821 : decode cd_L_law 821 = .ok (.ireturn, 1) := by decide +kernel
theorem dc_L_law_822 : decode cd_L_law 822 = .ok (.iload 5, 2) := by decide +kernel
theorem dc_L_law_824 : decode cd_L_law 824 = .ok (.ifCond .ne 15, 3) := by decide +kernel
theorem dc_L_law_827 : decode cd_L_law 827 = .ok (.aload_n 3, 1) := by decide +kernel
theorem dc_L_law_828 : decode cd_L_law 828 = .ok (.iconst 0, 1) := by decide +kernel
theorem dc_L_law_829 : decode cd_L_law 829 = .ok (.laload, 1) := by decide +kernel
theorem dc_L_law_830 : decode cd_L_law 830 = .ok (.iload 6, 2) := by decide +kernel
theorem dc_L_law_832 : decode cd_L_law 832 = .ok (.i2l, 1) := by decide +kernel
theorem dc_L_law_833 : decode cd_L_law 833 = .ok (.lcmp, 1) := by decide +kernel
theorem dc_L_law_834 : decode cd_L_law 834 = .ok (.ifCond .eq 5, 3) := by decide +kernel
theorem dc_L_law_837 : decode cd_L_law 837 = .ok (.iconst 0, 1) := by decide +kernel
theorem dc_L_law_838 : decode cd_L_law 838 = .ok (.ireturn, 1) := by decide +kernel
theorem dc_L_law_839 : decode cd_L_law 839 = .ok (.goto 96, 3) := by decide +kernel
theorem dc_L_law_842 : decode cd_L_law 842 = .ok (.aload_n 1, 1) := by decide +kernel
theorem dc_L_law_843 : decode cd_L_law 843 = .ok (.aload_n 0, 1) := by decide +kernel
theorem dc_L_law_844 : decode cd_L_law 844 = .ok (.iload 4, 2) := by decide +kernel
theorem dc_L_law_846 : decode cd_L_law 846 = .ok (.iconst 1, 1) := by decide +kernel
theorem dc_L_law_847 : decode cd_L_law 847 = .ok (.iadd, 1) := by decide +kernel
theorem dc_L_law_848 : decode cd_L_law 848 = .ok (.iaload, 1) := by decide +kernel
theorem dc_L_law_849 : decode cd_L_law 849 = .ok (.aload_n 0, 1) := by decide +kernel
theorem dc_L_law_850 : decode cd_L_law 850 = .ok (.iload 4, 2) := by decide +kernel
theorem dc_L_law_852 : decode cd_L_law 852 = .ok (.iconst 2, 1) := by decide +kernel
theorem dc_L_law_853 : decode cd_L_law 853 = .ok (.iadd, 1) := by decide +kernel
theorem dc_L_law_854 : decode cd_L_law 854 = .ok (.iaload, 1) := by decide +kernel
theorem dc_L_law_855 : decode cd_L_law 855 = .ok (.aload_n 3, 1) := by decide +kernel
theorem dc_L_law_856 : decode cd_L_law 856 = .ok (.invokestatic 104, 3) := by decide +kernel
theorem dc_L_law_859 : decode cd_L_law 859 = .ok (.istore 5, 2) := by decide +kernel
theorem dc_L_law_861 : decode cd_L_law 861 = .ok (.aload_n 2, 1) := by decide +kernel
theorem dc_L_law_862 : decode cd_L_law 862 = .ok (.aload_n 0, 1) := by decide +kernel
theorem dc_L_law_863 : decode cd_L_law 863 = .ok (.iload 4, 2) := by decide +kernel
theorem dc_L_law_865 : decode cd_L_law 865 = .ok (.iconst 1, 1) := by decide +kernel
theorem dc_L_law_866 : decode cd_L_law 866 = .ok (.iadd, 1) := by decide +kernel
theorem dc_L_law_867 : decode cd_L_law 867 = .ok (.iaload, 1) := by decide +kernel
theorem dc_L_law_868 : decode cd_L_law 868 = .ok (.aload_n 0, 1) := by decide +kernel
theorem dc_L_law_869 : decode cd_L_law 869 = .ok (.iload 4, 2) := by decide +kernel
theorem dc_L_law_871 : decode cd_L_law 871 = .ok (.iconst 2, 1) := by decide +kernel
theorem dc_L_law_872 : decode cd_L_law 872 = .ok (.iadd, 1) := by decide +kernel
theorem dc_L_law_873 : decode cd_L_law 873 = .ok (.iaload, 1) := by decide +kernel
theorem dc_L_law_874 : decode cd_L_law 874 = .ok (.invokevirtual 106, 3) := by decide +kernel
theorem dc_L_law_877 : decode cd_L_law 877 = .ok (.istore 6, 2) := by decide +kernel
theorem dc_L_law_879 : decode cd_L_law 879 = .ok (.aload_n 2, 1) := by decide +kernel
theorem dc_L_law_880 : decode cd_L_law 880 = .ok (.invokevirtual 67, 3) := by decide +kernel
theorem dc_L_law_883 : decode cd_L_law 883 = .ok (.iload 5, 2) := by decide +kernel
theorem dc_L_law_885 : decode cd_L_law 885 = .ok (.if_icmp .eq 5, 3) := by decide +kernel
theorem dc_L_law_888 : decode cd_L_law 888 = .ok (.iconst 0, 1) := by decide +kernel
theorem dc_L_law_889 : decode cd_L_law 889 = .ok (.ireturn, 1) := by decide +kernel
theorem dc_L_law_890 : decode cd_L_law 890 = .ok (.iload 5, 2) := by decide +kernel
theorem dc_L_law_892 : decode cd_L_law 892 = .ok (.ifCond .ne 15, 3) := by decide +kernel
theorem dc_L_law_895 : decode cd_L_law 895 = .ok (.aload_n 3, 1) := by decide +kernel
theorem dc_L_law_896 : decode cd_L_law 896 = .ok (.iconst 0, 1) := by decide +kernel
theorem dc_L_law_897 : decode cd_L_law 897 = .ok (.laload, 1) := by decide +kernel
theorem dc_L_law_898 : decode cd_L_law 898 = .ok (.iload 6, 2) := by decide +kernel
theorem dc_L_law_900 : decode cd_L_law 900 = .ok (.i2l, 1) := by decide +kernel
theorem dc_L_law_901 : decode cd_L_law 901 = .ok (.lcmp, 1) := by decide +kernel
theorem dc_L_law_902 : decode cd_L_law 902 = .ok (.ifCond .eq 5, 3) := by decide +kernel
theorem dc_L_law_905 : decode cd_L_law 905 = .ok (.iconst 0, 1) := by decide +kernel
theorem dc_L_law_906 : decode cd_L_law 906 = .ok (.ireturn, 1) := by decide +kernel
theorem dc_L_law_907 : decode cd_L_law 907 = .ok (.goto 28, 3) := by decide +kernel
theorem dc_L_law_910 : decode cd_L_law 910 = .ok (.aload_n 1, 1) := by decide +kernel
theorem dc_L_law_911 : decode cd_L_law 911 = .ok (.aload_n 0, 1) := by decide +kernel
theorem dc_L_law_912 : decode cd_L_law 912 = .ok (.iload 4, 2) := by decide +kernel
theorem dc_L_law_914 : decode cd_L_law 914 = .ok (.iconst 1, 1) := by decide +kernel
theorem dc_L_law_915 : decode cd_L_law 915 = .ok (.iadd, 1) := by decide +kernel
theorem dc_L_law_916 : decode cd_L_law 916 = .ok (.iaload, 1) := by decide +kernel
theorem dc_L_law_917 : decode cd_L_law 917 = .ok (.invokevirtual 107, 3) := by decide +kernel
theorem dc_L_law_920 : decode cd_L_law 920 = .ok (.aload_n 2, 1) := by decide +kernel
theorem dc_L_law_921 : decode cd_L_law 921 = .ok (.aload_n 0, 1) := by decide +kernel
theorem dc_L_law_922 : decode cd_L_law 922 = .ok (.iload 4, 2) := by decide +kernel
theorem dc_L_law_924 : decode cd_L_law 924 = .ok (.iconst 1, 1) := by decide +kernel
theorem dc_L_law_925 : decode cd_L_law 925 = .ok (.iadd, 1) := by decide +kernel
theorem dc_L_law_926 : decode cd_L_law 926 = .ok (.iaload, 1) := by decide +kernel
theorem dc_L_law_927 : decode cd_L_law 927 = .ok (.invokevirtual 110, 3) := by decide +kernel
theorem dc_L_law_930 : decode cd_L_law 930 = .ok (.if_icmp .eq 5, 3) := by decide +kernel
theorem dc_L_law_933 : decode cd_L_law 933 = .ok (.iconst 0, 1) := by decide +kernel
theorem dc_L_law_934 : decode cd_L_law 934 = .ok (.ireturn, 1) := by decide +kernel
theorem dc_L_law_935 : decode cd_L_law 935 = .ok (.iinc 4 7, 3) := by decide +kernel
theorem dc_L_law_938 : decode cd_L_law 938 = .ok (.goto (-915), 3) := by decide +kernel
theorem dc_L_law_941 : decode cd_L_law 941 = .ok (.iconst 1, 1) := by decide +kernel
theorem dc_L_law_942 : decode cd_L_law 942 = .ok (.ireturn, 1) := by decide +kernel
end
section
section Found
/-- the heap above the base, by addresses -/
abbrev Hp : Type := Nat → Option va_E
def hs (h : Hp) (a : Nat) (x : va_E) : Hp := fun q => if q = a then some x else h q
theorem hs_eq (h : Hp) (a : Nat) (x : va_E) : hs h a x a = some x := if_pos rfl
theorem hs_ne {h : Hp} {a b : Nat} {x : va_E} (k : b ≠ a) : hs h a x b = h b := if_neg k
theorem hs_hs (h : Hp) (a : Nat) (x y : va_E) : hs (hs h a x) a y = hs h a y := by
  funext q
  unfold hs
  by_cases k : q = a
  · rw [if_pos k, if_pos k]
  · rw [if_neg k, if_neg k, if_neg k]
theorem hs_self {h : Hp} {a : Nat} {x : va_E} (k : h a = some x) : hs h a x = h := by
  funext q
  unfold hs
  by_cases z : q = a
  · rw [if_pos z, z, k]
  · rw [if_neg z]
theorem hs_comm (h : Hp) {a b : Nat} (x y : va_E) (k : a ≠ b) : hs (hs h a x) b y = hs (hs h b y) a x := by
  funext q
  unfold hs
  by_cases z : q = a
  · rw [if_pos z, if_neg (fun w => k (z.symm.trans w)), if_pos z]
  · rw [if_neg z, if_neg z]
/-- the real heap holds the base as it was, n cells above it, and what h says of them -/
def Rp (D : va_G) (G : Heap) (h : Hp) (n : Nat) (H : Heap) : Prop :=
  H.size = G.size + n ∧ (∀ q : Nat, q < G.size → H[q]? = G[q]?) ∧ ∀ (a : Nat) (x : va_E), h a = some x → G.size ≤ a ∧ va_at D clz (a, x) H
theorem Rp.lt {D : va_G} {G H : Heap} {h : Hp} {n a : Nat} {x : va_E} (r : Rp D G h n H) (k : h a = some x) : a < H.size := (r.2.2 a x k).2.lt
theorem Rp.lt2 {D : va_G} {G H : Heap} {h : Hp} {n a : Nat} {x : va_E} (r : Rp D G h n H) (k : h a = some x) : a < G.size + n := by rw [← r.1]; exact r.lt k
theorem Rp.put {D : va_G} {G H H1 : Heap} {h : Hp} {n a : Nat} {x y : va_E} (r : Rp D G h n H) (k : h a = some y) (z : H1.size = H.size) (oq : ∀ q : Nat, q ≠ a → H1[q]? = H[q]?) (w : va_at D clz (a, x) H1) : Rp D G (hs h a x) n H1 := by
  refine ⟨z.trans r.1, fun q hq => (oq q (fun e => ?_)).trans (r.2.1 q hq), fun b u hb => ?_⟩
  · have h1 := (r.2.2 a y k).1
    omega
  · by_cases hba : b = a
    · rw [hba, hs_eq] at hb
      cases hb
      rw [hba]
      exact ⟨(r.2.2 a y k).1, w⟩
    · rw [hs_ne hba] at hb
      exact ⟨(r.2.2 b u hb).1, (r.2.2 b u hb).2.kept (oq b hba)⟩
theorem Rp.new {D : va_G} {G H H1 : Heap} {h : Hp} {n : Nat} {x : va_E} (r : Rp D G h n H) (z : H1.size = H.size + 1) (oq : ∀ q : Nat, q < H.size → H1[q]? = H[q]?) (w : va_at D clz (H.size, x) H1) : Rp D G (hs h (G.size + n) x) (n + 1) H1 := by
  have hz := r.1
  refine ⟨by omega, fun q hq => (oq q (by omega)).trans (r.2.1 q hq), fun b u hb => ?_⟩
  by_cases hba : b = G.size + n
  · rw [hba, hs_eq] at hb
    cases hb
    rw [hba, ← hz]
    exact ⟨by omega, w⟩
  · rw [hs_ne hba] at hb
    exact ⟨(r.2.2 b u hb).1, (r.2.2 b u hb).2.kept (oq b (r.lt hb))⟩
theorem Rp.fresh {D : va_G} {G H : Heap} {h : Hp} {n : Nat} (r : Rp D G h n H) : ∀ k, n ≤ k → h (G.size + k) = none := by
  intro k hk
  cases hx : h (G.size + k) with
  | none => rfl
  | some x =>
    have h1 := r.lt2 hx
    omega
theorem Rp.grow {D : va_G} {G H H1 : Heap} {h : Hp} {n : Nat} (r : Rp D G h n H) (z : H.size ≤ H1.size) (oq : ∀ q : Nat, q < H.size → H1[q]? = H[q]?) : ∃ k, n ≤ k ∧ Rp D G h k H1 := by
  have hz := r.1
  exact ⟨H1.size - G.size, by omega, by omega, fun q hq => (oq q (by omega)).trans (r.2.1 q hq), fun b u hb => ⟨(r.2.2 b u hb).1, (r.2.2 b u hb).2.kept (oq b (r.lt hb))⟩⟩
/-- the texts that the class throws with -/
def strl : List (String × Nat × String) := [("SerialBus", 225, "no such node"), ("SerialBus", 228, "no such port"), ("SerialBus", 43, "a cable joins different nodes"), ("SerialBus", 54, "a port is not free"), ("SerialBus", 68, "the port is free"), ("SerialBus", 232, "no such word"), ("SerialBus", 90, "no such work"), ("SerialBus", 96, "all labels wait"), ("SerialBus", 110, "the queue is full"), ("SerialBus", 129, "no such channel"), ("SerialBus", 131, "no such bandwidth"), ("SerialBus", 139, "no such time"), ("SerialBus", 141, "no such number of ticks"), ("SerialBus", 230, "no such label"), ("SerialBus", 156, "the label is free"), ("SerialBus", 161, "the label is free or waits"), ("SerialBus", 163, "the request was not done"), ("SerialBus", 199, "nothing is told about that")]
def ncl : List (String × String) := [("java/lang/IllegalArgumentException", "java/util/NoSuchElementException"), ("java/lang/IllegalStateException", "java/util/NoSuchElementException"), ("java/lang/IllegalStateException", "java/lang/IllegalArgumentException"), ("java/lang/UnsupportedOperationException", "java/util/NoSuchElementException"), ("java/lang/UnsupportedOperationException", "java/lang/IllegalArgumentException"), ("java/lang/UnsupportedOperationException", "java/lang/IllegalStateException")]
/-- the kinds of words that stay as the tables warm -/
def wk (w : Cond) : Bool := goodWord w || match w with
  | .fieldLinkNest _ _ _ _ _ _ => true
  | .methodLinkNest _ _ _ _ => true
  | .arrayOver (.object _) => true
  | .castable _ _ => true
  | .declares _ => true
  | _ => false
def tbl : List Cond := lw_tbl.filter wk
theorem wk_at {w : Cond} {a a' : Array Value} {s U : State} (k : wk w = true) (hW : s.WarmedH U.vm) (hb : w.before a s = true) : w.before a' U = true := by
  unfold wk at k
  rcases (Bool.or_eq_true _ _).mp k with h1 | h1
  · exact word_at hW (good_of_word h1) hb
  · match w, h1, hb with
    | .methodLinkNest _ _ _ _, _, hb => exact va_Nw.use rfl (va_Nw.warmM hW (va_Nw.of rfl hb))
    | .fieldLinkNest _ _ _ _ _ _, _, hb => exact va_Nw.use rfl (va_Nw.warmF hW (va_Nw.of rfl hb))
    | .arrayOver (.object C), _, hb => exact va_AO.use (va_AO.moved hW.alike (va_AO.of hb))
    | .castable _ _, _, hb => exact va_Nw.use rfl (va_Nw.warmC hW (va_Nw.of rfl hb))
    | .declares _, _, hb => exact va_Nw.use rfl (va_Nw.warmD hW (va_Nw.of rfl hb))
def tyz (A : Nat → ClassId) : List (ClassId × FieldType) := [(A 0, .int), (A 1, .boolean), (A 2, .long), (A 3, .object "SerialBus$Node"), (A 4, .object "SerialBus$Request")]
/-- what the tables say, at every state of the run -/
def Ev (D : va_G) (A : Nat → ClassId) (G : Heap) (U : State) : Prop :=
  (∀ w ∈ tbl, w.before #[] U = true) ∧ va_K D clz (tyz A) U ∧ (∀ q ∈ strl, ∃ a, vk_R q.1 q.2.1 q.2.2 a U) ∧ (∀ q ∈ ncl, va_Nc q.1 q.2 U) ∧
  vx_Zq Bundle.tN "UNASSIGNED_STACK" Bundle.steD (fun q => G.size ≤ q) U G ∧ vx_Zq Bundle.tN "SUPPRESSED_SENTINEL" Bundle.listD (fun q => G.size ≤ q) U G
theorem Ev.warm {D : va_G} {A : Nat → ClassId} {G : Heap} {s U : State} (v : Ev D A G s) (hW : s.WarmedH U.vm) : Ev D A G U := by
  obtain ⟨h1, h2, h3, h4, h5, h6⟩ := v
  refine ⟨fun w hw => wk_at (List.mem_filter.mp hw).2 hW (h1 w hw), va_K.moved hW.alike h2, fun q hq => ?_, fun q hq => ?_, h5.moved hW.alike, h6.moved hW.alike⟩
  · obtain ⟨a, ha⟩ := h3 q hq
    exact ⟨a, ha.warm hW⟩
  · obtain ⟨a, b, k1, k2, k3⟩ := h4 q hq
    exact ⟨a, b, by rw [hW.alike.findClass]; exact k1, by rw [hW.alike.findClass]; exact k2, by rw [hW.alike.assignable]; exact k3⟩
theorem Ev.w {D : va_G} {A : Nat → ClassId} {G : Heap} {s : State} (v : Ev D A G s) {w : Cond} (hw : w ∈ tbl) {a : Array Value} : w.before a s = true := wk_at (List.mem_filter.mp hw).2 (State.WarmedH.refl s) (v.1 w hw)
/-- what holds all through a method's body -/
def Cx (p : Program) (l : Launch) (s : State) (m : MethodId) (args : Array Value) (meth : Method) (c : Code) (D : va_G) (A : Nat → ClassId) (G : Heap) (cc : ByteArray) (nL : Nat) (own : String) : Prop :=
  p.tables.exec = Jvm.exec ∧ c.code = cc ∧ c.maxLocals = nL ∧ s.vm.findClass own = some m.cls ∧ Ev D A G s ∧ meth.locks = false ∧ (∀ q : Nat, q < G.size → s.heap[q]? = G[q]?) ∧ l.stackTraces = false
/-- the machine, at pc with these locals and this stack, the heap as h says, room for bc cells of bs slots, comes to a state with Q -/
def Rw (p : Program) (l : Launch) (e : Env) (R : Room) (s : State) (m : MethodId) (args : Array Value) (below : List Frame) (meth : Method) (c : Code) (Q : State → Prop) (D : va_G) (G : Heap) (nL : Nat) (bc bs : Nat) (h : Hp) (n : Nat) (lo : List (Nat × Value)) (pc : Nat) (st : List Value) : Prop :=
  ∀ (H : Heap) (ls : Array Slot) (locs : List Loc) (cells slots : Nat), Rp D G h n H → s.heap.size ≤ H.size → lv_has ls nL lo → (∀ q ∈ locs, G.size ≤ q.base) → cells + bc ≤ R.cells → slots + bs ≤ R.slots → W p l e R s m args below meth c H locs cells slots Q (F0 m pc ls st)
/-- the locals: read, written -/
def gl (lo : List (Nat × Value)) (i : Nat) : Option Value := match lo with
  | [] => none
  | q :: t => bif q.1 == i then some q.2 else gl t i
def nl (lo : List (Nat × Value)) (i : Nat) : Bool := match i with
  | 0 => true
  | j + 1 => match gl lo j with
    | some v => v.category == 1
    | none => lo.all (fun q => !(q.1 == j))
def sl (lo : List (Nat × Value)) (i : Nat) (v : Value) : List (Nat × Value) := match lo with
  | [] => [(i, v)]
  | q :: t => bif q.1 == i then (i, v) :: t.filter (fun x => !(x.1 == i)) else q :: sl t i v
def wl (lo : List (Nat × Value)) : List (Nat × Value) → Prop
  | [] => True
  | q :: t => gl lo q.1 = some q.2 ∧ wl lo t
theorem gl_in {lo : List (Nat × Value)} {i : Nat} {v : Value} (k : gl lo i = some v) : (i, v) ∈ lo := by
  induction lo with
  | nil => cases k
  | cons q t ih =>
    unfold gl at k
    by_cases z : q.1 = i
    · rw [show (q.1 == i) = true by simpa using z] at k
      simp at k
      rw [← z, ← k]
      exact List.mem_cons_self
    · rw [show (q.1 == i) = false by simpa using z] at k
      exact List.mem_cons_of_mem _ (ih k)
theorem wl_in {lo lo' : List (Nat × Value)} (k : wl lo lo') : ∀ q ∈ lo', q ∈ lo := by
  induction lo' with
  | nil => intro q hq; cases hq
  | cons x t ih =>
    intro q hq
    rcases List.mem_cons.mp hq with rfl | hq
    · exact gl_in k.1
    · exact ih k.2 q hq
end Found
end
section
section Rows
variable {p : Program} {l : Launch} {e : Env} {R : Room} {s : State} {m : MethodId} {args : Array Value} {below : List Frame} {meth : Method} {c : Code} {Q : State → Prop} {D : va_G} {A : Nat → ClassId} {G : Heap} {cc : ByteArray} {nL : Nat} {own : String} {bc bs : Nat} {h : Hp} {n : Nat} {lo : List (Nat × Value)} {pc : Nat} {st : List Value}
theorem gl_has {ls : Array Slot} {i : Nat} {v : Value} (hl : lv_has ls nL lo) (k : gl lo i = some v) : ls[i]? = some (.val v) := hl.2.2 (i, v) (gl_in k)
theorem sl_in {lo : List (Nat × Value)} {i : Nat} {v : Value} {q : Nat × Value} (hq : q ∈ sl lo i v) : q = (i, v) ∨ (q ∈ lo ∧ q.1 ≠ i) := by
  induction lo with
  | nil =>
    unfold sl at hq
    exact Or.inl (List.mem_singleton.mp hq)
  | cons x t ih =>
    unfold sl at hq
    by_cases z : x.1 = i
    · rw [show (x.1 == i) = true by simpa using z] at hq
      simp only [cond_true] at hq
      rcases List.mem_cons.mp hq with h1 | h1
      · exact Or.inl h1
      · obtain ⟨h2, h3⟩ := List.mem_filter.mp h1
        exact Or.inr ⟨List.mem_cons_of_mem _ h2, by simpa using h3⟩
    · rw [show (x.1 == i) = false by simpa using z] at hq
      simp only [cond_false] at hq
      rcases List.mem_cons.mp hq with h1 | h1
      · exact Or.inr ⟨by rw [h1]; exact List.mem_cons_self, by rw [h1]; exact z⟩
      · rcases ih h1 with h2 | h2
        · exact Or.inl h2
        · exact Or.inr ⟨List.mem_cons_of_mem _ h2.1, h2.2⟩
/-- no long stands just below place i -/
def nw (lo : List (Nat × Value)) (i : Nat) : Prop := ∀ q ∈ lo, q.1 + 1 = i → q.2.category = 1
theorem sl_has1 {ls' : Array Slot} {i : Nat} {v : Value} (hw : nw lo i) (k : lv_has ls' nL ((i, v) :: lo.filter (fun q => !(q.1 == i) && !(q.1 + 1 == i && q.2.category == 2)))) : lv_has ls' nL (sl lo i v) := by
  refine ⟨k.1, k.2.1, fun q hq => ?_⟩
  rcases sl_in hq with h1 | ⟨h1, h2⟩
  · exact k.2.2 q (by rw [h1]; exact List.mem_cons_self)
  · refine k.2.2 q (List.mem_cons_of_mem _ (List.mem_filter.mpr ⟨h1, ?_⟩))
    by_cases z : q.1 + 1 = i
    · rw [hw q h1 z]
      simp [h2]
    · simp [h2, z]
theorem nw_of {i : Nat} (hk : (lo.all (fun q => !(q.1 + 1 == i) || q.2.category == 1)) = true) : nw lo i := by
  intro q hq z
  have h1 := List.all_eq_true.mp hk q hq
  simp only [Bool.or_eq_true, Bool.not_eq_true', beq_eq_false_iff_ne, ne_eq, beq_iff_eq] at h1
  rcases h1 with h1 | h1
  · exact absurd z h1
  · exact h1
theorem r_weak {lo' : List (Nat × Value)} (hw : wl lo lo') (k : Rw p l e R s m args below meth c Q D G nL bc bs h n lo' pc st) : Rw p l e R s m args below meth c Q D G nL bc bs h n lo pc st :=
  fun H ls locs cells slots hR hz hl hf hc hs => k H ls locs cells slots hR hz ⟨hl.1, hl.2.1, fun q hq => hl.2.2 q (wl_in hw q hq)⟩ hf hc hs
theorem r_room {bc' bs' : Nat} (h1 : bc' ≤ bc) (h2 : bs' ≤ bs) (k : Rw p l e R s m args below meth c Q D G nL bc' bs' h n lo pc st) : Rw p l e R s m args below meth c Q D G nL bc bs h n lo pc st :=
  fun H ls locs cells slots hR hz hl hf hc hs => k H ls locs cells slots hR hz hl hf (by omega) (by omega)
/-- what the heap holds, told to the rest -/
theorem r_fresh (k : (∀ j, n ≤ j → h (G.size + j) = none) → (∀ a x, h a = some x → G.size ≤ a ∧ a < G.size + n) → Rw p l e R s m args below meth c Q D G nL bc bs h n lo pc st) : Rw p l e R s m args below meth c Q D G nL bc bs h n lo pc st :=
  fun H ls locs cells slots hR hz hl hf hc hs => k hR.fresh (fun a x hx => ⟨(hR.2.2 a x hx).1, hR.lt2 hx⟩) H ls locs cells slots hR hz hl hf hc hs
theorem r_iconst (C : Cx p l s m args meth c D A G cc nL own) {j : Int} {v : Int32} (d : decode cc pc = .ok (.iconst j, 1)) (hv : Int32.ofInt j = v) (k : Rw p l e R s m args below meth c Q D G nL bc bs h n lo (pc + 1) (.int v :: st)) : Rw p l e R s m args below meth c Q D G nL bc bs h n lo pc st :=
  fun H ls locs cells slots hR hz hl hf hc hs => lv_iconst C.1 C.2.1 d hv (k H ls locs cells slots hR hz hl hf hc hs)
theorem r_bipush (C : Cx p l s m args meth c D A G cc nL own) {j : Int} {v : Int32} (d : decode cc pc = .ok (.bipush j, 2)) (hv : (Int8.ofInt j).toInt32 = v) (k : Rw p l e R s m args below meth c Q D G nL bc bs h n lo (pc + 2) (.int v :: st)) : Rw p l e R s m args below meth c Q D G nL bc bs h n lo pc st :=
  fun H ls locs cells slots hR hz hl hf hc hs => lv_bipush C.1 C.2.1 d hv (k H ls locs cells slots hR hz hl hf hc hs)
theorem r_sipush (C : Cx p l s m args meth c D A G cc nL own) {j : Int} {v : Int32} (d : decode cc pc = .ok (.sipush j, 3)) (hv : (Int16.ofInt j).toInt32 = v) (k : Rw p l e R s m args below meth c Q D G nL bc bs h n lo (pc + 3) (.int v :: st)) : Rw p l e R s m args below meth c Q D G nL bc bs h n lo pc st :=
  fun H ls locs cells slots hR hz hl hf hc hs => lv_sipush C.1 C.2.1 d hv (k H ls locs cells slots hR hz hl hf hc hs)
theorem r_lconst (C : Cx p l s m args meth c D A G cc nL own) {j : Fin 2} {v : Int64} (d : decode cc pc = .ok (.lconst j, 1)) (hv : Int64.ofNat (j : Nat) = v) (k : Rw p l e R s m args below meth c Q D G nL bc bs h n lo (pc + 1) (.long v :: st)) : Rw p l e R s m args below meth c Q D G nL bc bs h n lo pc st :=
  fun H ls locs cells slots hR hz hl hf hc hs => lv_lconst C.1 C.2.1 d hv (k H ls locs cells slots hR hz hl hf hc hs)
theorem r_null (C : Cx p l s m args meth c D A G cc nL own) (d : decode cc pc = .ok (.aconst_null, 1)) (k : Rw p l e R s m args below meth c Q D G nL bc bs h n lo (pc + 1) (.null :: st)) : Rw p l e R s m args below meth c Q D G nL bc bs h n lo pc st :=
  fun H ls locs cells slots hR hz hl hf hc hs => lv_null C.1 C.2.1 d (k H ls locs cells slots hR hz hl hf hc hs)
theorem r_iload_n (C : Cx p l s m args meth c D A G cc nL own) {j : Fin 4} {i : Nat} {x : Int32} (d : decode cc pc = .ok (.iload_n j, 1)) (hi : (j : Nat) = i) (hg : gl lo i = some (.int x)) (k : Rw p l e R s m args below meth c Q D G nL bc bs h n lo (pc + 1) (.int x :: st)) : Rw p l e R s m args below meth c Q D G nL bc bs h n lo pc st :=
  fun H ls locs cells slots hR hz hl hf hc hs => lv_iload_n C.1 C.2.1 d hi (gl_has hl hg) (k H ls locs cells slots hR hz hl hf hc hs)
theorem r_iload (C : Cx p l s m args meth c D A G cc nL own) {i : Nat} {x : Int32} (d : decode cc pc = .ok (.iload i, 2)) (hg : gl lo i = some (.int x)) (k : Rw p l e R s m args below meth c Q D G nL bc bs h n lo (pc + 2) (.int x :: st)) : Rw p l e R s m args below meth c Q D G nL bc bs h n lo pc st :=
  fun H ls locs cells slots hR hz hl hf hc hs => lv_iload C.1 C.2.1 d (gl_has hl hg) (k H ls locs cells slots hR hz hl hf hc hs)
theorem r_lload_n (C : Cx p l s m args meth c D A G cc nL own) {j : Fin 4} {i : Nat} {x : Int64} (d : decode cc pc = .ok (.lload_n j, 1)) (hi : (j : Nat) = i) (hg : gl lo i = some (.long x)) (k : Rw p l e R s m args below meth c Q D G nL bc bs h n lo (pc + 1) (.long x :: st)) : Rw p l e R s m args below meth c Q D G nL bc bs h n lo pc st :=
  fun H ls locs cells slots hR hz hl hf hc hs => lv_lload_n C.1 C.2.1 d hi (gl_has hl hg) (k H ls locs cells slots hR hz hl hf hc hs)
theorem r_lload (C : Cx p l s m args meth c D A G cc nL own) {i : Nat} {x : Int64} (d : decode cc pc = .ok (.lload i, 2)) (hg : gl lo i = some (.long x)) (k : Rw p l e R s m args below meth c Q D G nL bc bs h n lo (pc + 2) (.long x :: st)) : Rw p l e R s m args below meth c Q D G nL bc bs h n lo pc st :=
  fun H ls locs cells slots hR hz hl hf hc hs => lv_lload C.1 C.2.1 d (gl_has hl hg) (k H ls locs cells slots hR hz hl hf hc hs)
theorem r_aload_n (C : Cx p l s m args meth c D A G cc nL own) {j : Fin 4} {i : Nat} {x : Nat} (d : decode cc pc = .ok (.aload_n j, 1)) (hi : (j : Nat) = i) (hg : gl lo i = some (.ref x)) (k : Rw p l e R s m args below meth c Q D G nL bc bs h n lo (pc + 1) (.ref x :: st)) : Rw p l e R s m args below meth c Q D G nL bc bs h n lo pc st :=
  fun H ls locs cells slots hR hz hl hf hc hs => lv_aload_n C.1 C.2.1 d hi (gl_has hl hg) (k H ls locs cells slots hR hz hl hf hc hs)
theorem r_aload (C : Cx p l s m args meth c D A G cc nL own) {i : Nat} {x : Nat} (d : decode cc pc = .ok (.aload i, 2)) (hg : gl lo i = some (.ref x)) (k : Rw p l e R s m args below meth c Q D G nL bc bs h n lo (pc + 2) (.ref x :: st)) : Rw p l e R s m args below meth c Q D G nL bc bs h n lo pc st :=
  fun H ls locs cells slots hR hz hl hf hc hs => lv_aload C.1 C.2.1 d (gl_has hl hg) (k H ls locs cells slots hR hz hl hf hc hs)
theorem r_aload_nq (C : Cx p l s m args meth c D A G cc nL own) {j : Fin 4} {i : Nat} {r : Option Nat} (d : decode cc pc = .ok (.aload_n j, 1)) (hi : (j : Nat) = i) (hg : gl lo i = some (va_rf r)) (k : Rw p l e R s m args below meth c Q D G nL bc bs h n lo (pc + 1) (va_rf r :: st)) : Rw p l e R s m args below meth c Q D G nL bc bs h n lo pc st := by
  cases r with
  | none => exact fun H ls locs cells slots hR hz hl hf hc hs => lv_aload_nN C.1 C.2.1 d hi (gl_has hl hg) (k H ls locs cells slots hR hz hl hf hc hs)
  | some a => exact fun H ls locs cells slots hR hz hl hf hc hs => lv_aload_n C.1 C.2.1 d hi (gl_has hl hg) (k H ls locs cells slots hR hz hl hf hc hs)
theorem r_aloadq (C : Cx p l s m args meth c D A G cc nL own) {i : Nat} {r : Option Nat} (d : decode cc pc = .ok (.aload i, 2)) (hg : gl lo i = some (va_rf r)) (k : Rw p l e R s m args below meth c Q D G nL bc bs h n lo (pc + 2) (va_rf r :: st)) : Rw p l e R s m args below meth c Q D G nL bc bs h n lo pc st := by
  cases r with
  | none => exact fun H ls locs cells slots hR hz hl hf hc hs => lv_aloadN C.1 C.2.1 d (gl_has hl hg) (k H ls locs cells slots hR hz hl hf hc hs)
  | some a => exact fun H ls locs cells slots hR hz hl hf hc hs => lv_aload C.1 C.2.1 d (gl_has hl hg) (k H ls locs cells slots hR hz hl hf hc hs)
theorem r_istore_n (C : Cx p l s m args meth c D A G cc nL own) {j : Fin 4} {i : Nat} {x : Int32} (d : decode cc pc = .ok (.istore_n j, 1)) (hi : (j : Nat) = i) (hn : i < nL) (hw : nw lo i) (k : Rw p l e R s m args below meth c Q D G nL bc bs h n (sl lo i (.int x)) (pc + 1) st) : Rw p l e R s m args below meth c Q D G nL bc bs h n lo pc (.int x :: st) :=
  fun H ls locs cells slots hR hz hl hf hc hs => lv_istore_n C.1 C.2.1 d hi hl hn rfl (fun ls' hl' => k H ls' locs cells slots hR hz (sl_has1 hw hl') hf hc hs)
theorem r_istore (C : Cx p l s m args meth c D A G cc nL own) {i : Nat} {x : Int32} (d : decode cc pc = .ok (.istore i, 2)) (hn : i < nL) (hw : nw lo i) (k : Rw p l e R s m args below meth c Q D G nL bc bs h n (sl lo i (.int x)) (pc + 2) st) : Rw p l e R s m args below meth c Q D G nL bc bs h n lo pc (.int x :: st) :=
  fun H ls locs cells slots hR hz hl hf hc hs => lv_istore C.1 C.2.1 d hl hn rfl (fun ls' hl' => k H ls' locs cells slots hR hz (sl_has1 hw hl') hf hc hs)
theorem r_astore_n (C : Cx p l s m args meth c D A G cc nL own) {j : Fin 4} {i : Nat} {x : Nat} (d : decode cc pc = .ok (.astore_n j, 1)) (hi : (j : Nat) = i) (hn : i < nL) (hw : nw lo i) (k : Rw p l e R s m args below meth c Q D G nL bc bs h n (sl lo i (.ref x)) (pc + 1) st) : Rw p l e R s m args below meth c Q D G nL bc bs h n lo pc (.ref x :: st) :=
  fun H ls locs cells slots hR hz hl hf hc hs => lv_astore_n C.1 C.2.1 d hi hl hn rfl (fun ls' hl' => k H ls' locs cells slots hR hz (sl_has1 hw hl') hf hc hs)
theorem r_astore (C : Cx p l s m args meth c D A G cc nL own) {i : Nat} {x : Nat} (d : decode cc pc = .ok (.astore i, 2)) (hn : i < nL) (hw : nw lo i) (k : Rw p l e R s m args below meth c Q D G nL bc bs h n (sl lo i (.ref x)) (pc + 2) st) : Rw p l e R s m args below meth c Q D G nL bc bs h n lo pc (.ref x :: st) :=
  fun H ls locs cells slots hR hz hl hf hc hs => lv_astore C.1 C.2.1 d hl hn rfl (fun ls' hl' => k H ls' locs cells slots hR hz (sl_has1 hw hl') hf hc hs)
theorem r_astore_nN (C : Cx p l s m args meth c D A G cc nL own) {j : Fin 4} {i : Nat} (d : decode cc pc = .ok (.astore_n j, 1)) (hi : (j : Nat) = i) (hn : i < nL) (hw : nw lo i) (k : Rw p l e R s m args below meth c Q D G nL bc bs h n (sl lo i .null) (pc + 1) st) : Rw p l e R s m args below meth c Q D G nL bc bs h n lo pc (.null :: st) :=
  fun H ls locs cells slots hR hz hl hf hc hs => lv_astore_nN C.1 C.2.1 d hi hl hn rfl (fun ls' hl' => k H ls' locs cells slots hR hz (sl_has1 hw hl') hf hc hs)
theorem r_astoreN (C : Cx p l s m args meth c D A G cc nL own) {i : Nat} (d : decode cc pc = .ok (.astore i, 2)) (hn : i < nL) (hw : nw lo i) (k : Rw p l e R s m args below meth c Q D G nL bc bs h n (sl lo i .null) (pc + 2) st) : Rw p l e R s m args below meth c Q D G nL bc bs h n lo pc (.null :: st) :=
  fun H ls locs cells slots hR hz hl hf hc hs => lv_astoreN C.1 C.2.1 d hl hn rfl (fun ls' hl' => k H ls' locs cells slots hR hz (sl_has1 hw hl') hf hc hs)
theorem r_astore_nq (C : Cx p l s m args meth c D A G cc nL own) {j : Fin 4} {i : Nat} {r : Option Nat} (d : decode cc pc = .ok (.astore_n j, 1)) (hi : (j : Nat) = i) (hn : i < nL) (hw : nw lo i) (k : Rw p l e R s m args below meth c Q D G nL bc bs h n (sl lo i (va_rf r)) (pc + 1) st) : Rw p l e R s m args below meth c Q D G nL bc bs h n lo pc (va_rf r :: st) := by
  cases r with
  | none => exact r_astore_nN C d hi hn hw k
  | some a => exact r_astore_n C d hi hn hw k
theorem r_astoreq (C : Cx p l s m args meth c D A G cc nL own) {i : Nat} {r : Option Nat} (d : decode cc pc = .ok (.astore i, 2)) (hn : i < nL) (hw : nw lo i) (k : Rw p l e R s m args below meth c Q D G nL bc bs h n (sl lo i (va_rf r)) (pc + 2) st) : Rw p l e R s m args below meth c Q D G nL bc bs h n lo pc (va_rf r :: st) := by
  cases r with
  | none => exact r_astoreN C d hn hw k
  | some a => exact r_astore C d hn hw k
theorem r_iinc (C : Cx p l s m args meth c D A G cc nL own) {i : Nat} {j : Int} {x v : Int32} (d : decode cc pc = .ok (.iinc i j, 3)) (hg : gl lo i = some (.int x)) (hv : x + Int32.ofInt j = v) (hn : i < nL) (hw : nw lo i) (k : Rw p l e R s m args below meth c Q D G nL bc bs h n (sl lo i (.int v)) (pc + 3) st) : Rw p l e R s m args below meth c Q D G nL bc bs h n lo pc st := by
  intro H ls locs cells slots hR hz hl hf hc hs
  obtain ⟨q, hq⟩ := List.getElem?_of_mem (gl_in hg)
  exact lv_iinc C.1 C.2.1 d hl (k := q) hq hv hn rfl (fun ls' hl' => k H ls' locs cells slots hR hz (sl_has1 hw hl') hf hc hs)
def sl2 (lo : List (Nat × Value)) (i : Nat) (v : Value) : List (Nat × Value) := (i, v) :: lo.filter (fun q => !(q.1 == i) && (!(q.1 == i + 1) && !(q.1 + 1 == i && q.2.category == 2)))
theorem r_lstore_n (C : Cx p l s m args meth c D A G cc nL own) {j : Fin 4} {i : Nat} {x : Int64} (d : decode cc pc = .ok (.lstore_n j, 1)) (hi : (j : Nat) = i) (hn : i + 1 < nL) (k : Rw p l e R s m args below meth c Q D G nL bc bs h n (sl2 lo i (.long x)) (pc + 1) st) : Rw p l e R s m args below meth c Q D G nL bc bs h n lo pc (.long x :: st) :=
  fun H ls locs cells slots hR hz hl hf hc hs => lv_lstore_n C.1 C.2.1 d hi hl hn rfl (fun ls' hl' => k H ls' locs cells slots hR hz hl' hf hc hs)
theorem r_lstore (C : Cx p l s m args meth c D A G cc nL own) {i : Nat} {x : Int64} (d : decode cc pc = .ok (.lstore i, 2)) (hn : i + 1 < nL) (k : Rw p l e R s m args below meth c Q D G nL bc bs h n (sl2 lo i (.long x)) (pc + 2) st) : Rw p l e R s m args below meth c Q D G nL bc bs h n lo pc (.long x :: st) :=
  fun H ls locs cells slots hR hz hl hf hc hs => lv_lstore C.1 C.2.1 d hl hn rfl (fun ls' hl' => k H ls' locs cells slots hR hz hl' hf hc hs)
theorem r_iadd (C : Cx p l s m args meth c D A G cc nL own) {x y : Int32} (d : decode cc pc = .ok (.iadd, 1)) (k : Rw p l e R s m args below meth c Q D G nL bc bs h n lo (pc + 1) (.int (x + y) :: st)) : Rw p l e R s m args below meth c Q D G nL bc bs h n lo pc (.int y :: .int x :: st) :=
  fun H ls locs cells slots hR hz hl hf hc hs => lv_iadd C.1 C.2.1 d (k H ls locs cells slots hR hz hl hf hc hs)
theorem r_isub (C : Cx p l s m args meth c D A G cc nL own) {x y : Int32} (d : decode cc pc = .ok (.isub, 1)) (k : Rw p l e R s m args below meth c Q D G nL bc bs h n lo (pc + 1) (.int (x - y) :: st)) : Rw p l e R s m args below meth c Q D G nL bc bs h n lo pc (.int y :: .int x :: st) :=
  fun H ls locs cells slots hR hz hl hf hc hs => lv_isub C.1 C.2.1 d (k H ls locs cells slots hR hz hl hf hc hs)
theorem r_imul (C : Cx p l s m args meth c D A G cc nL own) {x y : Int32} (d : decode cc pc = .ok (.imul, 1)) (k : Rw p l e R s m args below meth c Q D G nL bc bs h n lo (pc + 1) (.int (x * y) :: st)) : Rw p l e R s m args below meth c Q D G nL bc bs h n lo pc (.int y :: .int x :: st) :=
  fun H ls locs cells slots hR hz hl hf hc hs => lv_imul C.1 C.2.1 d (k H ls locs cells slots hR hz hl hf hc hs)
theorem r_iand (C : Cx p l s m args meth c D A G cc nL own) {x y : Int32} (d : decode cc pc = .ok (.iand, 1)) (k : Rw p l e R s m args below meth c Q D G nL bc bs h n lo (pc + 1) (.int (x &&& y) :: st)) : Rw p l e R s m args below meth c Q D G nL bc bs h n lo pc (.int y :: .int x :: st) :=
  fun H ls locs cells slots hR hz hl hf hc hs => lv_iand C.1 C.2.1 d (k H ls locs cells slots hR hz hl hf hc hs)
theorem r_idiv (C : Cx p l s m args meth c D A G cc nL own) {x y : Int32} (d : decode cc pc = .ok (.idiv, 1)) (hne : ¬ y = 0) (k : Rw p l e R s m args below meth c Q D G nL bc bs h n lo (pc + 1) (.int (x / y) :: st)) : Rw p l e R s m args below meth c Q D G nL bc bs h n lo pc (.int y :: .int x :: st) :=
  fun H ls locs cells slots hR hz hl hf hc hs => lv_idiv C.1 C.2.1 d hne (k H ls locs cells slots hR hz hl hf hc hs)
theorem r_irem (C : Cx p l s m args meth c D A G cc nL own) {x y : Int32} (d : decode cc pc = .ok (.irem, 1)) (hne : ¬ y = 0) (k : Rw p l e R s m args below meth c Q D G nL bc bs h n lo (pc + 1) (.int (x - x / y * y) :: st)) : Rw p l e R s m args below meth c Q D G nL bc bs h n lo pc (.int y :: .int x :: st) :=
  fun H ls locs cells slots hR hz hl hf hc hs => lv_irem C.1 C.2.1 d hne (k H ls locs cells slots hR hz hl hf hc hs)
theorem r_ishr (C : Cx p l s m args meth c D A G cc nL own) {x y : Int32} (d : decode cc pc = .ok (.ishr, 1)) (k : Rw p l e R s m args below meth c Q D G nL bc bs h n lo (pc + 1) (.int (x >>> (y &&& 31)) :: st)) : Rw p l e R s m args below meth c Q D G nL bc bs h n lo pc (.int y :: .int x :: st) :=
  fun H ls locs cells slots hR hz hl hf hc hs => lv_ishr C.1 C.2.1 d (k H ls locs cells slots hR hz hl hf hc hs)
theorem r_ladd (C : Cx p l s m args meth c D A G cc nL own) {x y : Int64} (d : decode cc pc = .ok (.ladd, 1)) (k : Rw p l e R s m args below meth c Q D G nL bc bs h n lo (pc + 1) (.long (x + y) :: st)) : Rw p l e R s m args below meth c Q D G nL bc bs h n lo pc (.long y :: .long x :: st) :=
  fun H ls locs cells slots hR hz hl hf hc hs => lv_ladd C.1 C.2.1 d (k H ls locs cells slots hR hz hl hf hc hs)
theorem r_lsub (C : Cx p l s m args meth c D A G cc nL own) {x y : Int64} (d : decode cc pc = .ok (.lsub, 1)) (k : Rw p l e R s m args below meth c Q D G nL bc bs h n lo (pc + 1) (.long (x - y) :: st)) : Rw p l e R s m args below meth c Q D G nL bc bs h n lo pc (.long y :: .long x :: st) :=
  fun H ls locs cells slots hR hz hl hf hc hs => lv_lsub C.1 C.2.1 d (k H ls locs cells slots hR hz hl hf hc hs)
theorem r_i2l (C : Cx p l s m args meth c D A G cc nL own) {x : Int32} {v : Int64} (d : decode cc pc = .ok (.i2l, 1)) (hv : x.toInt64 = v) (k : Rw p l e R s m args below meth c Q D G nL bc bs h n lo (pc + 1) (.long v :: st)) : Rw p l e R s m args below meth c Q D G nL bc bs h n lo pc (.int x :: st) :=
  fun H ls locs cells slots hR hz hl hf hc hs => lv_i2l C.1 C.2.1 d hv (k H ls locs cells slots hR hz hl hf hc hs)
theorem r_dup (C : Cx p l s m args meth c D A G cc nL own) {a : Value} (d : decode cc pc = .ok (.dup, 1)) (h1 : a.category = 1) (k : Rw p l e R s m args below meth c Q D G nL bc bs h n lo (pc + 1) (a :: a :: st)) : Rw p l e R s m args below meth c Q D G nL bc bs h n lo pc (a :: st) :=
  fun H ls locs cells slots hR hz hl hf hc hs => lv_dup C.1 C.2.1 d h1 (k H ls locs cells slots hR hz hl hf hc hs)
theorem r_pop (C : Cx p l s m args meth c D A G cc nL own) {a : Value} (d : decode cc pc = .ok (.pop, 1)) (h1 : a.category = 1) (k : Rw p l e R s m args below meth c Q D G nL bc bs h n lo (pc + 1) st) : Rw p l e R s m args below meth c Q D G nL bc bs h n lo pc (a :: st) :=
  fun H ls locs cells slots hR hz hl hf hc hs => lv_pop C.1 C.2.1 d h1 (k H ls locs cells slots hR hz hl hf hc hs)
theorem r_dup_x2 (C : Cx p l s m args meth c D A G cc nL own) {a b f : Value} (d : decode cc pc = .ok (.dup_x2, 1)) (h1 : a.category = 1) (h2 : b.category = 1) (h3 : f.category = 1) (k : Rw p l e R s m args below meth c Q D G nL bc bs h n lo (pc + 1) (a :: b :: f :: a :: st)) : Rw p l e R s m args below meth c Q D G nL bc bs h n lo pc (a :: b :: f :: st) :=
  fun H ls locs cells slots hR hz hl hf hc hs => lv_dup_x2 C.1 C.2.1 d h1 h2 h3 (k H ls locs cells slots hR hz hl hf hc hs)
theorem r_dup2 (C : Cx p l s m args meth c D A G cc nL own) {a b : Value} (d : decode cc pc = .ok (.dup2, 1)) (h1 : a.category = 1) (h2 : b.category = 1) (k : Rw p l e R s m args below meth c Q D G nL bc bs h n lo (pc + 1) (a :: b :: a :: b :: st)) : Rw p l e R s m args below meth c Q D G nL bc bs h n lo pc (a :: b :: st) :=
  fun H ls locs cells slots hR hz hl hf hc hs => lv_dup2_11 C.1 C.2.1 d h1 h2 (k H ls locs cells slots hR hz hl hf hc hs)
theorem r_goto (C : Cx p l s m args meth c D A G cc nL own) {off : Int} {tgt : Nat} (d : decode cc pc = .ok (.goto off, 3)) (ht : (pc : Int) + off = (tgt : Int)) (k : Rw p l e R s m args below meth c Q D G nL bc bs h n lo tgt st) : Rw p l e R s m args below meth c Q D G nL bc bs h n lo pc st :=
  fun H ls locs cells slots hR hz hl hf hc hs => lv_goto C.1 C.2.1 d ht (k H ls locs cells slots hR hz hl hf hc hs)
theorem r_if_eq (C : Cx p l s m args meth c D A G cc nL own) {x : Int32} {off : Int} {tgt : Nat} (d : decode cc pc = .ok (.ifCond .eq off, 3)) (ht : (pc : Int) + off = (tgt : Int)) (kt : x = 0 → Rw p l e R s m args below meth c Q D G nL bc bs h n lo tgt st) (kf : ¬ x = 0 → Rw p l e R s m args below meth c Q D G nL bc bs h n lo (pc + 3) st) : Rw p l e R s m args below meth c Q D G nL bc bs h n lo pc (.int x :: st) :=
  fun H ls locs cells slots hR hz hl hf hc hs => lv_if_eq C.1 C.2.1 d ht (fun z => kt z H ls locs cells slots hR hz hl hf hc hs) (fun z => kf z H ls locs cells slots hR hz hl hf hc hs)
theorem r_icmp_eq (C : Cx p l s m args meth c D A G cc nL own) {x y : Int32} {off : Int} {tgt : Nat} (d : decode cc pc = .ok (.if_icmp .eq off, 3)) (ht : (pc : Int) + off = (tgt : Int)) (kt : x = y → Rw p l e R s m args below meth c Q D G nL bc bs h n lo tgt st) (kf : ¬ x = y → Rw p l e R s m args below meth c Q D G nL bc bs h n lo (pc + 3) st) : Rw p l e R s m args below meth c Q D G nL bc bs h n lo pc (.int y :: .int x :: st) :=
  fun H ls locs cells slots hR hz hl hf hc hs => lv_icmp_eq C.1 C.2.1 d ht (fun z => kt z H ls locs cells slots hR hz hl hf hc hs) (fun z => kf z H ls locs cells slots hR hz hl hf hc hs)
theorem r_if_ne (C : Cx p l s m args meth c D A G cc nL own) {x : Int32} {off : Int} {tgt : Nat} (d : decode cc pc = .ok (.ifCond .ne off, 3)) (ht : (pc : Int) + off = (tgt : Int)) (kt : ¬ x = 0 → Rw p l e R s m args below meth c Q D G nL bc bs h n lo tgt st) (kf : x = 0 → Rw p l e R s m args below meth c Q D G nL bc bs h n lo (pc + 3) st) : Rw p l e R s m args below meth c Q D G nL bc bs h n lo pc (.int x :: st) :=
  fun H ls locs cells slots hR hz hl hf hc hs => lv_if_ne C.1 C.2.1 d ht (fun z => kt z H ls locs cells slots hR hz hl hf hc hs) (fun z => kf z H ls locs cells slots hR hz hl hf hc hs)
theorem r_icmp_ne (C : Cx p l s m args meth c D A G cc nL own) {x y : Int32} {off : Int} {tgt : Nat} (d : decode cc pc = .ok (.if_icmp .ne off, 3)) (ht : (pc : Int) + off = (tgt : Int)) (kt : ¬ x = y → Rw p l e R s m args below meth c Q D G nL bc bs h n lo tgt st) (kf : x = y → Rw p l e R s m args below meth c Q D G nL bc bs h n lo (pc + 3) st) : Rw p l e R s m args below meth c Q D G nL bc bs h n lo pc (.int y :: .int x :: st) :=
  fun H ls locs cells slots hR hz hl hf hc hs => lv_icmp_ne C.1 C.2.1 d ht (fun z => kt z H ls locs cells slots hR hz hl hf hc hs) (fun z => kf z H ls locs cells slots hR hz hl hf hc hs)
theorem r_if_lt (C : Cx p l s m args meth c D A G cc nL own) {x : Int32} {off : Int} {tgt : Nat} (d : decode cc pc = .ok (.ifCond .lt off, 3)) (ht : (pc : Int) + off = (tgt : Int)) (kt : x < 0 → Rw p l e R s m args below meth c Q D G nL bc bs h n lo tgt st) (kf : ¬ x < 0 → Rw p l e R s m args below meth c Q D G nL bc bs h n lo (pc + 3) st) : Rw p l e R s m args below meth c Q D G nL bc bs h n lo pc (.int x :: st) :=
  fun H ls locs cells slots hR hz hl hf hc hs => lv_if_lt C.1 C.2.1 d ht (fun z => kt z H ls locs cells slots hR hz hl hf hc hs) (fun z => kf z H ls locs cells slots hR hz hl hf hc hs)
theorem r_icmp_lt (C : Cx p l s m args meth c D A G cc nL own) {x y : Int32} {off : Int} {tgt : Nat} (d : decode cc pc = .ok (.if_icmp .lt off, 3)) (ht : (pc : Int) + off = (tgt : Int)) (kt : x < y → Rw p l e R s m args below meth c Q D G nL bc bs h n lo tgt st) (kf : ¬ x < y → Rw p l e R s m args below meth c Q D G nL bc bs h n lo (pc + 3) st) : Rw p l e R s m args below meth c Q D G nL bc bs h n lo pc (.int y :: .int x :: st) :=
  fun H ls locs cells slots hR hz hl hf hc hs => lv_icmp_lt C.1 C.2.1 d ht (fun z => kt z H ls locs cells slots hR hz hl hf hc hs) (fun z => kf z H ls locs cells slots hR hz hl hf hc hs)
theorem r_if_ge (C : Cx p l s m args meth c D A G cc nL own) {x : Int32} {off : Int} {tgt : Nat} (d : decode cc pc = .ok (.ifCond .ge off, 3)) (ht : (pc : Int) + off = (tgt : Int)) (kt : 0 ≤ x → Rw p l e R s m args below meth c Q D G nL bc bs h n lo tgt st) (kf : ¬ 0 ≤ x → Rw p l e R s m args below meth c Q D G nL bc bs h n lo (pc + 3) st) : Rw p l e R s m args below meth c Q D G nL bc bs h n lo pc (.int x :: st) :=
  fun H ls locs cells slots hR hz hl hf hc hs => lv_if_ge C.1 C.2.1 d ht (fun z => kt z H ls locs cells slots hR hz hl hf hc hs) (fun z => kf z H ls locs cells slots hR hz hl hf hc hs)
theorem r_icmp_ge (C : Cx p l s m args meth c D A G cc nL own) {x y : Int32} {off : Int} {tgt : Nat} (d : decode cc pc = .ok (.if_icmp .ge off, 3)) (ht : (pc : Int) + off = (tgt : Int)) (kt : y ≤ x → Rw p l e R s m args below meth c Q D G nL bc bs h n lo tgt st) (kf : ¬ y ≤ x → Rw p l e R s m args below meth c Q D G nL bc bs h n lo (pc + 3) st) : Rw p l e R s m args below meth c Q D G nL bc bs h n lo pc (.int y :: .int x :: st) :=
  fun H ls locs cells slots hR hz hl hf hc hs => lv_icmp_ge C.1 C.2.1 d ht (fun z => kt z H ls locs cells slots hR hz hl hf hc hs) (fun z => kf z H ls locs cells slots hR hz hl hf hc hs)
theorem r_if_gt (C : Cx p l s m args meth c D A G cc nL own) {x : Int32} {off : Int} {tgt : Nat} (d : decode cc pc = .ok (.ifCond .gt off, 3)) (ht : (pc : Int) + off = (tgt : Int)) (kt : 0 < x → Rw p l e R s m args below meth c Q D G nL bc bs h n lo tgt st) (kf : ¬ 0 < x → Rw p l e R s m args below meth c Q D G nL bc bs h n lo (pc + 3) st) : Rw p l e R s m args below meth c Q D G nL bc bs h n lo pc (.int x :: st) :=
  fun H ls locs cells slots hR hz hl hf hc hs => lv_if_gt C.1 C.2.1 d ht (fun z => kt z H ls locs cells slots hR hz hl hf hc hs) (fun z => kf z H ls locs cells slots hR hz hl hf hc hs)
theorem r_icmp_gt (C : Cx p l s m args meth c D A G cc nL own) {x y : Int32} {off : Int} {tgt : Nat} (d : decode cc pc = .ok (.if_icmp .gt off, 3)) (ht : (pc : Int) + off = (tgt : Int)) (kt : y < x → Rw p l e R s m args below meth c Q D G nL bc bs h n lo tgt st) (kf : ¬ y < x → Rw p l e R s m args below meth c Q D G nL bc bs h n lo (pc + 3) st) : Rw p l e R s m args below meth c Q D G nL bc bs h n lo pc (.int y :: .int x :: st) :=
  fun H ls locs cells slots hR hz hl hf hc hs => lv_icmp_gt C.1 C.2.1 d ht (fun z => kt z H ls locs cells slots hR hz hl hf hc hs) (fun z => kf z H ls locs cells slots hR hz hl hf hc hs)
theorem r_if_le (C : Cx p l s m args meth c D A G cc nL own) {x : Int32} {off : Int} {tgt : Nat} (d : decode cc pc = .ok (.ifCond .le off, 3)) (ht : (pc : Int) + off = (tgt : Int)) (kt : x ≤ 0 → Rw p l e R s m args below meth c Q D G nL bc bs h n lo tgt st) (kf : ¬ x ≤ 0 → Rw p l e R s m args below meth c Q D G nL bc bs h n lo (pc + 3) st) : Rw p l e R s m args below meth c Q D G nL bc bs h n lo pc (.int x :: st) :=
  fun H ls locs cells slots hR hz hl hf hc hs => lv_if_le C.1 C.2.1 d ht (fun z => kt z H ls locs cells slots hR hz hl hf hc hs) (fun z => kf z H ls locs cells slots hR hz hl hf hc hs)
theorem r_icmp_le (C : Cx p l s m args meth c D A G cc nL own) {x y : Int32} {off : Int} {tgt : Nat} (d : decode cc pc = .ok (.if_icmp .le off, 3)) (ht : (pc : Int) + off = (tgt : Int)) (kt : x ≤ y → Rw p l e R s m args below meth c Q D G nL bc bs h n lo tgt st) (kf : ¬ x ≤ y → Rw p l e R s m args below meth c Q D G nL bc bs h n lo (pc + 3) st) : Rw p l e R s m args below meth c Q D G nL bc bs h n lo pc (.int y :: .int x :: st) :=
  fun H ls locs cells slots hR hz hl hf hc hs => lv_icmp_le C.1 C.2.1 d ht (fun z => kt z H ls locs cells slots hR hz hl hf hc hs) (fun z => kf z H ls locs cells slots hR hz hl hf hc hs)
theorem r_ifnull (C : Cx p l s m args meth c D A G cc nL own) {r : Option Nat} {off : Int} {tgt : Nat} (d : decode cc pc = .ok (.ifnull off, 3)) (ht : (pc : Int) + off = (tgt : Int)) (kt : r = none → Rw p l e R s m args below meth c Q D G nL bc bs h n lo tgt st) (kf : ∀ a, r = some a → Rw p l e R s m args below meth c Q D G nL bc bs h n lo (pc + 3) st) : Rw p l e R s m args below meth c Q D G nL bc bs h n lo pc (va_rf r :: st) := by
  cases r with
  | none => exact fun H ls locs cells slots hR hz hl hf hc hs => lv_ifnullN C.1 C.2.1 d ht (kt rfl H ls locs cells slots hR hz hl hf hc hs)
  | some a => exact fun H ls locs cells slots hR hz hl hf hc hs => lv_ifnull C.1 C.2.1 d (kf a rfl H ls locs cells slots hR hz hl hf hc hs)
theorem r_ifnonnull (C : Cx p l s m args meth c D A G cc nL own) {r : Option Nat} {off : Int} {tgt : Nat} (d : decode cc pc = .ok (.ifnonnull off, 3)) (ht : (pc : Int) + off = (tgt : Int)) (kt : ∀ a, r = some a → Rw p l e R s m args below meth c Q D G nL bc bs h n lo tgt st) (kf : r = none → Rw p l e R s m args below meth c Q D G nL bc bs h n lo (pc + 3) st) : Rw p l e R s m args below meth c Q D G nL bc bs h n lo pc (va_rf r :: st) := by
  cases r with
  | none => exact fun H ls locs cells slots hR hz hl hf hc hs => lv_ifnonnullN C.1 C.2.1 d (kf rfl H ls locs cells slots hR hz hl hf hc hs)
  | some a => exact fun H ls locs cells slots hR hz hl hf hc hs => lv_ifnonnull C.1 C.2.1 d ht (kt a rfl H ls locs cells slots hR hz hl hf hc hs)
theorem r_acmp_ne (C : Cx p l s m args meth c D A G cc nL own) {x y : Option Nat} {off : Int} {tgt : Nat} (d : decode cc pc = .ok (.if_acmp .ne off, 3)) (ht : (pc : Int) + off = (tgt : Int)) (kt : ¬ x = y → Rw p l e R s m args below meth c Q D G nL bc bs h n lo tgt st) (kf : x = y → Rw p l e R s m args below meth c Q D G nL bc bs h n lo (pc + 3) st) : Rw p l e R s m args below meth c Q D G nL bc bs h n lo pc (va_rf y :: va_rf x :: st) :=
  fun H ls locs cells slots hR hz hl hf hc hs => lv_acmp_ne C.1 C.2.1 d ht (fun z => kt z H ls locs cells slots hR hz hl hf hc hs) (fun z => kf z H ls locs cells slots hR hz hl hf hc hs)
theorem r_tableIn (C : Cx p l s m args meth c D A G cc nL own) {df i0 i1 : Int} {offs : Array Int} {ln : Nat} {x : Int32} {off : Int} {tgt : Nat} (d : decode cc pc = .ok (.tableswitch df i0 i1 offs, ln)) (h1 : ¬ x.toInt < i0) (h2 : ¬ i1 < x.toInt) (ho : offs[(x.toInt - i0).toNat]? = some off) (ht : (pc : Int) + off = (tgt : Int)) (k : Rw p l e R s m args below meth c Q D G nL bc bs h n lo tgt st) : Rw p l e R s m args below meth c Q D G nL bc bs h n lo pc (.int x :: st) :=
  fun H ls locs cells slots hR hz hl hf hc hs => lv_tableIn C.1 C.2.1 d h1 h2 ho ht (k H ls locs cells slots hR hz hl hf hc hs)
theorem r_tableOut (C : Cx p l s m args meth c D A G cc nL own) {df i0 i1 : Int} {offs : Array Int} {ln : Nat} {x : Int32} {tgt : Nat} (d : decode cc pc = .ok (.tableswitch df i0 i1 offs, ln)) (h1 : x.toInt < i0 ∨ i1 < x.toInt) (ht : (pc : Int) + df = (tgt : Int)) (k : Rw p l e R s m args below meth c Q D G nL bc bs h n lo tgt st) : Rw p l e R s m args below meth c Q D G nL bc bs h n lo pc (.int x :: st) :=
  fun H ls locs cells slots hR hz hl hf hc hs => lv_tableOut C.1 C.2.1 d h1 ht (k H ls locs cells slots hR hz hl hf hc hs)
end Rows
end
section
section Heap
variable {p : Program} {l : Launch} {e : Env} {R : Room} {s : State} {m : MethodId} {args : Array Value} {below : List Frame} {meth : Method} {c : Code} {Q : State → Prop} {D : va_G} {A : Nat → ClassId} {G : Heap} {cc : ByteArray} {nL : Nat} {own : String} {bc bs : Nat} {h : Hp} {n : Nat} {lo : List (Nat × Value)} {pc : Nat} {st : List Value}
/-- cells: an object, an int array, a boolean array, a long array, arrays of nodes and of requests -/
abbrev oc (ci : Nat) (fs : List Value) : va_E := .inr (ci, fs)
abbrev ic (A : Nat → ClassId) (k : Nat) (f : Nat → Int32) : va_E := .inl (A 0, k, .inl f)
abbrev zc (A : Nat → ClassId) (k : Nat) (f : Nat → Int32) : va_E := .inl (A 1, k, .inl f)
abbrev jc (A : Nat → ClassId) (k : Nat) (f : Nat → Int64) : va_E := .inl (A 2, k, .inr (.inl f))
abbrev rc (A : Nat → ClassId) (t : Nat) (k : Nat) (f : Nat → Option Nat) : va_E := .inl (A t, k, .inr (.inr (.inr (.inr f))))
def ck (ci : Nat) (N1 : String) (T : u_T) (N : Nat) : Prop := clz[ci]? = some (N1, T, N) ∧ (∀ w ∈ u_ws N1 T N, w ∈ tbl) ∧ (∃ ty : Nat → FieldType, ∀ k, k < N → parseFieldDescriptor (T k).2.2.1 = some (ty k)) ∧ ∀ a, a < N → ∀ b, b < N → a ≠ b → (T a).2.1 ≠ (T b).2.1
/-- entry index of own's pool is field k (of type ty, final or not) of class ci -/
def fl (own : String) (index ci k : Nat) (ty : FieldType) (fin : Bool) : Prop := ∃ (N1 : String) (T : u_T) (N : Nat), ck ci N1 T N ∧ k < N ∧ (T k).2.2.2 = fin ∧ parseFieldDescriptor (T k).2.2.1 = some ty ∧ (T k).1 = N1 ∧
  ((Cond.fieldLink own index (T k).1 (T k).2.1 (T k).2.2.1) ∈ tbl ∨ ∃ host, (Cond.fieldLinkNest own index (T k).1 (T k).2.1 (T k).2.2.1 host) ∈ tbl)
theorem r_get (C : Cx p l s m args meth c D A G cc nL own) {index ci k a : Nat} {fs : List Value} {v : Value} {ty : FieldType} {fin : Bool} (d : decode cc pc = .ok (.getfield index, 3)) (hF : fl own index ci k ty fin) (hh : h a = some (.inr (ci, fs))) (hv : fs[k]? = some v) (K : Rw p l e R s m args below meth c Q D G nL bc bs h n lo (pc + 3) (v :: st)) : Rw p l e R s m args below meth c Q D G nL bc bs h n lo pc (.ref a :: st) := by
  intro H ls locs cells slots hR hz hl hf hc hsz
  obtain ⟨N1, T, N, ⟨hc1, hin, -, -⟩, hk, -, -, -, hlk⟩ := hF
  have hP : va_P D clz [(a, .inr (ci, fs))] H := fun j x hx => by
    have hj : j < 1 := (List.getElem?_eq_some_iff.mp hx).1
    rw [show j = 0 by omega] at hx
    cases hx
    exact (hR.2.2 a _ hh).2
  have hts : ∀ w ∈ tbl, w.before args s = true := fun w hw => C.2.2.2.2.1.w hw
  rcases hlk with hlk | ⟨host, hlk⟩
  · exact va_get C.1 C.2.1 hts hin C.2.2.2.1 C.2.2.2.2.1.2.1 hP 0 rfl hc1 k hk (hts _ hlk) (fun _ q => q) hv d (K H ls locs cells slots hR hz hl hf hc hsz)
  · exact va_getN C.1 C.2.1 hts hin C.2.2.2.1 C.2.2.2.2.1.2.1 hP 0 rfl hc1 k hk (hts _ hlk) (fun _ q => q) hv d (K H ls locs cells slots hR hz hl hf hc hsz)
theorem r_put (C : Cx p l s m args meth c D A G cc nL own) {index ci k a : Nat} {fs : List Value} {v : Value} {ty : FieldType} (d : decode cc pc = .ok (.putfield index, 3)) (hF : fl own index ci k ty false) (hh : h a = some (.inr (ci, fs))) (hn : narrow ty v = v) (hfit : fits ty v = true) (hlen : k < fs.length) (K : Rw p l e R s m args below meth c Q D G nL bc bs (hs h a (.inr (ci, fs.set k v))) n lo (pc + 3) st) : Rw p l e R s m args below meth c Q D G nL bc bs h n lo pc (v :: .ref a :: st) := by
  intro H ls locs cells slots hR hz hl hf hc hsz
  obtain ⟨N1, T, N, ⟨hc1, hin, ⟨ty0, hty⟩, hnm⟩, hk, hfin, hd, -, hlk⟩ := hF
  have hts : ∀ w ∈ tbl, w.before args s = true := fun w hw => C.2.2.2.2.1.w hw
  have hK := C.2.2.2.2.1.2.1
  have hap := va_apart (own := own) hts hin ty0 hty hnm hK hc1
  obtain ⟨r, h1, cell, q1, q2, q3, q4⟩ := (hR.2.2 a _ hh).2
  have hr : r = (N1, T, N) := Option.some.inj (h1.symm.trans hc1)
  subst hr
  obtain ⟨hS, hfc, kC, hkC, hkind⟩ := hK.1 ci _ hc1
  obtain ⟨cf, kf, fi, f, hi, hsl⟩ := hS k hk
  have hlay := hts _ (hin _ (u_in_lay hk))
  unfold u_lay at hlay
  rw [if_neg (by rw [hfin]; decide)] at hlay
  have hst := (u_facts hfc hkC (u_lays hts hin hk) hi).1
  have h6 := u_store hfc hkC hkind hlay hi hd hn hfit
  have fin : ∀ H' : Heap, H'[a]? = some (cell.setSlot f.slot v) → H'.size = H.size → (∀ q, q ≠ a → H'[q]? = H[q]?) → W p l e R s m args below meth c H' (locs ++ [⟨a, f.slot⟩]) cells slots Q (F0 m (pc + 3) ls st) := by
    intro H' e1 e2 e3
    rw [hsl] at e1
    refine K H' ls _ cells slots (hR.put hh e2 e3 ⟨_, hc1, t_OB.to (V := updV (vp_V fs) k v) ⟨_, e1, q2, q3, t_set q4 hap hk v⟩ (fun j _ => vp_updV_set hlen v j)⟩) (by omega) hl (fun q hq => ?_) hc hsz
    rcases List.mem_append.mp hq with hq | hq
    · exact hf q hq
    · rw [List.mem_singleton.mp hq]
      exact (hR.2.2 a _ hh).1
  rcases hlk with hlk | ⟨host, hlk⟩
  · exact W.putK C.1 C.2.1 (f := f) ⟨C.2.2.2.1, hts _ hlk, ⟨_, _, _, hi⟩, hst⟩ (by rw [q2]; exact h6) q1 q3 (by rw [hsl]; exact k2_hasslot (q4 k hk)) rfl rfl d fin
  · exact va_WputK C.1 C.2.1 (f := f) C.2.2.2.1 (hts _ hlk) hi hst (by rw [q2]; exact h6) q1 q3 (by rw [hsl]; exact k2_hasslot (q4 k hk)) rfl rfl d fin
theorem r_putF (C : Cx p l s m args meth c D A G cc nL own) {index ci k a : Nat} {fs : List Value} {v : Value} {ty : FieldType} (d : decode cc pc = .ok (.putfield index, 3)) (hF : fl own index ci k ty true) (ho : ∃ (T : u_T) (N : Nat), clz[ci]? = some (own, T, N)) (hin2 : meth.name = "<init>") (hfl : ∀ host ref nm ds, Cond.fieldLinkNest own index ref nm ds host ∉ tbl) (hh : h a = some (.inr (ci, fs))) (hn : narrow ty v = v) (hfit : fits ty v = true) (hlen : k < fs.length) (K : Rw p l e R s m args below meth c Q D G nL bc bs (hs h a (.inr (ci, fs.set k v))) n lo (pc + 3) st) : Rw p l e R s m args below meth c Q D G nL bc bs h n lo pc (v :: .ref a :: st) := by
  intro H ls locs cells slots hR hz hl hf hc hsz
  obtain ⟨N1, T, N, ⟨hc1, hin, ⟨ty0, hty⟩, hnm⟩, hk, hfin, hd, hdecl, hlk⟩ := hF
  have hN1 : N1 = own := by
    obtain ⟨T9, N9, h9⟩ := ho
    have := hc1.symm.trans h9
    simp only [Option.some.injEq, Prod.mk.injEq] at this
    exact this.1
  have hts : ∀ w ∈ tbl, w.before args s = true := fun w hw => C.2.2.2.2.1.w hw
  have hK := C.2.2.2.2.1.2.1
  have hap := va_apart (own := own) hts hin ty0 hty hnm hK hc1
  obtain ⟨r, h1, cell, q1, q2, q3, q4⟩ := (hR.2.2 a _ hh).2
  have hr : r = (N1, T, N) := Option.some.inj (h1.symm.trans hc1)
  subst hr
  obtain ⟨hS, hfc, kC, hkC, hkind⟩ := hK.1 ci _ hc1
  obtain ⟨cf, kf, fi, f, hi, hsl⟩ := hS k hk
  have hlay := hts _ (hin _ (u_in_lay hk))
  unfold u_lay at hlay
  rw [if_pos hfin] at hlay
  have hst := (u_facts hfc hkC (u_lays hts hin hk) hi).1
  have hcf : m.cls = cf := by
    obtain ⟨_, _, c', _, _, _, -, -, hf', -, -, -, hown2, -⟩ := Cond.laysFinal_spec hlay
    have e1 : c' = cf := by have := hi.symm.trans hf'; simp at this; exact this.1.symm
    rw [hdecl, hN1] at hown2
    rw [← e1]; exact Option.some.inj (C.2.2.2.1.symm.trans hown2)
  have h6 := u_fits hfc hkC hkind (Or.inr hlay) hi hd hn hfit
  have fin : ∀ H' : Heap, H'[a]? = some (cell.setSlot f.slot v) → H'.size = H.size → (∀ q, q ≠ a → H'[q]? = H[q]?) → W p l e R s m args below meth c H' (locs ++ [⟨a, f.slot⟩]) cells slots Q (F0 m (pc + 3) ls st) := by
    intro H' e1 e2 e3
    rw [hsl] at e1
    refine K H' ls _ cells slots (hR.put hh e2 e3 ⟨_, hc1, t_OB.to (V := updV (vp_V fs) k v) ⟨_, e1, q2, q3, t_set q4 hap hk v⟩ (fun j _ => vp_updV_set hlen v j)⟩) (by omega) hl (fun q hq => ?_) hc hsz
    rcases List.mem_append.mp hq with hq | hq
    · exact hf q hq
    · rw [List.mem_singleton.mp hq]
      exact (hR.2.2 a _ hh).1
  rcases hlk with hlk | ⟨host, hlk⟩
  · exact W.putFinK C.1 C.2.1 C.2.2.2.1 (hts _ hlk) hi hst hcf hin2 (by rw [q2]; exact h6) q1 q3 (by rw [hsl]; exact k2_hasslot (q4 k hk)) rfl rfl d fin
  · exact absurd hlk (hfl _ _ _ _)
/-- entry index of own's pool is class ci, of k fields -/
def nk (own : String) (index ci : Nat) : Prop := ∃ (N1 : String) (T : u_T) (N : Nat), ck ci N1 T N ∧ Cond.classLink own index N1 ∈ tbl ∧ Cond.instantiable N1 N ∈ tbl ∧ Cond.initialized N1 ∈ tbl
theorem r_new (C : Cx p l s m args meth c D A G cc nL own) {index ci N : Nat} {fs : List Value} (d : decode cc pc = .ok (.new index, 3)) (hF : nk own index ci) (hN : ∃ (N1 : String) (T : u_T), clz[ci]? = some (N1, T, N) ∧ ∀ j, j < N → ∀ ty, parseFieldDescriptor (T j).2.2.1 = some ty → defaultValue ty = vp_V fs j)
    (K : (∀ j, n ≤ j → h (G.size + j) = none) → Rw p l e R s m args below meth c Q D G nL bc bs (hs h (G.size + n) (.inr (ci, fs))) (n + 1) lo (pc + 3) (.ref (G.size + n) :: st)) : Rw p l e R s m args below meth c Q D G nL (bc + 1) (bs + N) h n lo pc st := by
  intro H ls locs cells slots hR hz hl hf hc hsz
  obtain ⟨N1, T, N0, ⟨hc1, hin, ⟨ty0, hty⟩, hnm⟩, k1, k2, k3⟩ := hF
  obtain ⟨N9, T9, h9, hfs⟩ := hN
  have hts : ∀ w ∈ tbl, w.before args s = true := fun w hw => C.2.2.2.2.1.w hw
  have e9 := hc1.symm.trans h9
  simp only [Option.some.injEq, Prod.mk.injEq] at e9
  obtain ⟨rfl, rfl, rfl⟩ := e9
  have hKn := C.2.2.2.2.1.2.1.1 ci _ hc1
  have hbc : 1 ≤ bc + 1 := by omega
  refine W.newcK C.1 C.2.1 C.2.2.2.1 (hts _ k1) (hts _ k2) (hts _ k3) rfl d (by omega) (by omega) hKn.2.1 rfl fun H1 kC hkC e1 z1 o1 => ?_
  have e2 := hR.1
  have hb := (u_born ty0 hts hin hKn hkC e1 hty).to (V' := vp_V fs) (fun j hj => hfs j hj _ (hty j hj))
  have hR1 := hR.new z1 o1 (x := .inr (ci, fs)) ⟨_, hc1, hb⟩
  have hr : H.size = G.size + n := e2
  show W p l e R s m args below meth c H1 locs (cells + 1) (slots + N0) Q (F0 m (pc + 3) ls (.ref H.size :: st))
  rw [hr]
  exact K hR.fresh H1 ls locs _ _ hR1 (by omega) hl hf (by omega) (by omega)

theorem r_iald (C : Cx p l s m args meth c D A G cc nL own) {a k i : Nat} {f : Nat → Int32} {x : Int32} (d : decode cc pc = .ok (.iaload, 1)) (hh : h a = some (ic A k f)) (hx : x = nI i) (hi : i < k) (hk : k < 2 ^ 31) (K : Rw p l e R s m args below meth c Q D G nL bc bs h n lo (pc + 1) (.int (f i) :: st)) : Rw p l e R s m args below meth c Q D G nL bc bs h n lo pc (.int x :: .ref a :: st) := by
  intro H ls locs cells slots hR hz hl hf hc hsz
  have hP : va_P D clz [(a, ic A k f)] H := fun j y hy => by
    have hj : j < 1 := (List.getElem?_eq_some_iff.mp hy).1
    rw [show j = 0 by omega] at hy
    cases hy
    exact (hR.2.2 a _ hh).2
  subst hx
  refine va_iald C.1 C.2.1 C.2.2.2.2.1.2.1 hP 0 0 rfl rfl (vp_in_nI hi hk) d ?_
  rw [nI_clamp (by omega)]
  exact K H ls locs cells slots hR hz hl hf hc hsz
theorem r_iast (C : Cx p l s m args meth c D A G cc nL own) {a k i : Nat} {f : Nat → Int32} {x : Int32} {y : Int32} (d : decode cc pc = .ok (.iastore, 1)) (hh : h a = some (ic A k f)) (hx : x = nI i) (hi : i < k) (hk : k < 2 ^ 31) (K : Rw p l e R s m args below meth c Q D G nL bc bs (hs h a (ic A k (upd f i y))) n lo (pc + 1) st) : Rw p l e R s m args below meth c Q D G nL bc bs h n lo pc (.int y :: .int x :: .ref a :: st) := by
  intro H ls locs cells slots hR hz hl hf hc hsz
  subst hx
  have hat : H[a]? = some (vp_cell _ _) := (hR.2.2 a _ hh).2
  refine W.iast C.1 C.2.1 hat ((C.2.2.2.2.1.2.1.2 0 _ rfl).1 k (fun j => .int (f j))) (fun q => by cases q) (by show ¬ (nI i < 0 ∨ (arrV _ _ _).slots.size ≤ _); rw [arrV_size]; exact vp_in_nI hi hk) rfl rfl d fun H1 e1 z1 oq => ?_
  refine K H1 ls _ cells slots (hR.put hh z1 oq ?_) (by omega) hl (fun q hq => ?_) hc hsz
  · show H1[a]? = some (vp_cell _ _)
    rw [e1, nI_clamp (by omega)]
    rw [vp_cell_i, vp_cell_i, arrV_store]
    congr 2
    funext q
    by_cases hq : q = i
    · subst hq
      simp [updV, upd]
    · simp [updV, upd, hq]
  · rcases List.mem_append.mp hq with hq | hq
    · exact hf q hq
    · rw [List.mem_singleton.mp hq]
      exact (hR.2.2 a _ hh).1
theorem r_zald (C : Cx p l s m args meth c D A G cc nL own) {a k i : Nat} {f : Nat → Int32} {x : Int32} (d : decode cc pc = .ok (.baload, 1)) (hh : h a = some (zc A k f)) (hx : x = nI i) (hi : i < k) (hk : k < 2 ^ 31) (K : Rw p l e R s m args below meth c Q D G nL bc bs h n lo (pc + 1) (.int (f i) :: st)) : Rw p l e R s m args below meth c Q D G nL bc bs h n lo pc (.int x :: .ref a :: st) := by
  intro H ls locs cells slots hR hz hl hf hc hsz
  have hP : va_P D clz [(a, zc A k f)] H := fun j y hy => by
    have hj : j < 1 := (List.getElem?_eq_some_iff.mp hy).1
    rw [show j = 0 by omega] at hy
    cases hy
    exact (hR.2.2 a _ hh).2
  subst hx
  refine va_zald C.1 C.2.1 C.2.2.2.2.1.2.1 hP 0 1 rfl rfl (vp_in_nI hi hk) d ?_
  rw [nI_clamp (by omega)]
  exact K H ls locs cells slots hR hz hl hf hc hsz
theorem r_zast (C : Cx p l s m args meth c D A G cc nL own) {a k i : Nat} {f : Nat → Int32} {x : Int32} {y : Int32} (d : decode cc pc = .ok (.bastore, 1)) (hh : h a = some (zc A k f)) (hx : x = nI i) (hi : i < k) (hk : k < 2 ^ 31) (hy : y = 0 ∨ y = 1) (K : Rw p l e R s m args below meth c Q D G nL bc bs (hs h a (zc A k (upd f i y))) n lo (pc + 1) st) : Rw p l e R s m args below meth c Q D G nL bc bs h n lo pc (.int y :: .int x :: .ref a :: st) := by
  intro H ls locs cells slots hR hz hl hf hc hsz
  subst hx
  have hat : H[a]? = some (vp_cell _ _) := (hR.2.2 a _ hh).2
  refine W.zast C.1 C.2.1 hat ((C.2.2.2.2.1.2.1.2 1 _ rfl).1 k (fun j => .int (f j))) (fun q => by cases q) (by show ¬ (nI i < 0 ∨ (arrV _ _ _).slots.size ≤ _); rw [arrV_size]; exact vp_in_nI hi hk) rfl rfl d fun H1 e1 z1 oq => ?_
  refine K H1 ls _ cells slots (hR.put hh z1 oq ?_) (by omega) hl (fun q hq => ?_) hc hsz
  · show H1[a]? = some (vp_cell _ _)
    rw [e1, nI_clamp (by omega)]
    rw [vp_cell_i, vp_cell_i, arrV_store]
    congr 2
    funext q
    by_cases hq : q = i
    · subst hq
      simp [updV, upd]
      rcases hy with rfl | rfl <;> rfl
    · simp [updV, upd, hq]
  · rcases List.mem_append.mp hq with hq | hq
    · exact hf q hq
    · rw [List.mem_singleton.mp hq]
      exact (hR.2.2 a _ hh).1
theorem r_jald (C : Cx p l s m args meth c D A G cc nL own) {a k i : Nat} {f : Nat → Int64} {x : Int32} (d : decode cc pc = .ok (.laload, 1)) (hh : h a = some (jc A k f)) (hx : x = nI i) (hi : i < k) (hk : k < 2 ^ 31) (K : Rw p l e R s m args below meth c Q D G nL bc bs h n lo (pc + 1) (.long (f i) :: st)) : Rw p l e R s m args below meth c Q D G nL bc bs h n lo pc (.int x :: .ref a :: st) := by
  intro H ls locs cells slots hR hz hl hf hc hsz
  have hP : va_P D clz [(a, jc A k f)] H := fun j y hy => by
    have hj : j < 1 := (List.getElem?_eq_some_iff.mp hy).1
    rw [show j = 0 by omega] at hy
    cases hy
    exact (hR.2.2 a _ hh).2
  subst hx
  refine va_lald C.1 C.2.1 C.2.2.2.2.1.2.1 hP 0 2 rfl rfl (vp_in_nI hi hk) d ?_
  rw [nI_clamp (by omega)]
  exact K H ls locs cells slots hR hz hl hf hc hsz
theorem r_jast (C : Cx p l s m args meth c D A G cc nL own) {a k i : Nat} {f : Nat → Int64} {x : Int32} {y : Int64} (d : decode cc pc = .ok (.lastore, 1)) (hh : h a = some (jc A k f)) (hx : x = nI i) (hi : i < k) (hk : k < 2 ^ 31) (K : Rw p l e R s m args below meth c Q D G nL bc bs (hs h a (jc A k (vp_updL f i y))) n lo (pc + 1) st) : Rw p l e R s m args below meth c Q D G nL bc bs h n lo pc (.long y :: .int x :: .ref a :: st) := by
  intro H ls locs cells slots hR hz hl hf hc hsz
  subst hx
  have hat : H[a]? = some (vp_cell _ _) := (hR.2.2 a _ hh).2
  refine W.last C.1 C.2.1 hat ((C.2.2.2.2.1.2.1.2 2 _ rfl).1 k (fun j => .long (f j))) (fun q => by cases q) (by show ¬ (nI i < 0 ∨ (arrV _ _ _).slots.size ≤ _); rw [arrV_size]; exact vp_in_nI hi hk) rfl rfl d fun H1 e1 z1 oq => ?_
  refine K H1 ls _ cells slots (hR.put hh z1 oq ?_) (by omega) hl (fun q hq => ?_) hc hsz
  · show H1[a]? = some (vp_cell _ _)
    rw [e1, nI_clamp (by omega)]
    rw [vp_cell_l, vp_cell_l, arrV_store]
    congr 2
    funext q
    by_cases hq : q = i
    · subst hq
      simp [updV, vp_updL]
    · simp [updV, vp_updL, hq]
  · rcases List.mem_append.mp hq with hq | hq
    · exact hf q hq
    · rw [List.mem_singleton.mp hq]
      exact (hR.2.2 a _ hh).1
theorem r_aald (C : Cx p l s m args meth c D A G cc nL own) {a k i t : Nat} {N1 : String} {f : Nat → Option Nat} {x : Int32} (d : decode cc pc = .ok (.aaload, 1)) (hh : h a = some (rc A t k f)) (ht : (tyz A)[t]? = some (A t, .object N1)) (hx : x = nI i) (hi : i < k) (hk : k < 2 ^ 31) (K : Rw p l e R s m args below meth c Q D G nL bc bs h n lo (pc + 1) (va_rf (f i) :: st)) : Rw p l e R s m args below meth c Q D G nL bc bs h n lo pc (.int x :: .ref a :: st) := by
  intro H ls locs cells slots hR hz hl hf hc hsz
  have hP : va_P D clz [(a, rc A t k f)] H := fun j y hy => by
    have hj : j < 1 := (List.getElem?_eq_some_iff.mp hy).1
    rw [show j = 0 by omega] at hy
    cases hy
    exact (hR.2.2 a _ hh).2
  subst hx
  refine va_aldq C.1 C.2.1 C.2.2.2.2.1.2.1 hP 0 t rfl ht (vp_in_nI hi hk) d ?_
  rw [nI_clamp (by omega)]
  exact K H ls locs cells slots hR hz hl hf hc hsz
theorem r_aast (C : Cx p l s m args meth c D A G cc nL own) {a b k i t ci : Nat} {N1 : String} {T : u_T} {N : Nat} {vs : List Value} {f : Nat → Option Nat} {x : Int32} (d : decode cc pc = .ok (.aastore, 1)) (hh : h a = some (rc A t k f)) (ht : (tyz A)[t]? = some (A t, .object N1)) (hb : h b = some (.inr (ci, vs))) (hci : clz[ci]? = some (N1, T, N)) (hx : x = nI i) (hi : i < k) (hk : k < 2 ^ 31) (K : Rw p l e R s m args below meth c Q D G nL bc bs (hs h a (rc A t k (va_up f i (some b)))) n lo (pc + 1) st) : Rw p l e R s m args below meth c Q D G nL bc bs h n lo pc (.ref b :: .int x :: .ref a :: st) := by
  intro H ls locs cells slots hR hz hl hf hc hsz
  subst hx
  have hat : H[a]? = some (vp_cell _ _) := (hR.2.2 a _ hh).2
  have hK := C.2.2.2.2.1.2.1
  obtain ⟨r9, hr9, cellV, g1, g2, g3, -⟩ := (hR.2.2 b _ hb).2
  have hcls := (hK.1 ci _ hci).2
  obtain ⟨kA, comp, k1, k2, k3, -⟩ := (hK.2 t _ ht).2
  have hcomp : comp = D.1 ci := Option.some.inj (k3.symm.trans hcls.1)
  subst hcomp
  obtain ⟨kC, hkC, -⟩ := hcls.2
  refine W.aast C.1 C.2.1 hat (fun q h => by cases h) (fun h => by cases h) k1 k2 rfl hkC ⟨nI_pos (by omega), by show _ < (arrV _ _ _).slots.size; rw [arrV_size, nI_clamp (by omega)]; exact hi⟩ g1 (fun q h => by rw [g3] at h; cases h) (by rw [g2]; exact hkC) (by rw [g2]; exact va_assign hcls) rfl rfl d fun H1 e1 z1 oq => ?_
  refine K H1 ls _ cells slots (hR.put hh z1 oq ?_) (by omega) hl (fun q hq => ?_) hc hsz
  · show H1[a]? = some (vp_cell _ _)
    rw [e1, nI_clamp (by omega)]
    rw [vp_cell_q, vp_cell_q, arrV_store]
    congr 2
    funext q
    by_cases hq : q = i
    · subst hq
      simp [updV, va_up, va_rf]
    · simp [updV, va_up, hq]
  · rcases List.mem_append.mp hq with hq | hq
    · exact hf q hq
    · rw [List.mem_singleton.mp hq]
      exact (hR.2.2 a _ hh).1
theorem r_aastN (C : Cx p l s m args meth c D A G cc nL own) {a k i t : Nat} {N1 : String} {f : Nat → Option Nat} {x : Int32} (d : decode cc pc = .ok (.aastore, 1)) (hh : h a = some (rc A t k f)) (ht : (tyz A)[t]? = some (A t, .object N1)) (hx : x = nI i) (hi : i < k) (hk : k < 2 ^ 31) (K : Rw p l e R s m args below meth c Q D G nL bc bs (hs h a (rc A t k (va_up f i none))) n lo (pc + 1) st) : Rw p l e R s m args below meth c Q D G nL bc bs h n lo pc (.null :: .int x :: .ref a :: st) := by
  intro H ls locs cells slots hR hz hl hf hc hsz
  subst hx
  have hat : H[a]? = some (vp_cell _ _) := (hR.2.2 a _ hh).2
  refine va_WaastN (C := N1) C.1 C.2.1 hat ((C.2.2.2.2.1.2.1.2 t _ ht).1 k (fun j => va_rf (f j))) (fun h => by cases h) (by show ¬ (nI i < 0 ∨ (arrV _ _ _).slots.size ≤ _); rw [arrV_size]; exact vp_in_nI hi hk) rfl rfl d fun H1 e1 z1 oq => ?_
  refine K H1 ls _ cells slots (hR.put hh z1 oq ?_) (by omega) hl (fun q hq => ?_) hc hsz
  · show H1[a]? = some (vp_cell _ _)
    rw [e1, nI_clamp (by omega)]
    rw [vp_cell_q, vp_cell_q, arrV_store]
    congr 2
    funext q
    by_cases hq : q = i
    · subst hq
      simp [updV, va_up, va_rf]
    · simp [updV, va_up, hq]
  · rcases List.mem_append.mp hq with hq | hq
    · exact hf q hq
    · rw [List.mem_singleton.mp hq]
      exact (hR.2.2 a _ hh).1
theorem r_newai (C : Cx p l s m args meth c D A G cc nL own) {k : Nat} {x : Int32} (d : decode cc pc = .ok (.newarray .int, 2)) (hw : Cond.arrayClass .int ∈ tbl) (hx : x = nI k) (hk : k < 65536) (K : (∀ j, n ≤ j → h (G.size + j) = none) → Rw p l e R s m args below meth c Q D G nL bc bs (hs h (G.size + n) (ic A k (fun _ => 0))) (n + 1) lo (pc + 2) (.ref (G.size + n) :: st)) : Rw p l e R s m args below meth c Q D G nL (bc + 1) (bs + k) h n lo pc (.int x :: st) := by
  intro H ls locs cells slots hR hz hl hf hc hsz
  subst hx
  have hr := hR.1
  have b0 : ¬ nI k < 0 := nI_pos (by omega)
  have b1 : (nI k).toNatClampNeg = k := nI_clamp (by omega)
  have b2 : k * 4 ≤ 536870912 := by omega
  have b3 : cells + 1 ≤ R.cells := by omega
  have b4 : slots + k ≤ R.slots := by omega
  have b5 : (Cond.arrayClass (newarray.typeOf .int)).before args s = true := C.2.2.2.2.1.w hw
  refine va_newaK (H := H) (h := H.size) (N := k) C.1 C.2.1 b5 rfl d rfl b0 b1 b2 b3 b4 rfl fun H1 cA e1 z1 o1 hAr hNm => ?_
  have hcA : cA = A 0 := Option.some.inj (hNm.symm.trans (C.2.2.2.2.1.2.1.2 0 _ rfl).2)
  subst hcA
  have hR1 := hR.new z1 o1 (x := ic A k (fun _ => 0)) e1
  show W p l e R s m args below meth c H1 locs (cells + 1) (slots + k) Q (F0 m (pc + 2) ls (.ref H.size :: st))
  rw [hr]
  exact K hR.fresh H1 ls locs _ _ hR1 (by omega) hl hf (by omega) (by omega)
theorem r_newaz (C : Cx p l s m args meth c D A G cc nL own) {k : Nat} {x : Int32} (d : decode cc pc = .ok (.newarray .boolean, 2)) (hw : Cond.arrayClass .boolean ∈ tbl) (hx : x = nI k) (hk : k < 65536) (K : (∀ j, n ≤ j → h (G.size + j) = none) → Rw p l e R s m args below meth c Q D G nL bc bs (hs h (G.size + n) (zc A k (fun _ => 0))) (n + 1) lo (pc + 2) (.ref (G.size + n) :: st)) : Rw p l e R s m args below meth c Q D G nL (bc + 1) (bs + k) h n lo pc (.int x :: st) := by
  intro H ls locs cells slots hR hz hl hf hc hsz
  subst hx
  have hr := hR.1
  have b0 : ¬ nI k < 0 := nI_pos (by omega)
  have b1 : (nI k).toNatClampNeg = k := nI_clamp (by omega)
  have b2 : k * 1 ≤ 536870912 := by omega
  have b3 : cells + 1 ≤ R.cells := by omega
  have b4 : slots + k ≤ R.slots := by omega
  have b5 : (Cond.arrayClass (newarray.typeOf .boolean)).before args s = true := C.2.2.2.2.1.w hw
  refine va_newaK (H := H) (h := H.size) (N := k) C.1 C.2.1 b5 rfl d rfl b0 b1 b2 b3 b4 rfl fun H1 cA e1 z1 o1 hAr hNm => ?_
  have hcA : cA = A 1 := Option.some.inj (hNm.symm.trans (C.2.2.2.2.1.2.1.2 1 _ rfl).2)
  subst hcA
  have hR1 := hR.new z1 o1 (x := zc A k (fun _ => 0)) e1
  show W p l e R s m args below meth c H1 locs (cells + 1) (slots + k) Q (F0 m (pc + 2) ls (.ref H.size :: st))
  rw [hr]
  exact K hR.fresh H1 ls locs _ _ hR1 (by omega) hl hf (by omega) (by omega)
theorem r_newaj (C : Cx p l s m args meth c D A G cc nL own) {k : Nat} {x : Int32} (d : decode cc pc = .ok (.newarray .long, 2)) (hw : Cond.arrayClass .long ∈ tbl) (hx : x = nI k) (hk : k < 65536) (K : (∀ j, n ≤ j → h (G.size + j) = none) → Rw p l e R s m args below meth c Q D G nL bc bs (hs h (G.size + n) (jc A k (fun _ => 0))) (n + 1) lo (pc + 2) (.ref (G.size + n) :: st)) : Rw p l e R s m args below meth c Q D G nL (bc + 1) (bs + k) h n lo pc (.int x :: st) := by
  intro H ls locs cells slots hR hz hl hf hc hsz
  subst hx
  have hr := hR.1
  have b0 : ¬ nI k < 0 := nI_pos (by omega)
  have b1 : (nI k).toNatClampNeg = k := nI_clamp (by omega)
  have b2 : k * 8 ≤ 536870912 := by omega
  have b3 : cells + 1 ≤ R.cells := by omega
  have b4 : slots + k ≤ R.slots := by omega
  have b5 : (Cond.arrayClass (newarray.typeOf .long)).before args s = true := C.2.2.2.2.1.w hw
  refine va_newaK (H := H) (h := H.size) (N := k) C.1 C.2.1 b5 rfl d rfl b0 b1 b2 b3 b4 rfl fun H1 cA e1 z1 o1 hAr hNm => ?_
  have hcA : cA = A 2 := Option.some.inj (hNm.symm.trans (C.2.2.2.2.1.2.1.2 2 _ rfl).2)
  subst hcA
  have hR1 := hR.new z1 o1 (x := jc A k (fun _ => 0)) e1
  show W p l e R s m args below meth c H1 locs (cells + 1) (slots + k) Q (F0 m (pc + 2) ls (.ref H.size :: st))
  rw [hr]
  exact K hR.fresh H1 ls locs _ _ hR1 (by omega) hl hf (by omega) (by omega)
theorem r_newaR (C : Cx p l s m args meth c D A G cc nL own) {k t index : Nat} {N1 : String} {x : Int32} (d : decode cc pc = .ok (.anewarray index, 3)) (ht : (tyz A)[t]? = some (A t, .object N1)) (h1 : Cond.classLink own index N1 ∈ tbl) (h2 : Cond.arrayOver (.object N1) ∈ tbl) (hx : x = nI k) (hk : k < 65536) (K : (∀ j, n ≤ j → h (G.size + j) = none) → Rw p l e R s m args below meth c Q D G nL bc bs (hs h (G.size + n) (rc A t k (fun _ => none))) (n + 1) lo (pc + 3) (.ref (G.size + n) :: st)) : Rw p l e R s m args below meth c Q D G nL (bc + 1) (bs + k) h n lo pc (.int x :: st) := by
  intro H ls locs cells slots hR hz hl hf hc hsz
  subst hx
  have hr := hR.1
  have hkc : (nI k).toNatClampNeg = k := nI_clamp (by omega)
  have b0 : ¬ nI k < 0 := nI_pos (by omega)
  have b2 : (nI k).toNatClampNeg * 4 ≤ 536870912 := by omega
  have b3 : cells + 1 ≤ R.cells := by omega
  have b4 : slots + (nI k).toNatClampNeg ≤ R.slots := by omega
  refine W.anew (H := H) C.1 C.2.1 C.2.2.2.1 (C.2.2.2.2.1.w h1) (C.2.2.2.2.1.w h2) rfl d rfl b0 b2 b3 b4 fun cA kA comp f1 f2 f3 f4 => ?_
  rw [hkc]
  obtain ⟨kA9, comp9, -, -, -, f9⟩ := (C.2.2.2.2.1.2.1.2 t _ ht).2
  have hcA : cA = A t := Option.some.inj (f1.symm.trans f9)
  subst hcA
  have hR1 : Rp D G (hs h (G.size + n) (rc A t k (fun _ => none))) (n + 1) (H.push { cls := A t, slots := Array.replicate k .null, vm := .none }) := by
    refine hR.new (by simp) (fun q hq => by rw [Array.getElem?_push, if_neg (Nat.ne_of_lt hq)]) ?_
    show (H.push _)[H.size]? = some (vp_cell _ _)
    rw [vp_cell_q, show (fun j : Nat => va_rf ((fun _ => none : Nat → Option Nat) j)) = (fun _ => Value.null) from rfl, ← arrV_new]
    simp
  show W p l e R s m args below meth c _ locs (cells + 1) (slots + k) Q (F0 m (pc + 3) ls (.ref H.size :: st))
  rw [hr]
  exact K hR.fresh _ ls locs _ _ hR1 (by rw [Array.size_push]; omega) hl hf (by omega) (by omega)
end Heap
end
section
set_option maxRecDepth 10000 in
theorem ar_1 {a b f L : Nat} (h1 : a ≤ 40) (h2 : b < f) (h3 : 64 * f + 400 ≤ L) : 8 + (a + 11) + (64 * b + 400) ≤ L := by omega
theorem oi_1 : Cond.instanceMethod Lib.objectInit ∈ tbl := by decide +kernel
theorem oi_2 : Cond.code Lib.objectInit ⟨#[0xb1]⟩ 1 none ∈ tbl := by decide +kernel
section Calls
variable {p : Program} {l : Launch} {e : Env} {R : Room} {s : State} {m : MethodId} {args : Array Value} {below : List Frame} {meth : Method} {c : Code} {Q : State → Prop} {D : va_G} {A : Nat → ClassId} {G : Heap} {cc : ByteArray} {nL : Nat} {own : String} {bc bs : Nat} {h : Hp} {n : Nat} {lo : List (Nat × Value)} {pc : Nat} {st : List Value}
abbrev cP (D : va_G) (A : Nat → ClassId) (G : Heap) (as : List Value) (h : Hp) (n : Nat) : Array Value → State → Prop := va_Pc as (fun U => Rp D G h n U.heap ∧ Ev D A G U)
abbrev cQ (D : va_G) (G : Heap) (n : Nat) (P : Option Value → Hp → Nat → Prop) : Array Value → State → Outcome → State → Prop := fun _ _ o t => ∃ (v : Option Value) (h' : Hp) (n' : Nat), o = .returned v ∧ P v h' n' ∧ n ≤ n' ∧ Rp D G h' n' t.heap
abbrev cX (D : va_G) (G : Heap) (n : Nat) (X : String → Hp → Nat → Prop) : String → State → State → Prop := fun E _ t => ∃ (h' : Hp) (n' : Nat), X E h' n' ∧ n ≤ n' ∧ Rp D G h' n' t.heap
abbrev cR (df bc bs : Nat) : Room := { frames := df + 8, cells := bc, slots := bs, locals := 64 * df + 400 }
/-- method y, with these arguments over this heap: it returns with P, or throws E with X; df calls deep, bc cells of bs slots -/
def Ct (l : Launch) (D : va_G) (A : Nat → ClassId) (G : Heap) (y : MethodName) (cc : ByteArray) (maxL : Nat) (ret : Option FieldType) (df bc bs : Nat) (as : List Value) (h : Hp) (n : Nat) (P : Option Value → Hp → Nat → Prop) (X : String → Hp → Nat → Prop) : Prop :=
  vx_Met l y [.code y cc maxL ret] (cR df bc bs) (cP D A G as h n) (cQ D G n P) (cX D G n X) bc bs (fun q => G.size ≤ q)
theorem cP_blind {as : List Value} : FrameBlind (cP D A G as h n) := fun a U g mk q => ⟨q.1, q.2.1, Ev.warm (s := U) (U := U.calling g mk a) q.2.2 (State.WarmedH.refl U)⟩
/-- the end that a body owes -/
abbrev CQ (D : va_G) (G : Heap) (n : Nat) (P : Option Value → Hp → Nat → Prop) (X : String → Hp → Nat → Prop) (below : List Frame) (args : Array Value) (s : State) (bc bs : Nat) : State → Prop := vx_MQ below (cQ D G n P) (cX D G n X) args s bc bs (fun q => G.size ≤ q)
/-- how deep, and what the room has -/
abbrev Dp (R : Room) (df bc bs : Nat) : Prop := df + 8 ≤ R.frames ∧ 64 * df + 400 ≤ R.locals ∧ R.cells = bc ∧ R.slots = bs
theorem Ct.of {y : MethodName} {maxL df : Nat} {ret : Option FieldType} {as : List Value} {P : Option Value → Hp → Nat → Prop} {X : String → Hp → Nat → Prop} (hy : plainName y.cls = true) (hl : l.stackTraces = false) (hlen : (lg_sl as).length ≤ maxL)
    (body : ∀ (p : Program) (e : Env) (s : State) (m : MethodId) (args : Array Value) (below : List Frame) (meth : Method) (c : Code), Cx p l s m args meth c D A G cc maxL y.cls → meth.sig.returnType = ret → meth.name = y.name → (∀ x ∈ c.exceptionTable.toList, False) → Dp (cR df bc bs) df bc bs →
      Rw p l e (cR df bc bs) s m args below meth c (CQ D G n P X below args s bc bs) D G maxL bc bs h n (lv_args 0 as) 0 []) : Ct l D A G y cc maxL ret df bc bs as h n P X := by
  refine vx_ofW hy rfl ?_
  intro p e s m args below meth c s₁ B hml ht hv
  obtain ⟨rfl, hR, hE⟩ := hv
  have hl2 := lv_entry as (n := maxL) hlen
  rw [lg_entry_eq]
  exact body p e s m _ below meth c ⟨B.exec, B.bytes, hml, findClass_of_methodNamed B.named, hE, B.notSynchronized, hR.2.1, hl⟩ B.returns (name_of_methodNamed B.named B.method).1 ht ⟨Nat.le_refl _, Nat.le_refl _, rfl, rfl⟩ s.heap _ [] 0 0 hR (Nat.le_refl _) hl2 (fun q hq => nomatch hq) (Nat.le_of_eq (Nat.zero_add _)) (Nat.le_of_eq (Nat.zero_add _))
theorem Ct.mono {y : MethodName} {maxL df : Nat} {ret : Option FieldType} {as : List Value} {P P' : Option Value → Hp → Nat → Prop} {X X' : String → Hp → Nat → Prop} (k : Ct l D A G y cc maxL ret df bc bs as h n P X) (h1 : ∀ v h' n', P v h' n' → P' v h' n') (h2 : ∀ E h' n', X E h' n' → X' E h' n') : Ct l D A G y cc maxL ret df bc bs as h n P' X' := by
  intro p e a1 a2 a3 s m args below a4 a5 a6 a7
  obtain ⟨k9, o, b1, b2, b3, b4⟩ := k p e a1 a2 a3 s m args below a4 a5 a6 a7
  refine ⟨k9, o, b1, b2, b3, ?_⟩
  rcases b4 with ⟨⟨v, h', n', q1, q2, q3⟩, q4⟩ | ⟨q, ho, E, ce, L, ⟨h', n', x1, x2⟩, x3⟩
  · exact Or.inl ⟨⟨v, h', n', q1, h1 _ _ _ q2, q3⟩, q4⟩
  · exact Or.inr ⟨q, ho, E, ce, L, ⟨h', n', h2 _ _ _ x1, x2⟩, x3⟩
theorem Ct.met {y : MethodName} {maxL df : Nat} {ret : Option FieldType} {as : List Value} {P : Option Value → Hp → Nat → Prop} (k : Ct l D A G y cc maxL ret df bc bs as h n P (fun _ _ _ => False)) : Met l y [.code y cc maxL ret] (cR df bc bs) (cP D A G as h n) (cQ D G n P) bc bs (fun q => G.size ≤ q) := by
  intro p e a1 a2 a3 s m args below a4 a5 a6 a7
  obtain ⟨k9, o, b1, b2, b3, b4⟩ := k p e a1 a2 a3 s m args below a4 a5 a6 a7
  refine ⟨k9, o, b1, b2, b3, ?_⟩
  rcases b4 with b4 | ⟨q, ho, E, ce, L, ⟨h', n', x1, x2⟩, x3⟩
  · exact b4
  · exact x1.elim
/-! returns -/
theorem r_iret {n0 bc0 bs0 df : Nat} {P : Option Value → Hp → Nat → Prop} {X : String → Hp → Nat → Prop} (C : Cx p l s m args meth c D A G cc nL own) (dp : Dp R df bc0 bs0) (hr : meth.sig.returnType = some .int) {v : Int32} (d : decode cc pc = .ok (.ireturn, 1)) (hn : n0 ≤ n) (hP : P (some (.int v)) h n) : Rw p l e R s m args below meth c (CQ D G n0 P X below args s bc0 bs0) D G nL bc bs h n lo pc [.int v] := by
  intro H ls locs cells slots hR hz hl hf hc hsz
  obtain ⟨d1, d2, d3, d4⟩ := dp
  exact vx_ret (W.widen (k := bc0) (n := bs0) (by omega) (by omega) (W.iret C.1 C.2.1 hr (fun t ht hW => ⟨_, h, n, rfl, hP, hn, by rw [ht]; exact hR⟩) hf d C.2.2.2.2.2.1))
theorem r_zret {n0 bc0 bs0 df : Nat} {P : Option Value → Hp → Nat → Prop} {X : String → Hp → Nat → Prop} (C : Cx p l s m args meth c D A G cc nL own) (dp : Dp R df bc0 bs0) (hr : meth.sig.returnType = some .boolean) {v : Int32} (d : decode cc pc = .ok (.ireturn, 1)) (hv : v = 0 ∨ v = 1) (hn : n0 ≤ n) (hP : P (some (.int v)) h n) : Rw p l e R s m args below meth c (CQ D G n0 P X below args s bc0 bs0) D G nL bc bs h n lo pc [.int v] := by
  intro H ls locs cells slots hR hz hl hf hc hsz
  obtain ⟨d1, d2, d3, d4⟩ := dp
  exact vx_ret (W.widen (k := bc0) (n := bs0) (by omega) (by omega) (W.zret C.1 C.2.1 hr (by rcases hv with rfl | rfl <;> rfl) (fun t ht hW => ⟨_, h, n, rfl, hP, hn, by rw [ht]; exact hR⟩) hf d C.2.2.2.2.2.1))
theorem r_vret {n0 bc0 bs0 df : Nat} {P : Option Value → Hp → Nat → Prop} {X : String → Hp → Nat → Prop} (C : Cx p l s m args meth c D A G cc nL own) (dp : Dp R df bc0 bs0) (hr : meth.sig.returnType = none) (d : decode cc pc = .ok (.return_, 1)) (hn : n0 ≤ n) (hP : P none h n) : Rw p l e R s m args below meth c (CQ D G n0 P X below args s bc0 bs0) D G nL bc bs h n lo pc [] := by
  intro H ls locs cells slots hR hz hl hf hc hsz
  obtain ⟨d1, d2, d3, d4⟩ := dp
  exact vx_ret (W.widen (k := bc0) (n := bs0) (by omega) (by omega) (W.vret C.1 C.2.1 hr (fun t ht hW => ⟨_, h, n, rfl, hP, hn, by rw [ht]; exact hR⟩) hf d C.2.2.2.2.2.1))
theorem r_aret {n0 bc0 bs0 df : Nat} {P : Option Value → Hp → Nat → Prop} {X : String → Hp → Nat → Prop} (C : Cx p l s m args meth c D A G cc nL own) (dp : Dp R df bc0 bs0) {nm : String} (hr : meth.sig.returnType = some (.object nm)) {r : Option Nat} (d : decode cc pc = .ok (.areturn, 1)) (hn : n0 ≤ n) (hP : P (some (va_rf r)) h n) : Rw p l e R s m args below meth c (CQ D G n0 P X below args s bc0 bs0) D G nL bc bs h n lo pc [va_rf r] := by
  intro H ls locs cells slots hR hz hl hf hc hsz
  obtain ⟨d1, d2, d3, d4⟩ := dp
  exact vx_ret (W.widen (k := bc0) (n := bs0) (by omega) (by omega) (W.aret C.1 C.2.1 hr (Or.inl ⟨_, rfl⟩) (by cases r with | none => exact Or.inl rfl | some a => exact Or.inr ⟨a, rfl⟩) (fun t ht hW => ⟨_, h, n, rfl, hP, hn, by rw [ht]; exact hR⟩) hf d C.2.2.2.2.2.1))
/-! an exception on its way: class E, thrown over the frame at pc -/
def Xw (p : Program) (l : Launch) (e : Env) (R : Room) (s : State) (m : MethodId) (args : Array Value) (below : List Frame) (meth : Method) (c : Code) (Q : State → Prop) (D : va_G) (G : Heap) (nL : Nat) (bc bs : Nat) (E : String) (h : Hp) (n : Nat) (lo : List (Nat × Value)) (pc : Nat) : Prop :=
  ∀ (H : Heap) (ls : Array Slot) (locs : List Loc) (cells slots : Nat) (q : Addr) (ce : Cell) (rest : List Value), Rp D G h n H → s.heap.size ≤ H.size → lv_has ls nL lo → (∀ q ∈ locs, G.size ≤ q.base) → cells + bc ≤ R.cells → slots + bs ≤ R.slots → H[q]? = some ce → ce.vm = .none → s.vm.findClass E = some ce.cls → vx_W p l e R s m args below meth c H locs cells slots Q (F0 m pc ls rest) q
theorem x_out {n0 bc0 bs0 df : Nat} {P : Option Value → Hp → Nat → Prop} {X : String → Hp → Nat → Prop} {E : String} (C : Cx p l s m args meth c D A G cc nL own) (dp : Dp R df bc0 bs0) (ht : ∀ x ∈ c.exceptionTable.toList, False) (hn : n0 ≤ n) (hX : X E h n) : Xw p l e R s m args below meth c (CQ D G n0 P X below args s bc0 bs0) D G nL bc bs E h n lo pc := by
  intro H ls locs cells slots q ce rest hR hz hl hf hc hsz g1 g2 g3
  obtain ⟨d1, d2, d3, d4⟩ := dp
  exact vx_out (fun x hx => (ht x hx).elim) C.2.2.2.2.2.1 g1 g2 g3 (fun t e1 _ => ⟨h, n, hX, hn, by rw [e1]; exact hR⟩) hf (by omega) (by omega)
/-- throw new cls(text), out of a method without handlers -/
theorem r_throw {n0 bc0 bs0 df : Nat} {P : Option Value → Hp → Nat → Prop} {X : String → Hp → Nat → Prop} (C : Cx p l s m args meth c D A G cc nL own) (dp : Dp R df bc0 bs0) (ht : ∀ x ∈ c.exceptionTable.toList, False) {cls text : String} {names : List String} {ik is ie : Nat}
    (d0 : decode cc pc = .ok (.new ik, 3)) (d3 : decode cc (pc + 3) = .ok (.dup, 1)) (d4 : decode cc (pc + 4) = .ok (.ldc is, 2)) (d6 : decode cc (pc + 6) = .ok (.invokespecial ie, 3)) (d9 : decode cc (pc + 9) = .ok (.athrow, 1))
    (hcls : Bundle.fit cls = true) (hnames : ∀ w ∈ names, Bundle.fit w = true) (hlen : names.length ≤ 4) (hws : ∀ w ∈ Cond.classLink own ik cls :: Cond.initialized cls :: vx_atS own ie cls names, w ∈ tbl ∧ vx_ot w = true) (hstr : (own, is, text) ∈ strl)
    (hn : n0 ≤ n) (hst : (st.map fun v => v.category).sum ≤ 8) (hb : 1 ≤ bc ∧ 6 ≤ bs) (hX : ∀ n', n ≤ n' → X cls h n') : Rw p l e R s m args below meth c (CQ D G n0 P X below args s bc0 bs0) D G nL bc bs h n lo pc st := by
  intro H ls locs cells slots hR hz hl hf hc hsz
  obtain ⟨d1, d2, d3', d4'⟩ := dp
  have hE := C.2.2.2.2.1
  obtain ⟨sa, hsa⟩ := hE.2.2.1 _ hstr
  have hU := (hE.2.2.2.2.1).kept (H1 := s.heap) (fun a ha _ => C.2.2.2.2.2.2.1 a ha)
  have hN := (hE.2.2.2.2.2).kept (H1 := s.heap) (fun a ha _ => C.2.2.2.2.2.2.1 a ha)
  have hS : va_S (fun q => G.size ≤ q) s.heap H locs := ⟨hz, fun q _ h2 => by
    have h3 : q < G.size := Nat.not_le.mp h2
    rw [hR.2.1 q h3, C.2.2.2.2.2.2.1 q h3], hf⟩
  refine vx_throwS (names := names) C.1 C.2.1 C.2.2.2.2.2.2.2 C.2.2.2.1 hcls hnames (hE.w (hws _ List.mem_cons_self).1) (hE.w (hws _ (List.mem_cons_of_mem _ List.mem_cons_self)).1) hsa (fun w hw => hE.w (hws _ (List.mem_cons_of_mem _ (List.mem_cons_of_mem _ hw))).1) (fun w hw => (hws w hw).2) hU hN hS (hl.1.trans C.2.2.1.symm) d0 d3 d4 d6 d9 (fun x hx => (ht x hx).elim) (by omega) (by omega) (by omega) (by omega) C.2.2.2.2.2.1 (fun t _ t2 t3 => ?_) hf (by omega) (by omega)
  obtain ⟨n', hn', hR'⟩ := hR.grow t2 t3
  exact ⟨h, n', hX n' hn', Nat.le_trans hn hn', hR'⟩
/-! calls -/
/-- the words of a call: the entry, the code, the kind -/
def cw (own : String) (index : Nat) (y : MethodName) (bytes : ByteArray) (maxL : Nat) (ret : Option FieldType) (k : Nat) : Prop :=
  Cond.methodLink own index y ∈ tbl ∧ Cond.initialized y.cls ∈ tbl ∧ Cond.code y bytes maxL ret ∈ tbl ∧ (y.cls ≠ "java/lang/invoke/MethodHandle" ∧ y.cls ≠ "java/lang/invoke/VarHandle" ∧ (parseMethodDescriptor y.desc).map (fun d => d.parameters.length) = some k) ∧ maxL ≤ 40
theorem cw_B {index maxL df df' bc' bs' k bc0 bs0 : Nat} {y : MethodName} {bytes : ByteArray} {ret : Option FieldType} (C : Cx p l s m args meth c D A G cc nL own) (dp : Dp R df bc0 bs0) (hd : df' < df) (hw : cw own index y bytes maxL ret k) : CallB R s args own index y bytes maxL ret [.code y bytes maxL ret] (cR df' bc' bs') bc' bs' k := by
  obtain ⟨w1, w2, w3, w4, w5⟩ := hw
  have hE := C.2.2.2.2.1
  obtain ⟨d1, d2, d3, d4⟩ := dp
  have a1 : df' + 8 + 1 ≤ R.frames := by omega
  have a2 : 8 + (maxL + 11) + (64 * df' + 400) ≤ R.locals := ar_1 w5 hd d2
  refine callB_of (Ts := tbl) k (fun w hw => hE.w hw) (fun w hw => ?_) rfl rfl rfl (hE.w w2) (hE.w w1) w4 ⟨a1, a2⟩
  rw [List.mem_singleton.mp hw]
  exact ⟨w3, Or.inl rfl⟩
theorem pre_S {as : List Value} {H : Heap} (C : Cx p l s m args meth c D A G cc nL own) (hR : Rp D G h n H) : PreS s H (cP D A G as h n) as := ⟨cP_blind, fun U hU hW => ⟨rfl, by rw [hU]; exact hR, C.2.2.2.2.1.warm hW⟩⟩
theorem pre_V {as : List Value} {H : Heap} {b ci : Nat} {N1 : String} {T : u_T} {N : Nat} {fs : List Value} (C : Cx p l s m args meth c D A G cc nL own) (hR : Rp D G h n H) (hci : clz[ci]? = some (N1, T, N)) (hb : h b = some (.inr (ci, fs))) : PreV s H N1 b (cP D A G (.ref b :: as) h n) as := by
  obtain ⟨q', h1, cell, g1, g2, g3, -⟩ := (hR.2.2 b _ hb).2
  exact ⟨cP_blind, ⟨cell, g1, by rw [g3]; rfl, by rw [g2]; exact (C.2.2.2.2.1.2.1.1 ci _ hci).2.1⟩, fun U hU hW => ⟨rfl, by rw [hU]; exact hR, C.2.2.2.2.1.warm hW⟩⟩
section
variable {index maxL df df' bc' bs' bc0 bs0 k : Nat} {y : MethodName} {bytes : ByteArray} {ret : Option FieldType} {as : List Value} {P : Option Value → Hp → Nat → Prop} {X : String → Hp → Nat → Prop}
theorem r_back {g : JFrame} {lst : List Value} (hlo : ∀ (H : Heap) (ls : Array Slot) (locs : List Loc) (cells slots : Nat), Rp D G h n H → lv_has ls nL lo → cells + (bc + bc') ≤ R.cells → slots + (bs + bs') ≤ R.slots → vx_Run p l e R s m args below meth c H locs cells slots bc' bs' (F0 m pc ls lst) st (cQ D G n P (as.toArray)) (cX D G n X) (fun q => G.size ≤ q))
    (K : ∀ v h' n', n ≤ n' → P v h' n' → Rw p l e R s m args below meth c Q D G nL bc bs h' n' lo (pc + 3) (v.toList ++ st)) (KX : ∀ E h' n', n ≤ n' → X E h' n' → Xw p l e R s m args below meth c Q D G nL bc bs E h' n' lo pc) : Rw p l e R s m args below meth c Q D G nL (bc + bc') (bs + bs') h n lo pc lst := by
  intro H ls locs cells slots hR hz hl hf hc hsz
  intro T hT Xs
  rcases hlo H ls locs cells slots hR hl hc hsz T hT Xs with ⟨v, st₀, t, T', L, h0, X', hL, e1, e2, ⟨v', h', n', ho, hPp, hnn, hRp⟩, sp⟩ | ⟨q, st₀, t, T', L, E, ce, h0, X', hL, e1, e2, ⟨h', n', hx, hnn, hRp⟩, hce, hcv, hcl, sp⟩
  · cases ho
    have z1 := hR.1
    have z2 := hRp.1
    obtain ⟨t2, a1, b1⟩ := K v h' n' hnn hPp T'.heap ls (locs ++ L) (cells + bc') (slots + bs') (by rw [e1]; exact hRp) (by rw [e1]; omega) hl (fun q hq => by
      rcases List.mem_append.mp hq with hq | hq
      · exact hf q hq
      · exact hL q hq) (by omega) (by omega) T' rfl X'
    exact ⟨t2, sp t2 a1, b1⟩
  · have z1 := hR.1
    have z2 := hRp.1
    obtain ⟨t2, a1, b1⟩ := KX E h' n' hnn hx T'.heap ls (locs ++ L) (cells + bc') (slots + bs') q ce st (by rw [e1]; exact hRp) (by rw [e1]; omega) hl (fun q hq => by
      rcases List.mem_append.mp hq with hq | hq
      · exact hf q hq
      · exact hL q hq) (by omega) (by omega) (by rw [e1]; exact hce) hcv hcl T' rfl X'
    exact ⟨t2, sp.trans a1, b1⟩
theorem r_callS (C : Cx p l s m args meth c D A G cc nL own) (dp : Dp R df bc0 bs0) (d : decode cc pc = .ok (.invokestatic index, 3)) (hw : cw own index y bytes maxL ret k) (hs2 : Cond.static y ∈ tbl) (hM : Ct l D A G y bytes maxL ret df' bc' bs' as h n P X) (hd : df' < df) (hk : as.length = k) {lst : List Value} (hst : lst = as.reverse ++ st) (hcat : (st.map fun v => v.category).sum ≤ 8)
    (K : ∀ v h' n', n ≤ n' → P v h' n' → Rw p l e R s m args below meth c Q D G nL bc bs h' n' lo (pc + 3) (v.toList ++ st)) (KX : ∀ E h' n', n ≤ n' → X E h' n' → Xw p l e R s m args below meth c Q D G nL bc bs E h' n' lo pc) : Rw p l e R s m args below meth c Q D G nL (bc + bc') (bs + bs') h n lo pc lst := by
  refine r_back (as := as) (g := F0 m pc #[] []) (fun H ls locs cells slots hR hl hc hsz => ?_) K KX
  exact vx_runS (As := as) (rest := st) ⟨C.1, C.2.1, C.2.2.1, C.2.2.2.1, fun w hw => C.2.2.2.2.1.w hw⟩ hM ⟨cw_B C dp hd hw, C.2.2.2.2.1.w hs2⟩ (pre_S C hR) rfl hk hl.1 hst (lv_room hcat) d ⟨by omega, by omega⟩
theorem r_callV (C : Cx p l s m args meth c D A G cc nL own) (dp : Dp R df bc0 bs0) {ci b : Nat} {N1 : String} {T : u_T} {N : Nat} {fs : List Value} (d : decode cc pc = .ok (.invokevirtual index, 3)) (hw : cw own index y bytes maxL ret k) (hs2 : Cond.instanceMethod y ∈ tbl) (hs3 : Cond.selects N1 y y ∈ tbl) (hci : clz[ci]? = some (N1, T, N)) (hb : h b = some (.inr (ci, fs))) (hM : Ct l D A G y bytes maxL ret df' bc' bs' (.ref b :: as) h n P X) (hd : df' < df) (hk : as.length = k) {lst : List Value} (hst : lst = as.reverse ++ .ref b :: st) (hcat : (st.map fun v => v.category).sum ≤ 8)
    (K : ∀ v h' n', n ≤ n' → P v h' n' → Rw p l e R s m args below meth c Q D G nL bc bs h' n' lo (pc + 3) (v.toList ++ st)) (KX : ∀ E h' n', n ≤ n' → X E h' n' → Xw p l e R s m args below meth c Q D G nL bc bs E h' n' lo pc) : Rw p l e R s m args below meth c Q D G nL (bc + bc') (bs + bs') h n lo pc lst := by
  refine r_back (as := .ref b :: as) (g := F0 m pc #[] []) (fun H ls locs cells slots hR hl hc hsz => ?_) K KX
  exact vx_runV (As := as) (rest := st) ⟨C.1, C.2.1, C.2.2.1, C.2.2.2.1, fun w hw => C.2.2.2.2.1.w hw⟩ hM ⟨cw_B C dp hd hw, C.2.2.2.2.1.w hs2, C.2.2.2.2.1.w hs3⟩ (pre_V C hR hci hb) rfl hk hl.1 hst (lv_room hcat) d ⟨by omega, by omega⟩
theorem r_callI (C : Cx p l s m args meth c D A G cc nL own) (dp : Dp R df bc0 bs0) {b : Nat} (d : decode cc pc = .ok (.invokespecial index, 3)) (hw : cw own index y bytes maxL none k) (hy : y.name = "<init>") (hs2 : Cond.instanceMethod y ∈ tbl) (hM : Ct l D A G y bytes maxL none df' bc' bs' (.ref b :: as) h n P (fun _ _ _ => False)) (hd : df' < df) (hk : as.length = k) {lst : List Value} (hst : lst = as.reverse ++ .ref b :: st) (hcat : (st.map fun v => v.category).sum ≤ 8)
    (K : ∀ v h' n', n ≤ n' → P v h' n' → Rw p l e R s m args below meth c Q D G nL bc bs h' n' lo (pc + 3) (v.toList ++ st)) : Rw p l e R s m args below meth c Q D G nL (bc + bc') (bs + bs') h n lo pc lst := by
  refine r_back (as := .ref b :: as) (X := fun _ _ _ => False) (g := F0 m pc #[] []) (fun H ls locs cells slots hR hl hc hsz => ?_) K (fun _ _ _ _ z => z.elim)
  intro T hT Xs
  exact Or.inl (va_runI (As := as) (rest := st) ⟨C.1, C.2.1, C.2.2.1, C.2.2.2.1, fun w hw => C.2.2.2.2.1.w hw⟩ hM.met ⟨cw_B C dp hd hw, hy, C.2.2.2.2.1.w hs2⟩ (pre_S C hR) rfl hk hl.1 hst (lv_room hcat) d ⟨by omega, by omega⟩ T hT Xs)
theorem r_callIN (C : Cx p l s m args meth c D A G cc nL own) (dp : Dp R df bc0 bs0) {b : Nat} {host : String} (d : decode cc pc = .ok (.invokespecial index, 3)) (w1 : Cond.methodLinkNest own index y host ∈ tbl) (w2 : Cond.initialized y.cls ∈ tbl) (w3 : Cond.code y bytes maxL none ∈ tbl) (w4 : y.cls ≠ "java/lang/invoke/MethodHandle" ∧ y.cls ≠ "java/lang/invoke/VarHandle" ∧ (parseMethodDescriptor y.desc).map (fun d => d.parameters.length) = some k) (w5 : maxL ≤ 40) (hy : y.name = "<init>") (hs2 : Cond.instanceMethod y ∈ tbl) (hM : Ct l D A G y bytes maxL none df' bc' bs' (.ref b :: as) h n P (fun _ _ _ => False)) (hd : df' < df) (hk : as.length = k) {lst : List Value} (hst : lst = as.reverse ++ .ref b :: st) (hcat : (st.map fun v => v.category).sum ≤ 8)
    (K : ∀ v h' n', n ≤ n' → P v h' n' → Rw p l e R s m args below meth c Q D G nL bc bs h' n' lo (pc + 3) (v.toList ++ st)) : Rw p l e R s m args below meth c Q D G nL (bc + bc') (bs + bs') h n lo pc lst := by
  refine r_back (as := .ref b :: as) (X := fun _ _ _ => False) (g := F0 m pc #[] []) (fun H ls locs cells slots hR hl hc hsz => ?_) K (fun _ _ _ _ z => z.elim)
  intro T hT Xs
  obtain ⟨d1, d2, d3, d4⟩ := dp
  have hE := C.2.2.2.2.1
  have a1 : df' + 8 + 1 ≤ R.frames := by omega
  have a2 : 8 + (maxL + 11) + (64 * df' + 400) ≤ R.locals := ar_1 w5 hd d2
  exact Or.inl (va_runIN (As := as) (rest := st) (Ts := tbl) ⟨C.1, C.2.1, C.2.2.1, C.2.2.2.1, fun w hw => hE.w hw⟩ hM.met ⟨va_cnB (Ts := tbl) k (fun w hw => hE.w hw) (fun w hw => by rw [List.mem_singleton.mp hw]; exact ⟨w3, Or.inl rfl⟩) rfl rfl rfl (va_Nw.of rfl (hE.w (a := args) w1)) (hE.w w2) w4 ⟨a1, a2⟩, hy, hE.w hs2⟩ (pre_S C hR) rfl hk hl.1 hst (lv_room hcat) d ⟨by omega, by omega⟩ T hT Xs)
end
theorem r_objInit (C : Cx p l s m args meth c D A G cc nL own) {df bc0 bs0 a idx : Nat} (dp : Dp R df bc0 bs0) (d : decode cc pc = .ok (.invokespecial idx, 3)) (w1 : Cond.methodLink own idx Lib.objectInit ∈ tbl) (hcat : (st.map fun v => v.category).sum ≤ 8) (K : Rw p l e R s m args below meth c Q D G nL bc bs h n lo (pc + 3) st) : Rw p l e R s m args below meth c Q D G nL bc bs h n lo pc (.ref a :: st) := by
  intro H ls locs cells slots hR hz hl hf hc hsz
  obtain ⟨d1, d2, d3, d4⟩ := dp
  have hE := C.2.2.2.2.1
  refine W.objInit C.1 C.2.1 C.2.2.2.1 (hE.w w1) (hE.w oi_1) (hE.w oi_2) rfl (hl.1.trans C.2.2.1.symm) rfl d (by omega) ?_ (K H ls locs cells slots hR hz hl hf hc hsz)
  have := lv_room (m := m) (pc := pc) (ls := ls) (rest := st) hcat
  show 2 * (F0 m pc ls st).monitorRoom + _ + 12 ≤ _
  omega
end Calls
end
section
theorem tm (i : Nat) {w : Cond} (k : tables_1[i]? = some w) (z : wk w = true) : w ∈ tbl := List.mem_filter.mpr ⟨List.mem_append_right _ (List.mem_of_getElem? k), z⟩
theorem tp (i : Nat) {w : Cond} (k : (k2_sels lw_privs)[i]? = some w) (z : wk w = true) : w ∈ tbl := List.mem_filter.mpr ⟨List.mem_append_left _ (List.mem_of_getElem? k), z⟩
theorem ul_wk {N1 : String} {T : u_T} {N : Nat} : ∀ w ∈ u_ws N1 T N, wk w = true := by
  intro w hw
  obtain ⟨k, -, rfl⟩ := List.mem_map.mp hw
  unfold u_lay
  split <;> rfl
theorem it_N : ∀ w ∈ u_ws rn_N ft_N 17, w ∈ tbl := fun w hw => List.mem_filter.mpr ⟨in_N w hw, ul_wk w hw⟩
theorem ck_N : ck 0 rn_N ft_N 17 := ⟨rfl, it_N, ⟨tt_N, ty_N⟩, nm_N⟩
theorem it_Q : ∀ w ∈ u_ws rn_Q ft_Q 2, w ∈ tbl := fun w hw => List.mem_filter.mpr ⟨in_Q w hw, ul_wk w hw⟩
theorem ck_Q : ck 1 rn_Q ft_Q 2 := ⟨rfl, it_Q, ⟨tt_Q, ty_Q⟩, nm_Q⟩
theorem it_R : ∀ w ∈ u_ws rn_R ft_R 10, w ∈ tbl := fun w hw => List.mem_filter.mpr ⟨in_R w hw, ul_wk w hw⟩
theorem ck_R : ck 2 rn_R ft_R 10 := ⟨rfl, it_R, ⟨tt_R, ty_R⟩, nm_R⟩
theorem it_T : ∀ w ∈ u_ws rn_T ft_T 2, w ∈ tbl := fun w hw => List.mem_filter.mpr ⟨in_T w hw, ul_wk w hw⟩
theorem ck_T : ck 3 rn_T ft_T 2 := ⟨rfl, it_T, ⟨tt_T, ty_T⟩, nm_T⟩
theorem it_W : ∀ w ∈ u_ws rn_W ft_W 3, w ∈ tbl := fun w hw => List.mem_filter.mpr ⟨in_W w hw, ul_wk w hw⟩
theorem ck_W : ck 4 rn_W ft_W 3 := ⟨rfl, it_W, ⟨tt_W, ty_W⟩, nm_W⟩
theorem it_S : ∀ w ∈ u_ws rn_S ft_S 9, w ∈ tbl := fun w hw => List.mem_filter.mpr ⟨in_S w hw, ul_wk w hw⟩
theorem ck_S : ck 5 rn_S ft_S 9 := ⟨rfl, it_S, ⟨tt_S, ty_S⟩, nm_S⟩
theorem it_M : ∀ w ∈ u_ws rn_M ft_M 42, w ∈ tbl := fun w hw => List.mem_filter.mpr ⟨in_M w hw, ul_wk w hw⟩
theorem ck_M : ck 6 rn_M ft_M 42 := ⟨rfl, it_M, ⟨tt_M, ty_M⟩, nm_M⟩
def my_fill : MethodName := ⟨"java/util/Arrays", "fill", "([II)V"⟩
def my_min : MethodName := ⟨"java/lang/Math", "min", "(II)I"⟩
abbrev cd_fill : ByteArray := prog_17_method_103_code
abbrev cd_min : ByteArray := prog_12_method_69_code
theorem fl_N_9 : fl rn_N 9 0 0 (.array .int) true := ⟨rn_N, ft_N, 17, ck_N, by decide, rfl, by decide +kernel, rfl, Or.inl (tm 92 (by decide +kernel) rfl)⟩
theorem nk_N_15 : nk rn_N 15 1 := ⟨rn_Q, ft_Q, 2, ck_Q, (tm 75 (by decide +kernel) rfl), (tm 76 (by decide +kernel) rfl), (tm 7 (by decide +kernel) rfl)⟩
theorem cn_N_17 : Cond.methodLinkNest rn_N 17 my_Q_init "SerialBus" ∈ tbl := (tm 77 (by decide +kernel) rfl)
theorem ce_Q_init : Cond.code my_Q_init cd_Q_init 1 none ∈ tbl := (tm 79 (by decide +kernel) rfl)
theorem cm_Q_init : Cond.instanceMethod my_Q_init ∈ tbl := (tm 78 (by decide +kernel) rfl)
theorem fl_N_18 : fl rn_N 18 0 1 (.object "SerialBus$Queue") true := ⟨rn_N, ft_N, 17, ck_N, by decide, rfl, by decide +kernel, rfl, Or.inl (tm 94 (by decide +kernel) rfl)⟩
theorem fl_N_24 : fl rn_N 24 0 2 (.array (.object "SerialBus$Request")) true := ⟨rn_N, ft_N, 17, ck_N, by decide, rfl, by decide +kernel, rfl, Or.inl (tm 96 (by decide +kernel) rfl)⟩
theorem fl_N_28 : fl rn_N 28 0 11 (.boolean) false := ⟨rn_N, ft_N, 17, ck_N, by decide, rfl, by decide +kernel, rfl, Or.inl (tm 111 (by decide +kernel) rfl)⟩
theorem fl_N_32 : fl rn_N 32 0 13 (.int) false := ⟨rn_N, ft_N, 17, ck_N, by decide, rfl, by decide +kernel, rfl, Or.inl (tm 115 (by decide +kernel) rfl)⟩
theorem fl_N_36 : fl rn_N 36 0 14 (.int) false := ⟨rn_N, ft_N, 17, ck_N, by decide, rfl, by decide +kernel, rfl, Or.inl (tm 118 (by decide +kernel) rfl)⟩
theorem fl_N_39 : fl rn_N 39 0 15 (.int) false := ⟨rn_N, ft_N, 17, ck_N, by decide, rfl, by decide +kernel, rfl, Or.inl (tm 121 (by decide +kernel) rfl)⟩
theorem fl_N_42 : fl rn_N 42 0 16 (.int) false := ⟨rn_N, ft_N, 17, ck_N, by decide, rfl, by decide +kernel, rfl, Or.inl (tm 123 (by decide +kernel) rfl)⟩
theorem cw_N_45 : cw rn_N 45 my_R_endIfItWaits cd_R_endIfItWaits 2 none 1 := ⟨(tm 487 (by decide +kernel) rfl), (tm 16 (by decide +kernel) rfl), (tm 490 (by decide +kernel) rfl), ⟨by decide, by decide, by decide +kernel⟩, by decide⟩
theorem ce_R_endIfItWaits : Cond.code my_R_endIfItWaits cd_R_endIfItWaits 2 none ∈ tbl := (tm 490 (by decide +kernel) rfl)
theorem cm_R_endIfItWaits : Cond.instanceMethod my_R_endIfItWaits ∈ tbl := (tm 488 (by decide +kernel) rfl)
theorem cv_R_endIfItWaits : Cond.selects rn_R my_R_endIfItWaits my_R_endIfItWaits ∈ tbl := (tm 489 (by decide +kernel) rfl)
theorem cw_N_49 : cw rn_N 49 my_Q_empty cd_Q_empty 2 none 0 := ⟨(tm 491 (by decide +kernel) rfl), (tm 7 (by decide +kernel) rfl), (tm 494 (by decide +kernel) rfl), ⟨by decide, by decide, by decide +kernel⟩, by decide⟩
theorem ce_Q_empty : Cond.code my_Q_empty cd_Q_empty 2 none ∈ tbl := (tm 494 (by decide +kernel) rfl)
theorem cm_Q_empty : Cond.instanceMethod my_Q_empty ∈ tbl := (tm 492 (by decide +kernel) rfl)
theorem cv_Q_empty : Cond.selects rn_Q my_Q_empty my_Q_empty ∈ tbl := (tm 493 (by decide +kernel) rfl)
theorem fl_N_52 : fl rn_N 52 0 10 (.boolean) false := ⟨rn_N, ft_N, 17, ck_N, by decide, rfl, by decide +kernel, rfl, Or.inl (tm 109 (by decide +kernel) rfl)⟩
theorem fl_N_55 : fl rn_N 55 0 12 (.boolean) false := ⟨rn_N, ft_N, 17, ck_N, by decide, rfl, by decide +kernel, rfl, Or.inl (tm 113 (by decide +kernel) rfl)⟩
theorem fl_N_58 : fl rn_N 58 0 3 (.int) false := ⟨rn_N, ft_N, 17, ck_N, by decide, rfl, by decide +kernel, rfl, Or.inl (tm 98 (by decide +kernel) rfl)⟩
theorem fl_N_61 : fl rn_N 61 0 4 (.int) false := ⟨rn_N, ft_N, 17, ck_N, by decide, rfl, by decide +kernel, rfl, Or.inl (tm 100 (by decide +kernel) rfl)⟩
theorem cw_N_64 : cw rn_N 64 my_N_waits cd_N_waits 2 (some (.boolean)) 1 := ⟨(tm 376 (by decide +kernel) rfl), (tm 6 (by decide +kernel) rfl), (tm 379 (by decide +kernel) rfl), ⟨by decide, by decide, by decide +kernel⟩, by decide⟩
theorem ce_N_waits : Cond.code my_N_waits cd_N_waits 2 (some (.boolean)) ∈ tbl := (tm 379 (by decide +kernel) rfl)
theorem cm_N_waits : Cond.instanceMethod my_N_waits ∈ tbl := (tm 378 (by decide +kernel) rfl)
theorem cv_N_waits : Cond.selects rn_N my_N_waits my_N_waits ∈ tbl := (tp 4 (by decide +kernel) rfl)
theorem fl_N_68 : fl rn_N 68 2 6 (.int) false := ⟨rn_R, ft_R, 10, ck_R, by decide, rfl, by decide +kernel, rfl, Or.inr ⟨"SerialBus", (tm 416 (by decide +kernel) rfl)⟩⟩
theorem fl_N_71 : fl rn_N 71 2 5 (.int) true := ⟨rn_R, ft_R, 10, ck_R, by decide, rfl, by decide +kernel, rfl, Or.inr ⟨"SerialBus", (tm 414 (by decide +kernel) rfl)⟩⟩
theorem fl_N_74 : fl rn_N 74 2 8 (.boolean) false := ⟨rn_R, ft_R, 10, ck_R, by decide, rfl, by decide +kernel, rfl, Or.inr ⟨"SerialBus", (tm 420 (by decide +kernel) rfl)⟩⟩
theorem cw_N_77 : cw rn_N 77 my_Q_drop cd_Q_drop 3 none 1 := ⟨(tm 608 (by decide +kernel) rfl), (tm 7 (by decide +kernel) rfl), (tm 611 (by decide +kernel) rfl), ⟨by decide, by decide, by decide +kernel⟩, by decide⟩
theorem ce_Q_drop : Cond.code my_Q_drop cd_Q_drop 3 none ∈ tbl := (tm 611 (by decide +kernel) rfl)
theorem cm_Q_drop : Cond.instanceMethod my_Q_drop ∈ tbl := (tm 609 (by decide +kernel) rfl)
theorem cv_Q_drop : Cond.selects rn_Q my_Q_drop my_Q_drop ∈ tbl := (tm 610 (by decide +kernel) rfl)
theorem fl_Q_11 : fl rn_Q 11 1 0 (.array (.object "SerialBus$Request")) true := ⟨rn_Q, ft_Q, 2, ck_Q, by decide, rfl, by decide +kernel, rfl, Or.inl (tm 83 (by decide +kernel) rfl)⟩
theorem fl_Q_17 : fl rn_Q 17 1 1 (.int) false := ⟨rn_Q, ft_Q, 2, ck_Q, by decide, rfl, by decide +kernel, rfl, Or.inl (tm 84 (by decide +kernel) rfl)⟩
theorem cw_Q_21 : cw rn_Q 21 my_Q_isFull cd_Q_isFull 1 (some (.boolean)) 0 := ⟨(tm 449 (by decide +kernel) rfl), (tm 7 (by decide +kernel) rfl), (tm 384 (by decide +kernel) rfl), ⟨by decide, by decide, by decide +kernel⟩, by decide⟩
theorem ce_Q_isFull : Cond.code my_Q_isFull cd_Q_isFull 1 (some (.boolean)) ∈ tbl := (tm 384 (by decide +kernel) rfl)
theorem cm_Q_isFull : Cond.instanceMethod my_Q_isFull ∈ tbl := (tm 382 (by decide +kernel) rfl)
theorem cv_Q_isFull : Cond.selects rn_Q my_Q_isFull my_Q_isFull ∈ tbl := (tm 383 (by decide +kernel) rfl)
theorem cw_Q_25 : cw rn_Q 25 my_Q_isEmpty cd_Q_isEmpty 1 (some (.boolean)) 0 := ⟨(tm 582 (by decide +kernel) rfl), (tm 7 (by decide +kernel) rfl), (tm 573 (by decide +kernel) rfl), ⟨by decide, by decide, by decide +kernel⟩, by decide⟩
theorem ce_Q_isEmpty : Cond.code my_Q_isEmpty cd_Q_isEmpty 1 (some (.boolean)) ∈ tbl := (tm 573 (by decide +kernel) rfl)
theorem cm_Q_isEmpty : Cond.instanceMethod my_Q_isEmpty ∈ tbl := (tm 571 (by decide +kernel) rfl)
theorem cv_Q_isEmpty : Cond.selects rn_Q my_Q_isEmpty my_Q_isEmpty ∈ tbl := (tm 572 (by decide +kernel) rfl)
theorem cw_Q_28 : cw rn_Q 28 my_Q_removeAt cd_Q_removeAt 3 none 1 := ⟨(tm 583 (by decide +kernel) rfl), (tm 7 (by decide +kernel) rfl), (tm 586 (by decide +kernel) rfl), ⟨by decide, by decide, by decide +kernel⟩, by decide⟩
theorem ce_Q_removeAt : Cond.code my_Q_removeAt cd_Q_removeAt 3 none ∈ tbl := (tm 586 (by decide +kernel) rfl)
theorem cm_Q_removeAt : Cond.instanceMethod my_Q_removeAt ∈ tbl := (tm 585 (by decide +kernel) rfl)
theorem cv_Q_removeAt : Cond.selects rn_Q my_Q_removeAt my_Q_removeAt ∈ tbl := (tp 22 (by decide +kernel) rfl)
theorem fl_R_9 : fl rn_R 9 2 6 (.int) false := ⟨rn_R, ft_R, 10, ck_R, by decide, rfl, by decide +kernel, rfl, Or.inl (tm 415 (by decide +kernel) rfl)⟩
theorem fl_R_15 : fl rn_R 15 2 0 (.int) true := ⟨rn_R, ft_R, 10, ck_R, by decide, rfl, by decide +kernel, rfl, Or.inl (tm 407 (by decide +kernel) rfl)⟩
theorem fl_R_18 : fl rn_R 18 2 1 (.int) true := ⟨rn_R, ft_R, 10, ck_R, by decide, rfl, by decide +kernel, rfl, Or.inl (tm 409 (by decide +kernel) rfl)⟩
theorem fl_R_21 : fl rn_R 21 2 2 (.int) true := ⟨rn_R, ft_R, 10, ck_R, by decide, rfl, by decide +kernel, rfl, Or.inl (tm 410 (by decide +kernel) rfl)⟩
theorem fl_R_24 : fl rn_R 24 2 3 (.int) true := ⟨rn_R, ft_R, 10, ck_R, by decide, rfl, by decide +kernel, rfl, Or.inl (tm 411 (by decide +kernel) rfl)⟩
theorem fl_R_27 : fl rn_R 27 2 4 (.int) true := ⟨rn_R, ft_R, 10, ck_R, by decide, rfl, by decide +kernel, rfl, Or.inl (tm 412 (by decide +kernel) rfl)⟩
theorem fl_R_30 : fl rn_R 30 2 5 (.int) true := ⟨rn_R, ft_R, 10, ck_R, by decide, rfl, by decide +kernel, rfl, Or.inl (tm 413 (by decide +kernel) rfl)⟩
theorem fl_R_33 : fl rn_R 33 2 9 (.int) false := ⟨rn_R, ft_R, 10, ck_R, by decide, rfl, by decide +kernel, rfl, Or.inl (tm 422 (by decide +kernel) rfl)⟩
theorem fl_R_36 : fl rn_R 36 2 8 (.boolean) false := ⟨rn_R, ft_R, 10, ck_R, by decide, rfl, by decide +kernel, rfl, Or.inl (tm 419 (by decide +kernel) rfl)⟩
theorem fl_T_9 : fl rn_T 9 3 0 (.array .boolean) true := ⟨rn_T, ft_T, 2, ck_T, by decide, rfl, by decide +kernel, rfl, Or.inl (tm 60 (by decide +kernel) rfl)⟩
theorem fl_T_15 : fl rn_T 15 3 1 (.array .int) true := ⟨rn_T, ft_T, 2, ck_T, by decide, rfl, by decide +kernel, rfl, Or.inl (tm 61 (by decide +kernel) rfl)⟩
theorem cw_T_19 : cw rn_T 19 my_T_openCables cd_T_openCables 5 none 2 := ⟨(tm 499 (by decide +kernel) rfl), (tm 5 (by decide +kernel) rfl), (tm 502 (by decide +kernel) rfl), ⟨by decide, by decide, by decide +kernel⟩, by decide⟩
theorem ce_T_openCables : Cond.code my_T_openCables cd_T_openCables 5 none ∈ tbl := (tm 502 (by decide +kernel) rfl)
theorem cm_T_openCables : Cond.instanceMethod my_T_openCables ∈ tbl := (tm 501 (by decide +kernel) rfl)
theorem cv_T_openCables : Cond.selects rn_T my_T_openCables my_T_openCables ∈ tbl := (tp 7 (by decide +kernel) rfl)
theorem cw_T_23 : cw rn_T 23 my_T_someCableIsOpen cd_T_someCableIsOpen 2 (some (.boolean)) 0 := ⟨(tm 504 (by decide +kernel) rfl), (tm 5 (by decide +kernel) rfl), (tm 507 (by decide +kernel) rfl), ⟨by decide, by decide, by decide +kernel⟩, by decide⟩
theorem ce_T_someCableIsOpen : Cond.code my_T_someCableIsOpen cd_T_someCableIsOpen 2 (some (.boolean)) ∈ tbl := (tm 507 (by decide +kernel) rfl)
theorem cm_T_someCableIsOpen : Cond.instanceMethod my_T_someCableIsOpen ∈ tbl := (tm 506 (by decide +kernel) rfl)
theorem cv_T_someCableIsOpen : Cond.selects rn_T my_T_someCableIsOpen my_T_someCableIsOpen ∈ tbl := (tp 8 (by decide +kernel) rfl)
theorem cw_T_27 : cw rn_T 27 my_T_chooseAskers cd_T_chooseAskers 5 none 2 := ⟨(tm 508 (by decide +kernel) rfl), (tm 5 (by decide +kernel) rfl), (tm 511 (by decide +kernel) rfl), ⟨by decide, by decide, by decide +kernel⟩, by decide⟩
theorem ce_T_chooseAskers : Cond.code my_T_chooseAskers cd_T_chooseAskers 5 none ∈ tbl := (tm 511 (by decide +kernel) rfl)
theorem cm_T_chooseAskers : Cond.instanceMethod my_T_chooseAskers ∈ tbl := (tm 510 (by decide +kernel) rfl)
theorem cv_T_chooseAskers : Cond.selects rn_T my_T_chooseAskers my_T_chooseAskers ∈ tbl := (tp 9 (by decide +kernel) rfl)
theorem cw_T_31 : cw rn_T 31 my_T_closeAskedCables cd_T_closeAskedCables 7 none 2 := ⟨(tm 516 (by decide +kernel) rfl), (tm 5 (by decide +kernel) rfl), (tm 519 (by decide +kernel) rfl), ⟨by decide, by decide, by decide +kernel⟩, by decide⟩
theorem ce_T_closeAskedCables : Cond.code my_T_closeAskedCables cd_T_closeAskedCables 7 none ∈ tbl := (tm 519 (by decide +kernel) rfl)
theorem cm_T_closeAskedCables : Cond.instanceMethod my_T_closeAskedCables ∈ tbl := (tm 518 (by decide +kernel) rfl)
theorem cv_T_closeAskedCables : Cond.selects rn_T my_T_closeAskedCables my_T_closeAskedCables ∈ tbl := (tp 11 (by decide +kernel) rfl)
theorem cw_T_35 : cw rn_T 35 my_T_findRoot cd_T_findRoot 5 (some (.int)) 3 := ⟨(tm 536 (by decide +kernel) rfl), (tm 5 (by decide +kernel) rfl), (tm 539 (by decide +kernel) rfl), ⟨by decide, by decide, by decide +kernel⟩, by decide⟩
theorem ce_T_findRoot : Cond.code my_T_findRoot cd_T_findRoot 5 (some (.int)) ∈ tbl := (tm 539 (by decide +kernel) rfl)
theorem cm_T_findRoot : Cond.instanceMethod my_T_findRoot ∈ tbl := (tm 538 (by decide +kernel) rfl)
theorem cv_T_findRoot : Cond.selects rn_T my_T_findRoot my_T_findRoot ∈ tbl := (tp 14 (by decide +kernel) rfl)
theorem cw_T_39 : cw rn_T 39 my_T_giveNumbers cd_T_giveNumbers 9 (some (.int)) 5 := ⟨(tm 540 (by decide +kernel) rfl), (tm 5 (by decide +kernel) rfl), (tm 543 (by decide +kernel) rfl), ⟨by decide, by decide, by decide +kernel⟩, by decide⟩
theorem ce_T_giveNumbers : Cond.code my_T_giveNumbers cd_T_giveNumbers 9 (some (.int)) ∈ tbl := (tm 543 (by decide +kernel) rfl)
theorem cm_T_giveNumbers : Cond.instanceMethod my_T_giveNumbers ∈ tbl := (tm 542 (by decide +kernel) rfl)
theorem cv_T_giveNumbers : Cond.selects rn_T my_T_giveNumbers my_T_giveNumbers ∈ tbl := (tp 15 (by decide +kernel) rfl)
theorem cw_T_43 : cw rn_T 43 my_T_findManager cd_T_findManager 8 (some (.int)) 3 := ⟨(tm 545 (by decide +kernel) rfl), (tm 5 (by decide +kernel) rfl), (tm 548 (by decide +kernel) rfl), ⟨by decide, by decide, by decide +kernel⟩, by decide⟩
theorem ce_T_findManager : Cond.code my_T_findManager cd_T_findManager 8 (some (.int)) ∈ tbl := (tm 548 (by decide +kernel) rfl)
theorem cm_T_findManager : Cond.instanceMethod my_T_findManager ∈ tbl := (tm 547 (by decide +kernel) rfl)
theorem cv_T_findManager : Cond.selects rn_T my_T_findManager my_T_findManager ∈ tbl := (tp 16 (by decide +kernel) rfl)
theorem cw_T_46 : cw rn_T 46 my_W_busOf cd_W_busOf 2 (some (.int)) 1 := ⟨(tm 503 (by decide +kernel) rfl), (tm 2 (by decide +kernel) rfl), (tm 212 (by decide +kernel) rfl), ⟨by decide, by decide, by decide +kernel⟩, by decide⟩
theorem ce_W_busOf : Cond.code my_W_busOf cd_W_busOf 2 (some (.int)) ∈ tbl := (tm 212 (by decide +kernel) rfl)
theorem cm_W_busOf : Cond.instanceMethod my_W_busOf ∈ tbl := (tm 210 (by decide +kernel) rfl)
theorem cv_W_busOf : Cond.selects rn_W my_W_busOf my_W_busOf ∈ tbl := (tm 211 (by decide +kernel) rfl)
theorem cw_T_52 : cw rn_T 52 my_N_learn cd_N_learn 4 none 3 := ⟨(tm 549 (by decide +kernel) rfl), (tm 6 (by decide +kernel) rfl), (tm 552 (by decide +kernel) rfl), ⟨by decide, by decide, by decide +kernel⟩, by decide⟩
theorem ce_N_learn : Cond.code my_N_learn cd_N_learn 4 none ∈ tbl := (tm 552 (by decide +kernel) rfl)
theorem cm_N_learn : Cond.instanceMethod my_N_learn ∈ tbl := (tm 550 (by decide +kernel) rfl)
theorem cv_N_learn : Cond.selects rn_N my_N_learn my_N_learn ∈ tbl := (tm 551 (by decide +kernel) rfl)
theorem fl_T_58 : fl rn_T 58 4 0 (.array .int) true := ⟨rn_W, ft_W, 3, ck_W, by decide, rfl, by decide +kernel, rfl, Or.inr ⟨"SerialBus", (tm 42 (by decide +kernel) rfl)⟩⟩
theorem fl_T_61 : fl rn_T 61 0 5 (.boolean) false := ⟨rn_N, ft_N, 17, ck_N, by decide, rfl, by decide +kernel, rfl, Or.inr ⟨"SerialBus", (tm 103 (by decide +kernel) rfl)⟩⟩
theorem cw_T_65 : cw rn_T 65 my_T_onlyOpenSocket cd_T_onlyOpenSocket 5 (some (.int)) 1 := ⟨(tm 512 (by decide +kernel) rfl), (tm 5 (by decide +kernel) rfl), (tm 515 (by decide +kernel) rfl), ⟨by decide, by decide, by decide +kernel⟩, by decide⟩
theorem ce_T_onlyOpenSocket : Cond.code my_T_onlyOpenSocket cd_T_onlyOpenSocket 5 (some (.int)) ∈ tbl := (tm 515 (by decide +kernel) rfl)
theorem cm_T_onlyOpenSocket : Cond.instanceMethod my_T_onlyOpenSocket ∈ tbl := (tm 514 (by decide +kernel) rfl)
theorem cv_T_onlyOpenSocket : Cond.selects rn_T my_T_onlyOpenSocket my_T_onlyOpenSocket ∈ tbl := (tp 10 (by decide +kernel) rfl)
theorem cw_T_68 : cw rn_T 68 my_T_close cd_T_close 5 none 4 := ⟨(tm 520 (by decide +kernel) rfl), (tm 5 (by decide +kernel) rfl), (tm 523 (by decide +kernel) rfl), ⟨by decide, by decide, by decide +kernel⟩, by decide⟩
theorem ce_T_close : Cond.code my_T_close cd_T_close 5 none ∈ tbl := (tm 523 (by decide +kernel) rfl)
theorem cm_T_close : Cond.instanceMethod my_T_close ∈ tbl := (tm 522 (by decide +kernel) rfl)
theorem cv_T_close : Cond.selects rn_T my_T_close my_T_close ∈ tbl := (tp 12 (by decide +kernel) rfl)
theorem cw_T_72 : cw rn_T 72 my_T_contend cd_T_contend 8 none 3 := ⟨(tm 524 (by decide +kernel) rfl), (tm 5 (by decide +kernel) rfl), (tm 527 (by decide +kernel) rfl), ⟨by decide, by decide, by decide +kernel⟩, by decide⟩
theorem ce_T_contend : Cond.code my_T_contend cd_T_contend 8 none ∈ tbl := (tm 527 (by decide +kernel) rfl)
theorem cm_T_contend : Cond.instanceMethod my_T_contend ∈ tbl := (tm 526 (by decide +kernel) rfl)
theorem cv_T_contend : Cond.selects rn_T my_T_contend my_T_contend ∈ tbl := (tp 13 (by decide +kernel) rfl)
theorem cw_T_76 : cw rn_T 76 my_N_takeBit cd_N_takeBit 2 (some (.int)) 0 := ⟨(tm 528 (by decide +kernel) rfl), (tm 6 (by decide +kernel) rfl), (tm 531 (by decide +kernel) rfl), ⟨by decide, by decide, by decide +kernel⟩, by decide⟩
theorem ce_N_takeBit : Cond.code my_N_takeBit cd_N_takeBit 2 (some (.int)) ∈ tbl := (tm 531 (by decide +kernel) rfl)
theorem cm_N_takeBit : Cond.instanceMethod my_N_takeBit ∈ tbl := (tm 529 (by decide +kernel) rfl)
theorem cv_N_takeBit : Cond.selects rn_N my_N_takeBit my_N_takeBit ∈ tbl := (tm 530 (by decide +kernel) rfl)
theorem fl_T_80 : fl rn_T 80 0 14 (.int) false := ⟨rn_N, ft_N, 17, ck_N, by decide, rfl, by decide +kernel, rfl, Or.inr ⟨"SerialBus", (tm 119 (by decide +kernel) rfl)⟩⟩
theorem cw_T_84 : cw rn_T 84 my_W_farNode cd_W_farNode 4 (some (.int)) 2 := ⟨(tm 544 (by decide +kernel) rfl), (tm 2 (by decide +kernel) rfl), (tm 318 (by decide +kernel) rfl), ⟨by decide, by decide, by decide +kernel⟩, by decide⟩
theorem ce_W_farNode : Cond.code my_W_farNode cd_W_farNode 4 (some (.int)) ∈ tbl := (tm 318 (by decide +kernel) rfl)
theorem cm_W_farNode : Cond.instanceMethod my_W_farNode ∈ tbl := (tm 316 (by decide +kernel) rfl)
theorem cv_W_farNode : Cond.selects rn_W my_W_farNode my_W_farNode ∈ tbl := (tm 317 (by decide +kernel) rfl)
theorem fl_T_88 : fl rn_T 88 0 13 (.int) false := ⟨rn_N, ft_N, 17, ck_N, by decide, rfl, by decide +kernel, rfl, Or.inr ⟨"SerialBus", (tm 117 (by decide +kernel) rfl)⟩⟩
theorem fl_T_91 : fl rn_T 91 0 6 (.boolean) false := ⟨rn_N, ft_N, 17, ck_N, by decide, rfl, by decide +kernel, rfl, Or.inr ⟨"SerialBus", (tm 105 (by decide +kernel) rfl)⟩⟩
theorem fl_W_9 : fl rn_W 9 4 0 (.array .int) true := ⟨rn_W, ft_W, 3, ck_W, by decide, rfl, by decide +kernel, rfl, Or.inl (tm 41 (by decide +kernel) rfl)⟩
theorem fl_W_15 : fl rn_W 15 4 1 (.array .int) true := ⟨rn_W, ft_W, 3, ck_W, by decide, rfl, by decide +kernel, rfl, Or.inl (tm 43 (by decide +kernel) rfl)⟩
theorem cw_W_18 : cw rn_W 18 my_fill cd_fill 4 none 2 := ⟨(tm 31 (by decide +kernel) rfl), (tm 3 (by decide +kernel) rfl), (tm 33 (by decide +kernel) rfl), ⟨by decide, by decide, by decide +kernel⟩, by decide⟩
theorem ce_fill : Cond.code my_fill cd_fill 4 none ∈ tbl := (tm 33 (by decide +kernel) rfl)
theorem cs_fill : Cond.static my_fill ∈ tbl := (tm 32 (by decide +kernel) rfl)
theorem cw_W_24 : cw rn_W 24 my_W_findBuses cd_W_findBuses 5 none 0 := ⟨(tm 34 (by decide +kernel) rfl), (tm 2 (by decide +kernel) rfl), (tm 37 (by decide +kernel) rfl), ⟨by decide, by decide, by decide +kernel⟩, by decide⟩
theorem ce_W_findBuses : Cond.code my_W_findBuses cd_W_findBuses 5 none ∈ tbl := (tm 37 (by decide +kernel) rfl)
theorem cm_W_findBuses : Cond.instanceMethod my_W_findBuses ∈ tbl := (tm 36 (by decide +kernel) rfl)
theorem cv_W_findBuses : Cond.selects rn_W my_W_findBuses my_W_findBuses ∈ tbl := (tp 0 (by decide +kernel) rfl)
theorem fl_W_27 : fl rn_W 27 4 2 (.int) false := ⟨rn_W, ft_W, 3, ck_W, by decide, rfl, by decide +kernel, rfl, Or.inl (tm 44 (by decide +kernel) rfl)⟩
theorem cw_W_31 : cw rn_W 31 my_W_isBus cd_W_isBus 2 (some (.boolean)) 1 := ⟨(tm 196 (by decide +kernel) rfl), (tm 2 (by decide +kernel) rfl), (tm 199 (by decide +kernel) rfl), ⟨by decide, by decide, by decide +kernel⟩, by decide⟩
theorem ce_W_isBus : Cond.code my_W_isBus cd_W_isBus 2 (some (.boolean)) ∈ tbl := (tm 199 (by decide +kernel) rfl)
theorem cm_W_isBus : Cond.instanceMethod my_W_isBus ∈ tbl := (tm 197 (by decide +kernel) rfl)
theorem cv_W_isBus : Cond.selects rn_W my_W_isBus my_W_isBus ∈ tbl := (tm 198 (by decide +kernel) rfl)
theorem cw_W_35 : cw rn_W 35 my_min cd_min 2 (some .int) 2 := ⟨(tm 38 (by decide +kernel) rfl), (tm 4 (by decide +kernel) rfl), (tm 40 (by decide +kernel) rfl), ⟨by decide, by decide, by decide +kernel⟩, by decide⟩
theorem ce_min : Cond.code my_min cd_min 2 (some .int) ∈ tbl := (tm 40 (by decide +kernel) rfl)
theorem cs_min : Cond.static my_min ∈ tbl := (tm 39 (by decide +kernel) rfl)
theorem nk_S_9 : nk rn_S 9 4 := ⟨rn_W, ft_W, 3, ck_W, (tm 25 (by decide +kernel) rfl), (tm 26 (by decide +kernel) rfl), (tm 2 (by decide +kernel) rfl)⟩
theorem cw_S_11 : cw rn_S 11 my_W_init cd_W_init 1 none 0 := ⟨(tm 27 (by decide +kernel) rfl), (tm 2 (by decide +kernel) rfl), (tm 29 (by decide +kernel) rfl), ⟨by decide, by decide, by decide +kernel⟩, by decide⟩
theorem ce_W_init : Cond.code my_W_init cd_W_init 1 none ∈ tbl := (tm 29 (by decide +kernel) rfl)
theorem cm_W_init : Cond.instanceMethod my_W_init ∈ tbl := (tm 28 (by decide +kernel) rfl)
theorem fl_S_12 : fl rn_S 12 5 0 (.object "SerialBus$Wiring") true := ⟨rn_S, ft_S, 9, ck_S, by decide, rfl, by decide +kernel, rfl, Or.inl (tm 160 (by decide +kernel) rfl)⟩
theorem nk_S_16 : nk rn_S 16 3 := ⟨rn_T, ft_T, 2, ck_T, (tm 54 (by decide +kernel) rfl), (tm 55 (by decide +kernel) rfl), (tm 5 (by decide +kernel) rfl)⟩
theorem cn_S_18 : Cond.methodLinkNest rn_S 18 my_T_init "SerialBus" ∈ tbl := (tm 56 (by decide +kernel) rfl)
theorem ce_T_init : Cond.code my_T_init cd_T_init 1 none ∈ tbl := (tm 58 (by decide +kernel) rfl)
theorem cm_T_init : Cond.instanceMethod my_T_init ∈ tbl := (tm 57 (by decide +kernel) rfl)
theorem fl_S_19 : fl rn_S 19 5 1 (.object "SerialBus$Tree") true := ⟨rn_S, ft_S, 9, ck_S, by decide, rfl, by decide +kernel, rfl, Or.inl (tm 161 (by decide +kernel) rfl)⟩
theorem fl_S_25 : fl rn_S 25 5 2 (.array (.object "SerialBus$Node")) true := ⟨rn_S, ft_S, 9, ck_S, by decide, rfl, by decide +kernel, rfl, Or.inl (tm 162 (by decide +kernel) rfl)⟩
theorem nk_S_23 : nk rn_S 23 0 := ⟨rn_N, ft_N, 17, ck_N, (tm 68 (by decide +kernel) rfl), (tm 70 (by decide +kernel) rfl), (tm 6 (by decide +kernel) rfl)⟩
theorem cw_S_29 : cw rn_S 29 my_N_init cd_N_init 1 none 0 := ⟨(tm 71 (by decide +kernel) rfl), (tm 6 (by decide +kernel) rfl), (tm 73 (by decide +kernel) rfl), ⟨by decide, by decide, by decide +kernel⟩, by decide⟩
theorem ce_N_init : Cond.code my_N_init cd_N_init 1 none ∈ tbl := (tm 73 (by decide +kernel) rfl)
theorem cm_N_init : Cond.instanceMethod my_N_init ∈ tbl := (tm 72 (by decide +kernel) rfl)
theorem fl_S_30 : fl rn_S 30 5 4 (.int) false := ⟨rn_S, ft_S, 9, ck_S, by decide, rfl, by decide +kernel, rfl, Or.inl (tm 164 (by decide +kernel) rfl)⟩
theorem cw_S_34 : cw rn_S 34 my_S_checkNode cd_S_checkNode 1 none 1 := ⟨(tm 223 (by decide +kernel) rfl), (tm 1 (by decide +kernel) rfl), (tm 225 (by decide +kernel) rfl), ⟨by decide, by decide, by decide +kernel⟩, by decide⟩
theorem ce_S_checkNode : Cond.code my_S_checkNode cd_S_checkNode 1 none ∈ tbl := (tm 225 (by decide +kernel) rfl)
theorem cs_S_checkNode : Cond.static my_S_checkNode ∈ tbl := (tm 224 (by decide +kernel) rfl)
theorem cw_S_38 : cw rn_S 38 my_S_checkPort cd_S_checkPort 1 none 1 := ⟨(tm 295 (by decide +kernel) rfl), (tm 1 (by decide +kernel) rfl), (tm 297 (by decide +kernel) rfl), ⟨by decide, by decide, by decide +kernel⟩, by decide⟩
theorem ce_S_checkPort : Cond.code my_S_checkPort cd_S_checkPort 1 none ∈ tbl := (tm 297 (by decide +kernel) rfl)
theorem cs_S_checkPort : Cond.static my_S_checkPort ∈ tbl := (tm 296 (by decide +kernel) rfl)
theorem cw_S_48 : cw rn_S 48 my_W_farNode cd_W_farNode 4 (some (.int)) 2 := ⟨(tm 315 (by decide +kernel) rfl), (tm 2 (by decide +kernel) rfl), (tm 318 (by decide +kernel) rfl), ⟨by decide, by decide, by decide +kernel⟩, by decide⟩
theorem cw_S_57 : cw rn_S 57 my_W_join cd_W_join 5 none 4 := ⟨(tm 335 (by decide +kernel) rfl), (tm 2 (by decide +kernel) rfl), (tm 338 (by decide +kernel) rfl), ⟨by decide, by decide, by decide +kernel⟩, by decide⟩
theorem ce_W_join : Cond.code my_W_join cd_W_join 5 none ∈ tbl := (tm 338 (by decide +kernel) rfl)
theorem cm_W_join : Cond.instanceMethod my_W_join ∈ tbl := (tm 336 (by decide +kernel) rfl)
theorem cv_W_join : Cond.selects rn_W my_W_join my_W_join ∈ tbl := (tm 337 (by decide +kernel) rfl)
theorem fl_S_61 : fl rn_S 61 0 11 (.boolean) false := ⟨rn_N, ft_N, 17, ck_N, by decide, rfl, by decide +kernel, rfl, Or.inr ⟨"SerialBus", (tm 112 (by decide +kernel) rfl)⟩⟩
theorem fl_S_65 : fl rn_S 65 4 2 (.int) false := ⟨rn_W, ft_W, 3, ck_W, by decide, rfl, by decide +kernel, rfl, Or.inr ⟨"SerialBus", (tm 45 (by decide +kernel) rfl)⟩⟩
theorem cw_S_70 : cw rn_S 70 my_W_part cd_W_part 5 none 2 := ⟨(tm 347 (by decide +kernel) rfl), (tm 2 (by decide +kernel) rfl), (tm 350 (by decide +kernel) rfl), ⟨by decide, by decide, by decide +kernel⟩, by decide⟩
theorem ce_W_part : Cond.code my_W_part cd_W_part 5 none ∈ tbl := (tm 350 (by decide +kernel) rfl)
theorem cm_W_part : Cond.instanceMethod my_W_part ∈ tbl := (tm 348 (by decide +kernel) rfl)
theorem cv_W_part : Cond.selects rn_W my_W_part my_W_part ∈ tbl := (tm 349 (by decide +kernel) rfl)
theorem fl_S_75 : fl rn_S 75 0 3 (.int) false := ⟨rn_N, ft_N, 17, ck_N, by decide, rfl, by decide +kernel, rfl, Or.inr ⟨"SerialBus", (tm 99 (by decide +kernel) rfl)⟩⟩
theorem fl_S_78 : fl rn_S 78 0 4 (.int) false := ⟨rn_N, ft_N, 17, ck_N, by decide, rfl, by decide +kernel, rfl, Or.inr ⟨"SerialBus", (tm 101 (by decide +kernel) rfl)⟩⟩
theorem fl_S_81 : fl rn_S 81 0 5 (.boolean) false := ⟨rn_N, ft_N, 17, ck_N, by decide, rfl, by decide +kernel, rfl, Or.inr ⟨"SerialBus", (tm 102 (by decide +kernel) rfl)⟩⟩
theorem fl_S_84 : fl rn_S 84 0 6 (.boolean) false := ⟨rn_N, ft_N, 17, ck_N, by decide, rfl, by decide +kernel, rfl, Or.inr ⟨"SerialBus", (tm 104 (by decide +kernel) rfl)⟩⟩
theorem cw_S_87 : cw rn_S 87 my_S_checkWord cd_S_checkWord 1 none 1 := ⟨(tm 367 (by decide +kernel) rfl), (tm 1 (by decide +kernel) rfl), (tm 369 (by decide +kernel) rfl), ⟨by decide, by decide, by decide +kernel⟩, by decide⟩
theorem ce_S_checkWord : Cond.code my_S_checkWord cd_S_checkWord 1 none ∈ tbl := (tm 369 (by decide +kernel) rfl)
theorem cs_S_checkWord : Cond.static my_S_checkWord ∈ tbl := (tm 368 (by decide +kernel) rfl)
theorem cw_S_92 : cw rn_S 92 my_N_leastLabelThatDoesNotWait cd_N_leastLabelThatDoesNotWait 2 (some (.int)) 0 := ⟨(tm 372 (by decide +kernel) rfl), (tm 6 (by decide +kernel) rfl), (tm 375 (by decide +kernel) rfl), ⟨by decide, by decide, by decide +kernel⟩, by decide⟩
theorem ce_N_leastLabelThatDoesNotWait : Cond.code my_N_leastLabelThatDoesNotWait cd_N_leastLabelThatDoesNotWait 2 (some (.int)) ∈ tbl := (tm 375 (by decide +kernel) rfl)
theorem cm_N_leastLabelThatDoesNotWait : Cond.instanceMethod my_N_leastLabelThatDoesNotWait ∈ tbl := (tm 373 (by decide +kernel) rfl)
theorem cv_N_leastLabelThatDoesNotWait : Cond.selects rn_N my_N_leastLabelThatDoesNotWait my_N_leastLabelThatDoesNotWait ∈ tbl := (tm 374 (by decide +kernel) rfl)
theorem fl_S_98 : fl rn_S 98 0 1 (.object "SerialBus$Queue") true := ⟨rn_N, ft_N, 17, ck_N, by decide, rfl, by decide +kernel, rfl, Or.inr ⟨"SerialBus", (tm 95 (by decide +kernel) rfl)⟩⟩
theorem cw_S_102 : cw rn_S 102 my_Q_isFull cd_Q_isFull 1 (some (.boolean)) 0 := ⟨(tm 381 (by decide +kernel) rfl), (tm 7 (by decide +kernel) rfl), (tm 384 (by decide +kernel) rfl), ⟨by decide, by decide, by decide +kernel⟩, by decide⟩
theorem nk_S_113 : nk rn_S 113 2 := ⟨rn_R, ft_R, 10, ck_R, (tm 401 (by decide +kernel) rfl), (tm 402 (by decide +kernel) rfl), (tm 16 (by decide +kernel) rfl)⟩
theorem fl_S_115 : fl rn_S 115 5 3 (.int) false := ⟨rn_S, ft_S, 9, ck_S, by decide, rfl, by decide +kernel, rfl, Or.inl (tm 163 (by decide +kernel) rfl)⟩
theorem cw_S_118 : cw rn_S 118 my_R_init cd_R_init 7 none 6 := ⟨(tm 403 (by decide +kernel) rfl), (tm 16 (by decide +kernel) rfl), (tm 405 (by decide +kernel) rfl), ⟨by decide, by decide, by decide +kernel⟩, by decide⟩
theorem ce_R_init : Cond.code my_R_init cd_R_init 7 none ∈ tbl := (tm 405 (by decide +kernel) rfl)
theorem cm_R_init : Cond.instanceMethod my_R_init ∈ tbl := (tm 404 (by decide +kernel) rfl)
theorem fl_S_121 : fl rn_S 121 0 2 (.array (.object "SerialBus$Request")) true := ⟨rn_N, ft_N, 17, ck_N, by decide, rfl, by decide +kernel, rfl, Or.inr ⟨"SerialBus", (tm 97 (by decide +kernel) rfl)⟩⟩
theorem cw_S_125 : cw rn_S 125 my_Q_append cd_Q_append 2 none 1 := ⟨(tm 445 (by decide +kernel) rfl), (tm 7 (by decide +kernel) rfl), (tm 448 (by decide +kernel) rfl), ⟨by decide, by decide, by decide +kernel⟩, by decide⟩
theorem ce_Q_append : Cond.code my_Q_append cd_Q_append 2 none ∈ tbl := (tm 448 (by decide +kernel) rfl)
theorem cm_Q_append : Cond.instanceMethod my_Q_append ∈ tbl := (tm 446 (by decide +kernel) rfl)
theorem cv_Q_append : Cond.selects rn_Q my_Q_append my_Q_append ∈ tbl := (tm 447 (by decide +kernel) rfl)
theorem fl_S_133 : fl rn_S 133 0 7 (.int) false := ⟨rn_N, ft_N, 17, ck_N, by decide, rfl, by decide +kernel, rfl, Or.inr ⟨"SerialBus", (tm 106 (by decide +kernel) rfl)⟩⟩
theorem fl_S_136 : fl rn_S 136 0 8 (.int) false := ⟨rn_N, ft_N, 17, ck_N, by decide, rfl, by decide +kernel, rfl, Or.inr ⟨"SerialBus", (tm 107 (by decide +kernel) rfl)⟩⟩
theorem cw_S_143 : cw rn_S 143 my_W_isBus cd_W_isBus 2 (some (.boolean)) 1 := ⟨(tm 204 (by decide +kernel) rfl), (tm 2 (by decide +kernel) rfl), (tm 199 (by decide +kernel) rfl), ⟨by decide, by decide, by decide +kernel⟩, by decide⟩
theorem cw_S_147 : cw rn_S 147 my_S_runBus cd_S_runBus 3 none 1 := ⟨(tm 475 (by decide +kernel) rfl), (tm 1 (by decide +kernel) rfl), (tm 478 (by decide +kernel) rfl), ⟨by decide, by decide, by decide +kernel⟩, by decide⟩
theorem ce_S_runBus : Cond.code my_S_runBus cd_S_runBus 3 none ∈ tbl := (tm 478 (by decide +kernel) rfl)
theorem cm_S_runBus : Cond.instanceMethod my_S_runBus ∈ tbl := (tm 477 (by decide +kernel) rfl)
theorem cv_S_runBus : Cond.selects rn_S my_S_runBus my_S_runBus ∈ tbl := (tp 5 (by decide +kernel) rfl)
theorem cw_S_150 : cw rn_S 150 my_S_endLateRequests cd_S_endLateRequests 2 none 0 := ⟨(tm 600 (by decide +kernel) rfl), (tm 1 (by decide +kernel) rfl), (tm 603 (by decide +kernel) rfl), ⟨by decide, by decide, by decide +kernel⟩, by decide⟩
theorem ce_S_endLateRequests : Cond.code my_S_endLateRequests cd_S_endLateRequests 2 none ∈ tbl := (tm 603 (by decide +kernel) rfl)
theorem cm_S_endLateRequests : Cond.instanceMethod my_S_endLateRequests ∈ tbl := (tm 602 (by decide +kernel) rfl)
theorem cv_S_endLateRequests : Cond.selects rn_S my_S_endLateRequests my_S_endLateRequests ∈ tbl := (tp 25 (by decide +kernel) rfl)
theorem cw_S_153 : cw rn_S 153 my_S_checkLabel cd_S_checkLabel 1 none 1 := ⟨(tm 619 (by decide +kernel) rfl), (tm 1 (by decide +kernel) rfl), (tm 621 (by decide +kernel) rfl), ⟨by decide, by decide, by decide +kernel⟩, by decide⟩
theorem ce_S_checkLabel : Cond.code my_S_checkLabel cd_S_checkLabel 1 none ∈ tbl := (tm 621 (by decide +kernel) rfl)
theorem cs_S_checkLabel : Cond.static my_S_checkLabel ∈ tbl := (tm 620 (by decide +kernel) rfl)
theorem fl_S_158 : fl rn_S 158 2 6 (.int) false := ⟨rn_R, ft_R, 10, ck_R, by decide, rfl, by decide +kernel, rfl, Or.inr ⟨"SerialBus", (tm 417 (by decide +kernel) rfl)⟩⟩
theorem fl_S_165 : fl rn_S 165 2 9 (.int) false := ⟨rn_R, ft_R, 10, ck_R, by decide, rfl, by decide +kernel, rfl, Or.inr ⟨"SerialBus", (tm 423 (by decide +kernel) rfl)⟩⟩
theorem cw_S_168 : cw rn_S 168 my_W_busOf cd_W_busOf 2 (some (.int)) 1 := ⟨(tm 209 (by decide +kernel) rfl), (tm 2 (by decide +kernel) rfl), (tm 212 (by decide +kernel) rfl), ⟨by decide, by decide, by decide +kernel⟩, by decide⟩
theorem cw_S_172 : cw rn_S 172 my_S_isDirty cd_S_isDirty 3 (some (.boolean)) 1 := ⟨(tm 205 (by decide +kernel) rfl), (tm 1 (by decide +kernel) rfl), (tm 208 (by decide +kernel) rfl), ⟨by decide, by decide, by decide +kernel⟩, by decide⟩
theorem ce_S_isDirty : Cond.code my_S_isDirty cd_S_isDirty 3 (some (.boolean)) ∈ tbl := (tm 208 (by decide +kernel) rfl)
theorem cm_S_isDirty : Cond.instanceMethod my_S_isDirty ∈ tbl := (tm 207 (by decide +kernel) rfl)
theorem cv_S_isDirty : Cond.selects rn_S my_S_isDirty my_S_isDirty ∈ tbl := (tp 2 (by decide +kernel) rfl)
theorem fl_S_175 : fl rn_S 175 0 13 (.int) false := ⟨rn_N, ft_N, 17, ck_N, by decide, rfl, by decide +kernel, rfl, Or.inr ⟨"SerialBus", (tm 116 (by decide +kernel) rfl)⟩⟩
theorem fl_S_178 : fl rn_S 178 0 14 (.int) false := ⟨rn_N, ft_N, 17, ck_N, by decide, rfl, by decide +kernel, rfl, Or.inr ⟨"SerialBus", (tm 120 (by decide +kernel) rfl)⟩⟩
theorem fl_S_181 : fl rn_S 181 0 15 (.int) false := ⟨rn_N, ft_N, 17, ck_N, by decide, rfl, by decide +kernel, rfl, Or.inr ⟨"SerialBus", (tm 122 (by decide +kernel) rfl)⟩⟩
theorem fl_S_184 : fl rn_S 184 0 16 (.int) false := ⟨rn_N, ft_N, 17, ck_N, by decide, rfl, by decide +kernel, rfl, Or.inr ⟨"SerialBus", (tm 124 (by decide +kernel) rfl)⟩⟩
theorem fl_S_187 : fl rn_S 187 1 1 (.int) false := ⟨rn_Q, ft_Q, 2, ck_Q, by decide, rfl, by decide +kernel, rfl, Or.inr ⟨"SerialBus", (tm 85 (by decide +kernel) rfl)⟩⟩
theorem fl_S_190 : fl rn_S 190 0 9 (.int) false := ⟨rn_N, ft_N, 17, ck_N, by decide, rfl, by decide +kernel, rfl, Or.inr ⟨"SerialBus", (tm 108 (by decide +kernel) rfl)⟩⟩
theorem cw_S_193 : cw rn_S 193 my_N_waitingRequests cd_N_waitingRequests 3 (some (.int)) 0 := ⟨(tm 640 (by decide +kernel) rfl), (tm 6 (by decide +kernel) rfl), (tm 643 (by decide +kernel) rfl), ⟨by decide, by decide, by decide +kernel⟩, by decide⟩
theorem ce_N_waitingRequests : Cond.code my_N_waitingRequests cd_N_waitingRequests 3 (some (.int)) ∈ tbl := (tm 643 (by decide +kernel) rfl)
theorem cm_N_waitingRequests : Cond.instanceMethod my_N_waitingRequests ∈ tbl := (tm 641 (by decide +kernel) rfl)
theorem cv_N_waitingRequests : Cond.selects rn_N my_N_waitingRequests my_N_waitingRequests ∈ tbl := (tm 642 (by decide +kernel) rfl)
theorem fl_S_196 : fl rn_S 196 0 10 (.boolean) false := ⟨rn_N, ft_N, 17, ck_N, by decide, rfl, by decide +kernel, rfl, Or.inr ⟨"SerialBus", (tm 110 (by decide +kernel) rfl)⟩⟩
theorem fl_S_201 : fl rn_S 201 0 0 (.array .int) true := ⟨rn_N, ft_N, 17, ck_N, by decide, rfl, by decide +kernel, rfl, Or.inr ⟨"SerialBus", (tm 93 (by decide +kernel) rfl)⟩⟩
theorem cw_S_205 : cw rn_S 205 my_W_buses cd_W_buses 3 (some (.int)) 0 := ⟨(tm 192 (by decide +kernel) rfl), (tm 2 (by decide +kernel) rfl), (tm 195 (by decide +kernel) rfl), ⟨by decide, by decide, by decide +kernel⟩, by decide⟩
theorem ce_W_buses : Cond.code my_W_buses cd_W_buses 3 (some (.int)) ∈ tbl := (tm 195 (by decide +kernel) rfl)
theorem cm_W_buses : Cond.instanceMethod my_W_buses ∈ tbl := (tm 193 (by decide +kernel) rfl)
theorem cv_W_buses : Cond.selects rn_W my_W_buses my_W_buses ∈ tbl := (tm 194 (by decide +kernel) rfl)
theorem fl_S_208 : fl rn_S 208 5 5 (.int) false := ⟨rn_S, ft_S, 9, ck_S, by decide, rfl, by decide +kernel, rfl, Or.inl (tm 165 (by decide +kernel) rfl)⟩
theorem fl_S_211 : fl rn_S 211 5 6 (.int) false := ⟨rn_S, ft_S, 9, ck_S, by decide, rfl, by decide +kernel, rfl, Or.inl (tm 166 (by decide +kernel) rfl)⟩
theorem fl_S_214 : fl rn_S 214 5 7 (.int) false := ⟨rn_S, ft_S, 9, ck_S, by decide, rfl, by decide +kernel, rfl, Or.inl (tm 167 (by decide +kernel) rfl)⟩
theorem fl_S_217 : fl rn_S 217 5 8 (.int) false := ⟨rn_S, ft_S, 9, ck_S, by decide, rfl, by decide +kernel, rfl, Or.inl (tm 168 (by decide +kernel) rfl)⟩
theorem cw_S_220 : cw rn_S 220 my_S_loopedBuses cd_S_loopedBuses 3 (some (.int)) 0 := ⟨(tm 200 (by decide +kernel) rfl), (tm 1 (by decide +kernel) rfl), (tm 203 (by decide +kernel) rfl), ⟨by decide, by decide, by decide +kernel⟩, by decide⟩
theorem ce_S_loopedBuses : Cond.code my_S_loopedBuses cd_S_loopedBuses 3 (some (.int)) ∈ tbl := (tm 203 (by decide +kernel) rfl)
theorem cm_S_loopedBuses : Cond.instanceMethod my_S_loopedBuses ∈ tbl := (tm 202 (by decide +kernel) rfl)
theorem cv_S_loopedBuses : Cond.selects rn_S my_S_loopedBuses my_S_loopedBuses ∈ tbl := (tp 1 (by decide +kernel) rfl)
theorem fl_S_234 : fl rn_S 234 0 12 (.boolean) false := ⟨rn_N, ft_N, 17, ck_N, by decide, rfl, by decide +kernel, rfl, Or.inr ⟨"SerialBus", (tm 114 (by decide +kernel) rfl)⟩⟩
theorem cw_S_237 : cw rn_S 237 my_S_resetBus cd_S_resetBus 3 none 1 := ⟨(tm 479 (by decide +kernel) rfl), (tm 1 (by decide +kernel) rfl), (tm 482 (by decide +kernel) rfl), ⟨by decide, by decide, by decide +kernel⟩, by decide⟩
theorem ce_S_resetBus : Cond.code my_S_resetBus cd_S_resetBus 3 none ∈ tbl := (tm 482 (by decide +kernel) rfl)
theorem cm_S_resetBus : Cond.instanceMethod my_S_resetBus ∈ tbl := (tm 481 (by decide +kernel) rfl)
theorem cv_S_resetBus : Cond.selects rn_S my_S_resetBus my_S_resetBus ∈ tbl := (tp 6 (by decide +kernel) rfl)
theorem cw_S_240 : cw rn_S 240 my_S_runCycle cd_S_runCycle 11 none 2 := ⟨(tm 553 (by decide +kernel) rfl), (tm 1 (by decide +kernel) rfl), (tm 556 (by decide +kernel) rfl), ⟨by decide, by decide, by decide +kernel⟩, by decide⟩
theorem ce_S_runCycle : Cond.code my_S_runCycle cd_S_runCycle 11 none ∈ tbl := (tm 556 (by decide +kernel) rfl)
theorem cm_S_runCycle : Cond.instanceMethod my_S_runCycle ∈ tbl := (tm 555 (by decide +kernel) rfl)
theorem cv_S_runCycle : Cond.selects rn_S my_S_runCycle my_S_runCycle ∈ tbl := (tp 17 (by decide +kernel) rfl)
theorem cw_S_244 : cw rn_S 244 my_S_runSlot cd_S_runSlot 6 none 1 := ⟨(tm 566 (by decide +kernel) rfl), (tm 1 (by decide +kernel) rfl), (tm 569 (by decide +kernel) rfl), ⟨by decide, by decide, by decide +kernel⟩, by decide⟩
theorem ce_S_runSlot : Cond.code my_S_runSlot cd_S_runSlot 6 none ∈ tbl := (tm 569 (by decide +kernel) rfl)
theorem cm_S_runSlot : Cond.instanceMethod my_S_runSlot ∈ tbl := (tm 568 (by decide +kernel) rfl)
theorem cv_S_runSlot : Cond.selects rn_S my_S_runSlot my_S_runSlot ∈ tbl := (tp 20 (by decide +kernel) rfl)
theorem cw_S_247 : cw rn_S 247 my_N_startAnew cd_N_startAnew 2 none 0 := ⟨(tm 483 (by decide +kernel) rfl), (tm 6 (by decide +kernel) rfl), (tm 486 (by decide +kernel) rfl), ⟨by decide, by decide, by decide +kernel⟩, by decide⟩
theorem ce_N_startAnew : Cond.code my_N_startAnew cd_N_startAnew 2 none ∈ tbl := (tm 486 (by decide +kernel) rfl)
theorem cm_N_startAnew : Cond.instanceMethod my_N_startAnew ∈ tbl := (tm 484 (by decide +kernel) rfl)
theorem cv_N_startAnew : Cond.selects rn_N my_N_startAnew my_N_startAnew ∈ tbl := (tm 485 (by decide +kernel) rfl)
theorem cw_S_250 : cw rn_S 250 my_T_findParents cd_T_findParents 5 (some (.boolean)) 3 := ⟨(tm 495 (by decide +kernel) rfl), (tm 5 (by decide +kernel) rfl), (tm 498 (by decide +kernel) rfl), ⟨by decide, by decide, by decide +kernel⟩, by decide⟩
theorem ce_T_findParents : Cond.code my_T_findParents cd_T_findParents 5 (some (.boolean)) ∈ tbl := (tm 498 (by decide +kernel) rfl)
theorem cm_T_findParents : Cond.instanceMethod my_T_findParents ∈ tbl := (tm 496 (by decide +kernel) rfl)
theorem cv_T_findParents : Cond.selects rn_T my_T_findParents my_T_findParents ∈ tbl := (tm 497 (by decide +kernel) rfl)
theorem cw_S_254 : cw rn_S 254 my_T_settle cd_T_settle 8 none 4 := ⟨(tm 532 (by decide +kernel) rfl), (tm 5 (by decide +kernel) rfl), (tm 535 (by decide +kernel) rfl), ⟨by decide, by decide, by decide +kernel⟩, by decide⟩
theorem ce_T_settle : Cond.code my_T_settle cd_T_settle 8 none ∈ tbl := (tm 535 (by decide +kernel) rfl)
theorem cm_T_settle : Cond.instanceMethod my_T_settle ∈ tbl := (tm 533 (by decide +kernel) rfl)
theorem cv_T_settle : Cond.selects rn_T my_T_settle my_T_settle ∈ tbl := (tm 534 (by decide +kernel) rfl)
theorem cw_S_258 : cw rn_S 258 my_Q_isEmpty cd_Q_isEmpty 1 (some (.boolean)) 0 := ⟨(tm 570 (by decide +kernel) rfl), (tm 7 (by decide +kernel) rfl), (tm 573 (by decide +kernel) rfl), ⟨by decide, by decide, by decide +kernel⟩, by decide⟩
theorem cw_S_261 : cw rn_S 261 my_S_sendFirstPacket cd_S_sendFirstPacket 4 none 2 := ⟨(tm 574 (by decide +kernel) rfl), (tm 1 (by decide +kernel) rfl), (tm 577 (by decide +kernel) rfl), ⟨by decide, by decide, by decide +kernel⟩, by decide⟩
theorem ce_S_sendFirstPacket : Cond.code my_S_sendFirstPacket cd_S_sendFirstPacket 4 none ∈ tbl := (tm 577 (by decide +kernel) rfl)
theorem cm_S_sendFirstPacket : Cond.instanceMethod my_S_sendFirstPacket ∈ tbl := (tm 576 (by decide +kernel) rfl)
theorem cv_S_sendFirstPacket : Cond.selects rn_S my_S_sendFirstPacket my_S_sendFirstPacket ∈ tbl := (tp 21 (by decide +kernel) rfl)
theorem cw_S_265 : cw rn_S 265 my_S_takeUsedFromAll cd_S_takeUsedFromAll 3 none 1 := ⟨(tm 596 (by decide +kernel) rfl), (tm 1 (by decide +kernel) rfl), (tm 599 (by decide +kernel) rfl), ⟨by decide, by decide, by decide +kernel⟩, by decide⟩
theorem ce_S_takeUsedFromAll : Cond.code my_S_takeUsedFromAll cd_S_takeUsedFromAll 3 none ∈ tbl := (tm 599 (by decide +kernel) rfl)
theorem cm_S_takeUsedFromAll : Cond.instanceMethod my_S_takeUsedFromAll ∈ tbl := (tm 598 (by decide +kernel) rfl)
theorem cv_S_takeUsedFromAll : Cond.selects rn_S my_S_takeUsedFromAll my_S_takeUsedFromAll ∈ tbl := (tp 24 (by decide +kernel) rfl)
theorem cw_S_268 : cw rn_S 268 my_Q_takeFirst cd_Q_takeFirst 2 (some (.object "SerialBus$Request")) 0 := ⟨(tm 578 (by decide +kernel) rfl), (tm 7 (by decide +kernel) rfl), (tm 581 (by decide +kernel) rfl), ⟨by decide, by decide, by decide +kernel⟩, by decide⟩
theorem ce_Q_takeFirst : Cond.code my_Q_takeFirst cd_Q_takeFirst 2 (some (.object "SerialBus$Request")) ∈ tbl := (tm 581 (by decide +kernel) rfl)
theorem cm_Q_takeFirst : Cond.instanceMethod my_Q_takeFirst ∈ tbl := (tm 579 (by decide +kernel) rfl)
theorem cv_Q_takeFirst : Cond.selects rn_Q my_Q_takeFirst my_Q_takeFirst ∈ tbl := (tm 580 (by decide +kernel) rfl)
theorem fl_S_272 : fl rn_S 272 2 8 (.boolean) false := ⟨rn_R, ft_R, 10, ck_R, by decide, rfl, by decide +kernel, rfl, Or.inr ⟨"SerialBus", (tm 421 (by decide +kernel) rfl)⟩⟩
theorem cw_S_275 : cw rn_S 275 my_R_endIfItWaits cd_R_endIfItWaits 2 none 1 := ⟨(tm 587 (by decide +kernel) rfl), (tm 16 (by decide +kernel) rfl), (tm 490 (by decide +kernel) rfl), ⟨by decide, by decide, by decide +kernel⟩, by decide⟩
theorem cw_S_278 : cw rn_S 278 my_S_sendRequest cd_S_sendRequest 5 none 3 := ⟨(tm 588 (by decide +kernel) rfl), (tm 1 (by decide +kernel) rfl), (tm 591 (by decide +kernel) rfl), ⟨by decide, by decide, by decide +kernel⟩, by decide⟩
theorem ce_S_sendRequest : Cond.code my_S_sendRequest cd_S_sendRequest 5 none ∈ tbl := (tm 591 (by decide +kernel) rfl)
theorem cm_S_sendRequest : Cond.instanceMethod my_S_sendRequest ∈ tbl := (tm 590 (by decide +kernel) rfl)
theorem cv_S_sendRequest : Cond.selects rn_S my_S_sendRequest my_S_sendRequest ∈ tbl := (tp 23 (by decide +kernel) rfl)
theorem fl_S_282 : fl rn_S 282 2 7 (.int) false := ⟨rn_R, ft_R, 10, ck_R, by decide, rfl, by decide +kernel, rfl, Or.inr ⟨"SerialBus", (tm 418 (by decide +kernel) rfl)⟩⟩
theorem fl_S_285 : fl rn_S 285 2 0 (.int) true := ⟨rn_R, ft_R, 10, ck_R, by decide, rfl, by decide +kernel, rfl, Or.inr ⟨"SerialBus", (tm 408 (by decide +kernel) rfl)⟩⟩
theorem cw_S_288 : cw rn_S 288 my_R_workOn cd_R_workOn 3 none 1 := ⟨(tm 592 (by decide +kernel) rfl), (tm 16 (by decide +kernel) rfl), (tm 595 (by decide +kernel) rfl), ⟨by decide, by decide, by decide +kernel⟩, by decide⟩
theorem ce_R_workOn : Cond.code my_R_workOn cd_R_workOn 3 none ∈ tbl := (tm 595 (by decide +kernel) rfl)
theorem cm_R_workOn : Cond.instanceMethod my_R_workOn ∈ tbl := (tm 593 (by decide +kernel) rfl)
theorem cv_R_workOn : Cond.selects rn_R my_R_workOn my_R_workOn ∈ tbl := (tm 594 (by decide +kernel) rfl)
theorem cw_S_294 : cw rn_S 294 my_S_nodeWithNumber cd_S_nodeWithNumber 4 (some (.int)) 2 := ⟨(tm 558 (by decide +kernel) rfl), (tm 1 (by decide +kernel) rfl), (tm 561 (by decide +kernel) rfl), ⟨by decide, by decide, by decide +kernel⟩, by decide⟩
theorem ce_S_nodeWithNumber : Cond.code my_S_nodeWithNumber cd_S_nodeWithNumber 4 (some (.int)) ∈ tbl := (tm 561 (by decide +kernel) rfl)
theorem cm_S_nodeWithNumber : Cond.instanceMethod my_S_nodeWithNumber ∈ tbl := (tm 560 (by decide +kernel) rfl)
theorem cv_S_nodeWithNumber : Cond.selects rn_S my_S_nodeWithNumber my_S_nodeWithNumber ∈ tbl := (tp 18 (by decide +kernel) rfl)
theorem cw_S_297 : cw rn_S 297 my_S_letOthersHear cd_S_letOthersHear 4 none 2 := ⟨(tm 562 (by decide +kernel) rfl), (tm 1 (by decide +kernel) rfl), (tm 565 (by decide +kernel) rfl), ⟨by decide, by decide, by decide +kernel⟩, by decide⟩
theorem ce_S_letOthersHear : Cond.code my_S_letOthersHear cd_S_letOthersHear 4 none ∈ tbl := (tm 565 (by decide +kernel) rfl)
theorem cm_S_letOthersHear : Cond.instanceMethod my_S_letOthersHear ∈ tbl := (tm 564 (by decide +kernel) rfl)
theorem cv_S_letOthersHear : Cond.selects rn_S my_S_letOthersHear my_S_letOthersHear ∈ tbl := (tp 19 (by decide +kernel) rfl)
theorem cw_S_300 : cw rn_S 300 my_N_endLateRequests cd_N_endLateRequests 4 none 1 := ⟨(tm 604 (by decide +kernel) rfl), (tm 6 (by decide +kernel) rfl), (tm 607 (by decide +kernel) rfl), ⟨by decide, by decide, by decide +kernel⟩, by decide⟩
theorem ce_N_endLateRequests : Cond.code my_N_endLateRequests cd_N_endLateRequests 4 none ∈ tbl := (tm 607 (by decide +kernel) rfl)
theorem cm_N_endLateRequests : Cond.instanceMethod my_N_endLateRequests ∈ tbl := (tm 605 (by decide +kernel) rfl)
theorem cv_N_endLateRequests : Cond.selects rn_N my_N_endLateRequests my_N_endLateRequests ∈ tbl := (tm 606 (by decide +kernel) rfl)
theorem fl_M_7 : fl rn_M 7 6 1 (.array .int) true := ⟨rn_M, ft_M, 42, ck_M, by decide, rfl, by decide +kernel, rfl, Or.inl (tm 659 (by decide +kernel) rfl)⟩
theorem fl_M_13 : fl rn_M 13 6 2 (.array .boolean) true := ⟨rn_M, ft_M, 42, ck_M, by decide, rfl, by decide +kernel, rfl, Or.inl (tm 660 (by decide +kernel) rfl)⟩
theorem fl_M_17 : fl rn_M 17 6 3 (.array .int) true := ⟨rn_M, ft_M, 42, ck_M, by decide, rfl, by decide +kernel, rfl, Or.inl (tm 661 (by decide +kernel) rfl)⟩
theorem fl_M_20 : fl rn_M 20 6 4 (.array .int) true := ⟨rn_M, ft_M, 42, ck_M, by decide, rfl, by decide +kernel, rfl, Or.inl (tm 662 (by decide +kernel) rfl)⟩
theorem fl_M_23 : fl rn_M 23 6 5 (.array .int) true := ⟨rn_M, ft_M, 42, ck_M, by decide, rfl, by decide +kernel, rfl, Or.inl (tm 663 (by decide +kernel) rfl)⟩
theorem fl_M_26 : fl rn_M 26 6 6 (.array .int) true := ⟨rn_M, ft_M, 42, ck_M, by decide, rfl, by decide +kernel, rfl, Or.inl (tm 664 (by decide +kernel) rfl)⟩
theorem fl_M_29 : fl rn_M 29 6 7 (.array .int) true := ⟨rn_M, ft_M, 42, ck_M, by decide, rfl, by decide +kernel, rfl, Or.inl (tm 665 (by decide +kernel) rfl)⟩
theorem fl_M_32 : fl rn_M 32 6 8 (.array .boolean) true := ⟨rn_M, ft_M, 42, ck_M, by decide, rfl, by decide +kernel, rfl, Or.inl (tm 666 (by decide +kernel) rfl)⟩
theorem fl_M_35 : fl rn_M 35 6 9 (.array .boolean) true := ⟨rn_M, ft_M, 42, ck_M, by decide, rfl, by decide +kernel, rfl, Or.inl (tm 667 (by decide +kernel) rfl)⟩
theorem fl_M_38 : fl rn_M 38 6 10 (.array .boolean) true := ⟨rn_M, ft_M, 42, ck_M, by decide, rfl, by decide +kernel, rfl, Or.inl (tm 668 (by decide +kernel) rfl)⟩
theorem fl_M_41 : fl rn_M 41 6 11 (.array .boolean) true := ⟨rn_M, ft_M, 42, ck_M, by decide, rfl, by decide +kernel, rfl, Or.inl (tm 669 (by decide +kernel) rfl)⟩
theorem fl_M_44 : fl rn_M 44 6 12 (.array .boolean) true := ⟨rn_M, ft_M, 42, ck_M, by decide, rfl, by decide +kernel, rfl, Or.inl (tm 670 (by decide +kernel) rfl)⟩
theorem fl_M_47 : fl rn_M 47 6 13 (.array .int) true := ⟨rn_M, ft_M, 42, ck_M, by decide, rfl, by decide +kernel, rfl, Or.inl (tm 671 (by decide +kernel) rfl)⟩
theorem fl_M_50 : fl rn_M 50 6 14 (.array .int) true := ⟨rn_M, ft_M, 42, ck_M, by decide, rfl, by decide +kernel, rfl, Or.inl (tm 672 (by decide +kernel) rfl)⟩
theorem fl_M_53 : fl rn_M 53 6 15 (.array .int) true := ⟨rn_M, ft_M, 42, ck_M, by decide, rfl, by decide +kernel, rfl, Or.inl (tm 673 (by decide +kernel) rfl)⟩
theorem fl_M_56 : fl rn_M 56 6 16 (.array .int) true := ⟨rn_M, ft_M, 42, ck_M, by decide, rfl, by decide +kernel, rfl, Or.inl (tm 674 (by decide +kernel) rfl)⟩
theorem fl_M_59 : fl rn_M 59 6 17 (.array .int) true := ⟨rn_M, ft_M, 42, ck_M, by decide, rfl, by decide +kernel, rfl, Or.inl (tm 675 (by decide +kernel) rfl)⟩
theorem fl_M_62 : fl rn_M 62 6 18 (.array .int) true := ⟨rn_M, ft_M, 42, ck_M, by decide, rfl, by decide +kernel, rfl, Or.inl (tm 676 (by decide +kernel) rfl)⟩
theorem fl_M_65 : fl rn_M 65 6 19 (.array .boolean) true := ⟨rn_M, ft_M, 42, ck_M, by decide, rfl, by decide +kernel, rfl, Or.inl (tm 677 (by decide +kernel) rfl)⟩
theorem fl_M_68 : fl rn_M 68 6 20 (.array .int) true := ⟨rn_M, ft_M, 42, ck_M, by decide, rfl, by decide +kernel, rfl, Or.inl (tm 678 (by decide +kernel) rfl)⟩
theorem fl_M_71 : fl rn_M 71 6 21 (.array .int) true := ⟨rn_M, ft_M, 42, ck_M, by decide, rfl, by decide +kernel, rfl, Or.inl (tm 679 (by decide +kernel) rfl)⟩
theorem fl_M_74 : fl rn_M 74 6 22 (.array .int) true := ⟨rn_M, ft_M, 42, ck_M, by decide, rfl, by decide +kernel, rfl, Or.inl (tm 680 (by decide +kernel) rfl)⟩
theorem fl_M_77 : fl rn_M 77 6 23 (.array .int) true := ⟨rn_M, ft_M, 42, ck_M, by decide, rfl, by decide +kernel, rfl, Or.inl (tm 681 (by decide +kernel) rfl)⟩
theorem fl_M_80 : fl rn_M 80 6 24 (.array .int) true := ⟨rn_M, ft_M, 42, ck_M, by decide, rfl, by decide +kernel, rfl, Or.inl (tm 682 (by decide +kernel) rfl)⟩
theorem fl_M_83 : fl rn_M 83 6 25 (.array .int) true := ⟨rn_M, ft_M, 42, ck_M, by decide, rfl, by decide +kernel, rfl, Or.inl (tm 683 (by decide +kernel) rfl)⟩
theorem fl_M_86 : fl rn_M 86 6 26 (.array .int) true := ⟨rn_M, ft_M, 42, ck_M, by decide, rfl, by decide +kernel, rfl, Or.inl (tm 684 (by decide +kernel) rfl)⟩
theorem fl_M_89 : fl rn_M 89 6 27 (.array .int) true := ⟨rn_M, ft_M, 42, ck_M, by decide, rfl, by decide +kernel, rfl, Or.inl (tm 685 (by decide +kernel) rfl)⟩
theorem fl_M_92 : fl rn_M 92 6 28 (.array .int) true := ⟨rn_M, ft_M, 42, ck_M, by decide, rfl, by decide +kernel, rfl, Or.inl (tm 686 (by decide +kernel) rfl)⟩
theorem fl_M_95 : fl rn_M 95 6 30 (.array .int) true := ⟨rn_M, ft_M, 42, ck_M, by decide, rfl, by decide +kernel, rfl, Or.inl (tm 688 (by decide +kernel) rfl)⟩
theorem fl_M_98 : fl rn_M 98 6 31 (.array .int) true := ⟨rn_M, ft_M, 42, ck_M, by decide, rfl, by decide +kernel, rfl, Or.inl (tm 689 (by decide +kernel) rfl)⟩
theorem fl_M_101 : fl rn_M 101 6 32 (.array .int) true := ⟨rn_M, ft_M, 42, ck_M, by decide, rfl, by decide +kernel, rfl, Or.inl (tm 690 (by decide +kernel) rfl)⟩
theorem fl_M_104 : fl rn_M 104 6 33 (.array .int) true := ⟨rn_M, ft_M, 42, ck_M, by decide, rfl, by decide +kernel, rfl, Or.inl (tm 691 (by decide +kernel) rfl)⟩
theorem fl_M_107 : fl rn_M 107 6 34 (.array .boolean) true := ⟨rn_M, ft_M, 42, ck_M, by decide, rfl, by decide +kernel, rfl, Or.inl (tm 692 (by decide +kernel) rfl)⟩
theorem fl_M_110 : fl rn_M 110 6 35 (.array .int) true := ⟨rn_M, ft_M, 42, ck_M, by decide, rfl, by decide +kernel, rfl, Or.inl (tm 693 (by decide +kernel) rfl)⟩
theorem fl_M_113 : fl rn_M 113 6 37 (.int) false := ⟨rn_M, ft_M, 42, ck_M, by decide, rfl, by decide +kernel, rfl, Or.inl (tm 695 (by decide +kernel) rfl)⟩
theorem fl_M_117 : fl rn_M 117 6 0 (.int) false := ⟨rn_M, ft_M, 42, ck_M, by decide, rfl, by decide +kernel, rfl, Or.inl (tm 658 (by decide +kernel) rfl)⟩
theorem cw_M_120 : cw rn_M 120 my_M_out cd_M_out 2 (some (.boolean)) 2 := ⟨(tm 793 (by decide +kernel) rfl), (tm 8 (by decide +kernel) rfl), (tm 795 (by decide +kernel) rfl), ⟨by decide, by decide, by decide +kernel⟩, by decide⟩
theorem ce_M_out : Cond.code my_M_out cd_M_out 2 (some (.boolean)) ∈ tbl := (tm 795 (by decide +kernel) rfl)
theorem cs_M_out : Cond.static my_M_out ∈ tbl := (tm 794 (by decide +kernel) rfl)
theorem cw_M_124 : cw rn_M 124 my_M_fail cd_M_fail 2 (some (.int)) 1 := ⟨(tm 796 (by decide +kernel) rfl), (tm 8 (by decide +kernel) rfl), (tm 799 (by decide +kernel) rfl), ⟨by decide, by decide, by decide +kernel⟩, by decide⟩
theorem ce_M_fail : Cond.code my_M_fail cd_M_fail 2 (some (.int)) ∈ tbl := (tm 799 (by decide +kernel) rfl)
theorem cm_M_fail : Cond.instanceMethod my_M_fail ∈ tbl := (tm 798 (by decide +kernel) rfl)
theorem cv_M_fail : Cond.selects rn_M my_M_fail my_M_fail ∈ tbl := (tp 26 (by decide +kernel) rfl)
theorem cw_M_128 : cw rn_M 128 my_M_cables cd_M_cables 3 (some (.int)) 0 := ⟨(tm 800 (by decide +kernel) rfl), (tm 8 (by decide +kernel) rfl), (tm 803 (by decide +kernel) rfl), ⟨by decide, by decide, by decide +kernel⟩, by decide⟩
theorem ce_M_cables : Cond.code my_M_cables cd_M_cables 3 (some (.int)) ∈ tbl := (tm 803 (by decide +kernel) rfl)
theorem cm_M_cables : Cond.instanceMethod my_M_cables ∈ tbl := (tm 802 (by decide +kernel) rfl)
theorem cv_M_cables : Cond.selects rn_M my_M_cables my_M_cables ∈ tbl := (tp 27 (by decide +kernel) rfl)
theorem fl_M_133 : fl rn_M 133 6 29 (.int) false := ⟨rn_M, ft_M, 42, ck_M, by decide, rfl, by decide +kernel, rfl, Or.inl (tm 687 (by decide +kernel) rfl)⟩
theorem fl_M_136 : fl rn_M 136 6 36 (.int) false := ⟨rn_M, ft_M, 42, ck_M, by decide, rfl, by decide +kernel, rfl, Or.inl (tm 694 (by decide +kernel) rfl)⟩
theorem cw_M_139 : cw rn_M 139 my_M_put cd_M_put 8 none 6 := ⟨(tm 817 (by decide +kernel) rfl), (tm 8 (by decide +kernel) rfl), (tm 820 (by decide +kernel) rfl), ⟨by decide, by decide, by decide +kernel⟩, by decide⟩
theorem ce_M_put : Cond.code my_M_put cd_M_put 8 none ∈ tbl := (tm 820 (by decide +kernel) rfl)
theorem cm_M_put : Cond.instanceMethod my_M_put ∈ tbl := (tm 819 (by decide +kernel) rfl)
theorem cv_M_put : Cond.selects rn_M my_M_put my_M_put ∈ tbl := (tp 28 (by decide +kernel) rfl)
theorem cw_M_143 : cw rn_M 143 my_M_done cd_M_done 4 (some (.int)) 1 := ⟨(tm 906 (by decide +kernel) rfl), (tm 8 (by decide +kernel) rfl), (tm 909 (by decide +kernel) rfl), ⟨by decide, by decide, by decide +kernel⟩, by decide⟩
theorem ce_M_done : Cond.code my_M_done cd_M_done 4 (some (.int)) ∈ tbl := (tm 909 (by decide +kernel) rfl)
theorem cm_M_done : Cond.instanceMethod my_M_done ∈ tbl := (tm 908 (by decide +kernel) rfl)
theorem cv_M_done : Cond.selects rn_M my_M_done my_M_done ∈ tbl := (tp 49 (by decide +kernel) rfl)
theorem cw_M_146 : cw rn_M 146 my_M_take cd_M_take 4 none 2 := ⟨(tm 898 (by decide +kernel) rfl), (tm 8 (by decide +kernel) rfl), (tm 901 (by decide +kernel) rfl), ⟨by decide, by decide, by decide +kernel⟩, by decide⟩
theorem ce_M_take : Cond.code my_M_take cd_M_take 4 none ∈ tbl := (tm 901 (by decide +kernel) rfl)
theorem cm_M_take : Cond.instanceMethod my_M_take ∈ tbl := (tm 900 (by decide +kernel) rfl)
theorem cv_M_take : Cond.selects rn_M my_M_take my_M_take ∈ tbl := (tp 47 (by decide +kernel) rfl)
theorem fl_M_150 : fl rn_M 150 6 39 (.int) false := ⟨rn_M, ft_M, 42, ck_M, by decide, rfl, by decide +kernel, rfl, Or.inl (tm 697 (by decide +kernel) rfl)⟩
theorem cw_M_153 : cw rn_M 153 my_M_sendRequest cd_M_sendRequest 6 none 4 := ⟨(tm 902 (by decide +kernel) rfl), (tm 8 (by decide +kernel) rfl), (tm 905 (by decide +kernel) rfl), ⟨by decide, by decide, by decide +kernel⟩, by decide⟩
theorem ce_M_sendRequest : Cond.code my_M_sendRequest cd_M_sendRequest 6 none ∈ tbl := (tm 905 (by decide +kernel) rfl)
theorem cm_M_sendRequest : Cond.instanceMethod my_M_sendRequest ∈ tbl := (tm 904 (by decide +kernel) rfl)
theorem cv_M_sendRequest : Cond.selects rn_M my_M_sendRequest my_M_sendRequest ∈ tbl := (tp 48 (by decide +kernel) rfl)
theorem cw_M_157 : cw rn_M 157 my_M_openAt cd_M_openAt 4 (some (.int)) 1 := ⟨(tm 853 (by decide +kernel) rfl), (tm 8 (by decide +kernel) rfl), (tm 856 (by decide +kernel) rfl), ⟨by decide, by decide, by decide +kernel⟩, by decide⟩
theorem ce_M_openAt : Cond.code my_M_openAt cd_M_openAt 4 (some (.int)) ∈ tbl := (tm 856 (by decide +kernel) rfl)
theorem cm_M_openAt : Cond.instanceMethod my_M_openAt ∈ tbl := (tm 855 (by decide +kernel) rfl)
theorem cv_M_openAt : Cond.selects rn_M my_M_openAt my_M_openAt ∈ tbl := (tp 36 (by decide +kernel) rfl)
theorem cw_M_160 : cw rn_M 160 my_M_nextBit cd_M_nextBit 3 (some (.int)) 1 := ⟨(tm 857 (by decide +kernel) rfl), (tm 8 (by decide +kernel) rfl), (tm 860 (by decide +kernel) rfl), ⟨by decide, by decide, by decide +kernel⟩, by decide⟩
theorem ce_M_nextBit : Cond.code my_M_nextBit cd_M_nextBit 3 (some (.int)) ∈ tbl := (tm 860 (by decide +kernel) rfl)
theorem cm_M_nextBit : Cond.instanceMethod my_M_nextBit ∈ tbl := (tm 859 (by decide +kernel) rfl)
theorem cv_M_nextBit : Cond.selects rn_M my_M_nextBit my_M_nextBit ∈ tbl := (tp 37 (by decide +kernel) rfl)
theorem cw_M_163 : cw rn_M 163 my_M_close cd_M_close 3 none 2 := ⟨(tm 861 (by decide +kernel) rfl), (tm 8 (by decide +kernel) rfl), (tm 864 (by decide +kernel) rfl), ⟨by decide, by decide, by decide +kernel⟩, by decide⟩
theorem ce_M_close : Cond.code my_M_close cd_M_close 3 none ∈ tbl := (tm 864 (by decide +kernel) rfl)
theorem cm_M_close : Cond.instanceMethod my_M_close ∈ tbl := (tm 863 (by decide +kernel) rfl)
theorem cv_M_close : Cond.selects rn_M my_M_close my_M_close ∈ tbl := (tp 38 (by decide +kernel) rfl)
theorem cw_M_166 : cw rn_M 166 my_M_child cd_M_child 5 (some (.int)) 2 := ⟨(tm 873 (by decide +kernel) rfl), (tm 8 (by decide +kernel) rfl), (tm 876 (by decide +kernel) rfl), ⟨by decide, by decide, by decide +kernel⟩, by decide⟩
theorem ce_M_child : Cond.code my_M_child cd_M_child 5 (some (.int)) ∈ tbl := (tm 876 (by decide +kernel) rfl)
theorem cm_M_child : Cond.instanceMethod my_M_child ∈ tbl := (tm 875 (by decide +kernel) rfl)
theorem cv_M_child : Cond.selects rn_M my_M_child my_M_child ∈ tbl := (tp 41 (by decide +kernel) rfl)
theorem cw_M_170 : cw rn_M 170 my_M_giveNumbers cd_M_giveNumbers 7 none 1 := ⟨(tm 869 (by decide +kernel) rfl), (tm 8 (by decide +kernel) rfl), (tm 872 (by decide +kernel) rfl), ⟨by decide, by decide, by decide +kernel⟩, by decide⟩
theorem ce_M_giveNumbers : Cond.code my_M_giveNumbers cd_M_giveNumbers 7 none ∈ tbl := (tm 872 (by decide +kernel) rfl)
theorem cm_M_giveNumbers : Cond.instanceMethod my_M_giveNumbers ∈ tbl := (tm 871 (by decide +kernel) rfl)
theorem cv_M_giveNumbers : Cond.selects rn_M my_M_giveNumbers my_M_giveNumbers ∈ tbl := (tp 40 (by decide +kernel) rfl)
theorem fl_M_174 : fl rn_M 174 6 38 (.int) false := ⟨rn_M, ft_M, 42, ck_M, by decide, rfl, by decide +kernel, rfl, Or.inl (tm 696 (by decide +kernel) rfl)⟩
theorem cw_M_177 : cw rn_M 177 my_M_clean cd_M_clean 4 none 1 := ⟨(tm 841 (by decide +kernel) rfl), (tm 8 (by decide +kernel) rfl), (tm 844 (by decide +kernel) rfl), ⟨by decide, by decide, by decide +kernel⟩, by decide⟩
theorem ce_M_clean : Cond.code my_M_clean cd_M_clean 4 none ∈ tbl := (tm 844 (by decide +kernel) rfl)
theorem cm_M_clean : Cond.instanceMethod my_M_clean ∈ tbl := (tm 843 (by decide +kernel) rfl)
theorem cv_M_clean : Cond.selects rn_M my_M_clean my_M_clean ∈ tbl := (tp 33 (by decide +kernel) rfl)
theorem cw_M_180 : cw rn_M 180 my_M_anyOpen cd_M_anyOpen 4 (some (.boolean)) 1 := ⟨(tm 845 (by decide +kernel) rfl), (tm 8 (by decide +kernel) rfl), (tm 848 (by decide +kernel) rfl), ⟨by decide, by decide, by decide +kernel⟩, by decide⟩
theorem ce_M_anyOpen : Cond.code my_M_anyOpen cd_M_anyOpen 4 (some (.boolean)) ∈ tbl := (tm 848 (by decide +kernel) rfl)
theorem cm_M_anyOpen : Cond.instanceMethod my_M_anyOpen ∈ tbl := (tm 847 (by decide +kernel) rfl)
theorem cv_M_anyOpen : Cond.selects rn_M my_M_anyOpen my_M_anyOpen ∈ tbl := (tp 34 (by decide +kernel) rfl)
theorem cw_M_184 : cw rn_M 184 my_M_round cd_M_round 9 none 2 := ⟨(tm 849 (by decide +kernel) rfl), (tm 8 (by decide +kernel) rfl), (tm 852 (by decide +kernel) rfl), ⟨by decide, by decide, by decide +kernel⟩, by decide⟩
theorem ce_M_round : Cond.code my_M_round cd_M_round 9 none ∈ tbl := (tm 852 (by decide +kernel) rfl)
theorem cm_M_round : Cond.instanceMethod my_M_round ∈ tbl := (tm 851 (by decide +kernel) rfl)
theorem cv_M_round : Cond.selects rn_M my_M_round my_M_round ∈ tbl := (tp 35 (by decide +kernel) rfl)
theorem cw_M_187 : cw rn_M 187 my_M_settle cd_M_settle 6 none 2 := ⟨(tm 865 (by decide +kernel) rfl), (tm 8 (by decide +kernel) rfl), (tm 868 (by decide +kernel) rfl), ⟨by decide, by decide, by decide +kernel⟩, by decide⟩
theorem ce_M_settle : Cond.code my_M_settle cd_M_settle 6 none ∈ tbl := (tm 868 (by decide +kernel) rfl)
theorem cm_M_settle : Cond.instanceMethod my_M_settle ∈ tbl := (tm 867 (by decide +kernel) rfl)
theorem cv_M_settle : Cond.selects rn_M my_M_settle my_M_settle ∈ tbl := (tp 39 (by decide +kernel) rfl)
theorem cw_M_191 : cw rn_M 191 my_M_sender cd_M_sender 5 (some (.int)) 2 := ⟨(tm 890 (by decide +kernel) rfl), (tm 8 (by decide +kernel) rfl), (tm 893 (by decide +kernel) rfl), ⟨by decide, by decide, by decide +kernel⟩, by decide⟩
theorem ce_M_sender : Cond.code my_M_sender cd_M_sender 5 (some (.int)) ∈ tbl := (tm 893 (by decide +kernel) rfl)
theorem cm_M_sender : Cond.instanceMethod my_M_sender ∈ tbl := (tm 892 (by decide +kernel) rfl)
theorem cv_M_sender : Cond.selects rn_M my_M_sender my_M_sender ∈ tbl := (tp 45 (by decide +kernel) rfl)
theorem cw_M_195 : cw rn_M 195 my_M_send cd_M_send 8 none 1 := ⟨(tm 894 (by decide +kernel) rfl), (tm 8 (by decide +kernel) rfl), (tm 897 (by decide +kernel) rfl), ⟨by decide, by decide, by decide +kernel⟩, by decide⟩
theorem ce_M_send : Cond.code my_M_send cd_M_send 8 none ∈ tbl := (tm 897 (by decide +kernel) rfl)
theorem cm_M_send : Cond.instanceMethod my_M_send ∈ tbl := (tm 896 (by decide +kernel) rfl)
theorem cv_M_send : Cond.selects rn_M my_M_send my_M_send ∈ tbl := (tp 46 (by decide +kernel) rfl)
theorem fl_M_198 : fl rn_M 198 6 41 (.int) false := ⟨rn_M, ft_M, 42, ck_M, by decide, rfl, by decide +kernel, rfl, Or.inl (tm 699 (by decide +kernel) rfl)⟩
theorem cw_M_203 : cw rn_M 203 my_M_numbered cd_M_numbered 4 (some (.int)) 2 := ⟨(tm 882 (by decide +kernel) rfl), (tm 8 (by decide +kernel) rfl), (tm 885 (by decide +kernel) rfl), ⟨by decide, by decide, by decide +kernel⟩, by decide⟩
theorem ce_M_numbered : Cond.code my_M_numbered cd_M_numbered 4 (some (.int)) ∈ tbl := (tm 885 (by decide +kernel) rfl)
theorem cm_M_numbered : Cond.instanceMethod my_M_numbered ∈ tbl := (tm 884 (by decide +kernel) rfl)
theorem cv_M_numbered : Cond.selects rn_M my_M_numbered my_M_numbered ∈ tbl := (tp 43 (by decide +kernel) rfl)
theorem fl_M_206 : fl rn_M 206 6 40 (.int) false := ⟨rn_M, ft_M, 42, ck_M, by decide, rfl, by decide +kernel, rfl, Or.inl (tm 698 (by decide +kernel) rfl)⟩
theorem cw_M_209 : cw rn_M 209 my_M_busDirty cd_M_busDirty 4 (some (.boolean)) 1 := ⟨(tm 833 (by decide +kernel) rfl), (tm 8 (by decide +kernel) rfl), (tm 836 (by decide +kernel) rfl), ⟨by decide, by decide, by decide +kernel⟩, by decide⟩
theorem ce_M_busDirty : Cond.code my_M_busDirty cd_M_busDirty 4 (some (.boolean)) ∈ tbl := (tm 836 (by decide +kernel) rfl)
theorem cm_M_busDirty : Cond.instanceMethod my_M_busDirty ∈ tbl := (tm 835 (by decide +kernel) rfl)
theorem cv_M_busDirty : Cond.selects rn_M my_M_busDirty my_M_busDirty ∈ tbl := (tp 31 (by decide +kernel) rfl)
theorem cw_M_212 : cw rn_M 212 my_M_resetBus cd_M_resetBus 3 none 1 := ⟨(tm 837 (by decide +kernel) rfl), (tm 8 (by decide +kernel) rfl), (tm 840 (by decide +kernel) rfl), ⟨by decide, by decide, by decide +kernel⟩, by decide⟩
theorem ce_M_resetBus : Cond.code my_M_resetBus cd_M_resetBus 3 none ∈ tbl := (tm 840 (by decide +kernel) rfl)
theorem cm_M_resetBus : Cond.instanceMethod my_M_resetBus ∈ tbl := (tm 839 (by decide +kernel) rfl)
theorem cv_M_resetBus : Cond.selects rn_M my_M_resetBus my_M_resetBus ∈ tbl := (tp 32 (by decide +kernel) rfl)
theorem cw_M_215 : cw rn_M 215 my_M_cycle cd_M_cycle 10 none 1 := ⟨(tm 877 (by decide +kernel) rfl), (tm 8 (by decide +kernel) rfl), (tm 880 (by decide +kernel) rfl), ⟨by decide, by decide, by decide +kernel⟩, by decide⟩
theorem ce_M_cycle : Cond.code my_M_cycle cd_M_cycle 10 none ∈ tbl := (tm 880 (by decide +kernel) rfl)
theorem cm_M_cycle : Cond.instanceMethod my_M_cycle ∈ tbl := (tm 879 (by decide +kernel) rfl)
theorem cv_M_cycle : Cond.selects rn_M my_M_cycle my_M_cycle ∈ tbl := (tp 42 (by decide +kernel) rfl)
theorem cw_M_218 : cw rn_M 218 my_M_slot cd_M_slot 4 none 1 := ⟨(tm 886 (by decide +kernel) rfl), (tm 8 (by decide +kernel) rfl), (tm 889 (by decide +kernel) rfl), ⟨by decide, by decide, by decide +kernel⟩, by decide⟩
theorem ce_M_slot : Cond.code my_M_slot cd_M_slot 4 none ∈ tbl := (tm 889 (by decide +kernel) rfl)
theorem cm_M_slot : Cond.instanceMethod my_M_slot ∈ tbl := (tm 888 (by decide +kernel) rfl)
theorem cv_M_slot : Cond.selects rn_M my_M_slot my_M_slot ∈ tbl := (tp 44 (by decide +kernel) rfl)
theorem cw_M_221 : cw rn_M 221 my_M_findBuses cd_M_findBuses 3 none 0 := ⟨(tm 825 (by decide +kernel) rfl), (tm 8 (by decide +kernel) rfl), (tm 828 (by decide +kernel) rfl), ⟨by decide, by decide, by decide +kernel⟩, by decide⟩
theorem ce_M_findBuses : Cond.code my_M_findBuses cd_M_findBuses 3 none ∈ tbl := (tm 828 (by decide +kernel) rfl)
theorem cm_M_findBuses : Cond.instanceMethod my_M_findBuses ∈ tbl := (tm 827 (by decide +kernel) rfl)
theorem cv_M_findBuses : Cond.selects rn_M my_M_findBuses my_M_findBuses ∈ tbl := (tp 29 (by decide +kernel) rfl)
theorem cw_M_224 : cw rn_M 224 my_M_tickBus cd_M_tickBus 2 none 1 := ⟨(tm 829 (by decide +kernel) rfl), (tm 8 (by decide +kernel) rfl), (tm 832 (by decide +kernel) rfl), ⟨by decide, by decide, by decide +kernel⟩, by decide⟩
theorem ce_M_tickBus : Cond.code my_M_tickBus cd_M_tickBus 2 none ∈ tbl := (tm 832 (by decide +kernel) rfl)
theorem cm_M_tickBus : Cond.instanceMethod my_M_tickBus ∈ tbl := (tm 831 (by decide +kernel) rfl)
theorem cv_M_tickBus : Cond.selects rn_M my_M_tickBus my_M_tickBus ∈ tbl := (tp 30 (by decide +kernel) rfl)
theorem cw_M_227 : cw rn_M 227 my_M_comeLate cd_M_comeLate 4 none 0 := ⟨(tm 910 (by decide +kernel) rfl), (tm 8 (by decide +kernel) rfl), (tm 913 (by decide +kernel) rfl), ⟨by decide, by decide, by decide +kernel⟩, by decide⟩
theorem ce_M_comeLate : Cond.code my_M_comeLate cd_M_comeLate 4 none ∈ tbl := (tm 913 (by decide +kernel) rfl)
theorem cm_M_comeLate : Cond.instanceMethod my_M_comeLate ∈ tbl := (tm 912 (by decide +kernel) rfl)
theorem cv_M_comeLate : Cond.selects rn_M my_M_comeLate my_M_comeLate ∈ tbl := (tp 50 (by decide +kernel) rfl)
theorem cw_M_230 : cw rn_M 230 my_M_waiting cd_M_waiting 4 (some (.int)) 1 := ⟨(tm 934 (by decide +kernel) rfl), (tm 8 (by decide +kernel) rfl), (tm 937 (by decide +kernel) rfl), ⟨by decide, by decide, by decide +kernel⟩, by decide⟩
theorem ce_M_waiting : Cond.code my_M_waiting cd_M_waiting 4 (some (.int)) ∈ tbl := (tm 937 (by decide +kernel) rfl)
theorem cm_M_waiting : Cond.instanceMethod my_M_waiting ∈ tbl := (tm 936 (by decide +kernel) rfl)
theorem cv_M_waiting : Cond.selects rn_M my_M_waiting my_M_waiting ∈ tbl := (tp 51 (by decide +kernel) rfl)
theorem cw_L_7 : cw rn_L 7 my_S_plug cd_S_plug 5 (some (.int)) 4 := ⟨(tm 219 (by decide +kernel) rfl), (tm 1 (by decide +kernel) rfl), (tm 222 (by decide +kernel) rfl), ⟨by decide, by decide, by decide +kernel⟩, by decide⟩
theorem ce_S_plug : Cond.code my_S_plug cd_S_plug 5 (some (.int)) ∈ tbl := (tm 222 (by decide +kernel) rfl)
theorem cm_S_plug : Cond.instanceMethod my_S_plug ∈ tbl := (tm 220 (by decide +kernel) rfl)
theorem cv_S_plug : Cond.selects rn_S my_S_plug my_S_plug ∈ tbl := (tm 221 (by decide +kernel) rfl)
theorem cw_L_19 : cw rn_L 19 my_S_unplug cd_S_unplug 4 (some (.int)) 2 := ⟨(tm 342 (by decide +kernel) rfl), (tm 1 (by decide +kernel) rfl), (tm 345 (by decide +kernel) rfl), ⟨by decide, by decide, by decide +kernel⟩, by decide⟩
theorem ce_S_unplug : Cond.code my_S_unplug cd_S_unplug 4 (some (.int)) ∈ tbl := (tm 345 (by decide +kernel) rfl)
theorem cm_S_unplug : Cond.instanceMethod my_S_unplug ∈ tbl := (tm 343 (by decide +kernel) rfl)
theorem cv_S_unplug : Cond.selects rn_S my_S_unplug my_S_unplug ∈ tbl := (tm 344 (by decide +kernel) rfl)
theorem cw_L_23 : cw rn_L 23 my_S_reset cd_S_reset 6 none 4 := ⟨(tm 354 (by decide +kernel) rfl), (tm 1 (by decide +kernel) rfl), (tm 357 (by decide +kernel) rfl), ⟨by decide, by decide, by decide +kernel⟩, by decide⟩
theorem ce_S_reset : Cond.code my_S_reset cd_S_reset 6 none ∈ tbl := (tm 357 (by decide +kernel) rfl)
theorem cm_S_reset : Cond.instanceMethod my_S_reset ∈ tbl := (tm 355 (by decide +kernel) rfl)
theorem cv_S_reset : Cond.selects rn_S my_S_reset my_S_reset ∈ tbl := (tm 356 (by decide +kernel) rfl)
theorem cw_L_27 : cw rn_L 27 my_S_ask cd_S_ask 10 (some (.int)) 6 := ⟨(tm 363 (by decide +kernel) rfl), (tm 1 (by decide +kernel) rfl), (tm 366 (by decide +kernel) rfl), ⟨by decide, by decide, by decide +kernel⟩, by decide⟩
theorem ce_S_ask : Cond.code my_S_ask cd_S_ask 10 (some (.int)) ∈ tbl := (tm 366 (by decide +kernel) rfl)
theorem cm_S_ask : Cond.instanceMethod my_S_ask ∈ tbl := (tm 364 (by decide +kernel) rfl)
theorem cv_S_ask : Cond.selects rn_S my_S_ask my_S_ask ∈ tbl := (tm 365 (by decide +kernel) rfl)
theorem cw_L_33 : cw rn_L 33 my_S_talk cd_S_talk 4 none 3 := ⟨(tm 453 (by decide +kernel) rfl), (tm 1 (by decide +kernel) rfl), (tm 456 (by decide +kernel) rfl), ⟨by decide, by decide, by decide +kernel⟩, by decide⟩
theorem ce_S_talk : Cond.code my_S_talk cd_S_talk 4 none ∈ tbl := (tm 456 (by decide +kernel) rfl)
theorem cm_S_talk : Cond.instanceMethod my_S_talk ∈ tbl := (tm 454 (by decide +kernel) rfl)
theorem cv_S_talk : Cond.selects rn_S my_S_talk my_S_talk ∈ tbl := (tm 455 (by decide +kernel) rfl)
theorem cw_L_37 : cw rn_L 37 my_S_time cd_S_time 2 none 1 := ⟨(tm 462 (by decide +kernel) rfl), (tm 1 (by decide +kernel) rfl), (tm 465 (by decide +kernel) rfl), ⟨by decide, by decide, by decide +kernel⟩, by decide⟩
theorem ce_S_time : Cond.code my_S_time cd_S_time 2 none ∈ tbl := (tm 465 (by decide +kernel) rfl)
theorem cm_S_time : Cond.instanceMethod my_S_time ∈ tbl := (tm 463 (by decide +kernel) rfl)
theorem cv_S_time : Cond.selects rn_S my_S_time my_S_time ∈ tbl := (tm 464 (by decide +kernel) rfl)
theorem cw_L_41 : cw rn_L 41 my_S_tick cd_S_tick 4 (some (.int)) 1 := ⟨(tm 470 (by decide +kernel) rfl), (tm 1 (by decide +kernel) rfl), (tm 473 (by decide +kernel) rfl), ⟨by decide, by decide, by decide +kernel⟩, by decide⟩
theorem ce_S_tick : Cond.code my_S_tick cd_S_tick 4 (some (.int)) ∈ tbl := (tm 473 (by decide +kernel) rfl)
theorem cm_S_tick : Cond.instanceMethod my_S_tick ∈ tbl := (tm 471 (by decide +kernel) rfl)
theorem cv_S_tick : Cond.selects rn_S my_S_tick my_S_tick ∈ tbl := (tm 472 (by decide +kernel) rfl)
theorem cw_L_45 : cw rn_L 45 my_S_ended cd_S_ended 4 (some (.int)) 2 := ⟨(tm 615 (by decide +kernel) rfl), (tm 1 (by decide +kernel) rfl), (tm 618 (by decide +kernel) rfl), ⟨by decide, by decide, by decide +kernel⟩, by decide⟩
theorem ce_S_ended : Cond.code my_S_ended cd_S_ended 4 (some (.int)) ∈ tbl := (tm 618 (by decide +kernel) rfl)
theorem cm_S_ended : Cond.instanceMethod my_S_ended ∈ tbl := (tm 616 (by decide +kernel) rfl)
theorem cv_S_ended : Cond.selects rn_S my_S_ended my_S_ended ∈ tbl := (tm 617 (by decide +kernel) rfl)
theorem cw_L_48 : cw rn_L 48 my_S_value cd_S_value 4 (some (.int)) 2 := ⟨(tm 627 (by decide +kernel) rfl), (tm 1 (by decide +kernel) rfl), (tm 630 (by decide +kernel) rfl), ⟨by decide, by decide, by decide +kernel⟩, by decide⟩
theorem ce_S_value : Cond.code my_S_value cd_S_value 4 (some (.int)) ∈ tbl := (tm 630 (by decide +kernel) rfl)
theorem cm_S_value : Cond.instanceMethod my_S_value ∈ tbl := (tm 628 (by decide +kernel) rfl)
theorem cv_S_value : Cond.selects rn_S my_S_value my_S_value ∈ tbl := (tm 629 (by decide +kernel) rfl)
theorem cw_L_51 : cw rn_L 51 my_S_about cd_S_about 4 (some (.int)) 2 := ⟨(tm 636 (by decide +kernel) rfl), (tm 1 (by decide +kernel) rfl), (tm 639 (by decide +kernel) rfl), ⟨by decide, by decide, by decide +kernel⟩, by decide⟩
theorem ce_S_about : Cond.code my_S_about cd_S_about 4 (some (.int)) ∈ tbl := (tm 639 (by decide +kernel) rfl)
theorem cm_S_about : Cond.instanceMethod my_S_about ∈ tbl := (tm 637 (by decide +kernel) rfl)
theorem cv_S_about : Cond.selects rn_S my_S_about my_S_about ∈ tbl := (tm 638 (by decide +kernel) rfl)
theorem cw_L_54 : cw rn_L 54 my_S_word cd_S_word 3 (some (.int)) 2 := ⟨(tm 648 (by decide +kernel) rfl), (tm 1 (by decide +kernel) rfl), (tm 651 (by decide +kernel) rfl), ⟨by decide, by decide, by decide +kernel⟩, by decide⟩
theorem ce_S_word : Cond.code my_S_word cd_S_word 3 (some (.int)) ∈ tbl := (tm 651 (by decide +kernel) rfl)
theorem cm_S_word : Cond.instanceMethod my_S_word ∈ tbl := (tm 649 (by decide +kernel) rfl)
theorem cv_S_word : Cond.selects rn_S my_S_word my_S_word ∈ tbl := (tm 650 (by decide +kernel) rfl)
theorem nk_L_8 : nk rn_L 8 5 := ⟨rn_S, ft_S, 9, ck_S, (tm 17 (by decide +kernel) rfl), (tm 18 (by decide +kernel) rfl), (tm 1 (by decide +kernel) rfl)⟩
theorem cw_L_57 : cw rn_L 57 my_S_init cd_S_init 2 none 0 := ⟨(tm 19 (by decide +kernel) rfl), (tm 1 (by decide +kernel) rfl), (tm 21 (by decide +kernel) rfl), ⟨by decide, by decide, by decide +kernel⟩, by decide⟩
theorem ce_S_init : Cond.code my_S_init cd_S_init 2 none ∈ tbl := (tm 21 (by decide +kernel) rfl)
theorem cm_S_init : Cond.instanceMethod my_S_init ∈ tbl := (tm 20 (by decide +kernel) rfl)
theorem nk_L_58 : nk rn_L 58 6 := ⟨rn_M, ft_M, 42, ck_M, (tm 652 (by decide +kernel) rfl), (tm 653 (by decide +kernel) rfl), (tm 8 (by decide +kernel) rfl)⟩
theorem cw_L_60 : cw rn_L 60 my_M_init cd_M_init 2 none 0 := ⟨(tm 654 (by decide +kernel) rfl), (tm 8 (by decide +kernel) rfl), (tm 656 (by decide +kernel) rfl), ⟨by decide, by decide, by decide +kernel⟩, by decide⟩
theorem ce_M_init : Cond.code my_M_init cd_M_init 2 none ∈ tbl := (tm 656 (by decide +kernel) rfl)
theorem cm_M_init : Cond.instanceMethod my_M_init ∈ tbl := (tm 655 (by decide +kernel) rfl)
theorem cw_L_66 : cw rn_L 66 my_M_plug cd_M_plug 5 (some (.int)) 4 := ⟨(tm 789 (by decide +kernel) rfl), (tm 8 (by decide +kernel) rfl), (tm 792 (by decide +kernel) rfl), ⟨by decide, by decide, by decide +kernel⟩, by decide⟩
theorem ce_M_plug : Cond.code my_M_plug cd_M_plug 5 (some (.int)) ∈ tbl := (tm 792 (by decide +kernel) rfl)
theorem cm_M_plug : Cond.instanceMethod my_M_plug ∈ tbl := (tm 790 (by decide +kernel) rfl)
theorem cv_M_plug : Cond.selects rn_M my_M_plug my_M_plug ∈ tbl := (tm 791 (by decide +kernel) rfl)
theorem cw_L_67 : cw rn_L 67 my_M_thrown cd_M_thrown 1 (some (.int)) 0 := ⟨(tm 785 (by decide +kernel) rfl), (tm 8 (by decide +kernel) rfl), (tm 788 (by decide +kernel) rfl), ⟨by decide, by decide, by decide +kernel⟩, by decide⟩
theorem ce_M_thrown : Cond.code my_M_thrown cd_M_thrown 1 (some (.int)) ∈ tbl := (tm 788 (by decide +kernel) rfl)
theorem cm_M_thrown : Cond.instanceMethod my_M_thrown ∈ tbl := (tm 786 (by decide +kernel) rfl)
theorem cv_M_thrown : Cond.selects rn_M my_M_thrown my_M_thrown ∈ tbl := (tm 787 (by decide +kernel) rfl)
theorem cw_L_74 : cw rn_L 74 my_M_unplug cd_M_unplug 4 (some (.int)) 2 := ⟨(tm 804 (by decide +kernel) rfl), (tm 8 (by decide +kernel) rfl), (tm 807 (by decide +kernel) rfl), ⟨by decide, by decide, by decide +kernel⟩, by decide⟩
theorem ce_M_unplug : Cond.code my_M_unplug cd_M_unplug 4 (some (.int)) ∈ tbl := (tm 807 (by decide +kernel) rfl)
theorem cm_M_unplug : Cond.instanceMethod my_M_unplug ∈ tbl := (tm 805 (by decide +kernel) rfl)
theorem cv_M_unplug : Cond.selects rn_M my_M_unplug my_M_unplug ∈ tbl := (tm 806 (by decide +kernel) rfl)
theorem cw_L_78 : cw rn_L 78 my_M_reset cd_M_reset 5 none 4 := ⟨(tm 808 (by decide +kernel) rfl), (tm 8 (by decide +kernel) rfl), (tm 811 (by decide +kernel) rfl), ⟨by decide, by decide, by decide +kernel⟩, by decide⟩
theorem ce_M_reset : Cond.code my_M_reset cd_M_reset 5 none ∈ tbl := (tm 811 (by decide +kernel) rfl)
theorem cm_M_reset : Cond.instanceMethod my_M_reset ∈ tbl := (tm 809 (by decide +kernel) rfl)
theorem cv_M_reset : Cond.selects rn_M my_M_reset my_M_reset ∈ tbl := (tm 810 (by decide +kernel) rfl)
theorem cw_L_82 : cw rn_L 82 my_M_ask cd_M_ask 8 (some (.int)) 6 := ⟨(tm 813 (by decide +kernel) rfl), (tm 8 (by decide +kernel) rfl), (tm 816 (by decide +kernel) rfl), ⟨by decide, by decide, by decide +kernel⟩, by decide⟩
theorem ce_M_ask : Cond.code my_M_ask cd_M_ask 8 (some (.int)) ∈ tbl := (tm 816 (by decide +kernel) rfl)
theorem cm_M_ask : Cond.instanceMethod my_M_ask ∈ tbl := (tm 814 (by decide +kernel) rfl)
theorem cv_M_ask : Cond.selects rn_M my_M_ask my_M_ask ∈ tbl := (tm 815 (by decide +kernel) rfl)
theorem cw_L_86 : cw rn_L 86 my_M_talk cd_M_talk 4 none 3 := ⟨(tm 914 (by decide +kernel) rfl), (tm 8 (by decide +kernel) rfl), (tm 917 (by decide +kernel) rfl), ⟨by decide, by decide, by decide +kernel⟩, by decide⟩
theorem ce_M_talk : Cond.code my_M_talk cd_M_talk 4 none ∈ tbl := (tm 917 (by decide +kernel) rfl)
theorem cm_M_talk : Cond.instanceMethod my_M_talk ∈ tbl := (tm 915 (by decide +kernel) rfl)
theorem cv_M_talk : Cond.selects rn_M my_M_talk my_M_talk ∈ tbl := (tm 916 (by decide +kernel) rfl)
theorem cw_L_90 : cw rn_L 90 my_M_time cd_M_time 2 none 1 := ⟨(tm 918 (by decide +kernel) rfl), (tm 8 (by decide +kernel) rfl), (tm 921 (by decide +kernel) rfl), ⟨by decide, by decide, by decide +kernel⟩, by decide⟩
theorem ce_M_time : Cond.code my_M_time cd_M_time 2 none ∈ tbl := (tm 921 (by decide +kernel) rfl)
theorem cm_M_time : Cond.instanceMethod my_M_time ∈ tbl := (tm 919 (by decide +kernel) rfl)
theorem cv_M_time : Cond.selects rn_M my_M_time my_M_time ∈ tbl := (tm 920 (by decide +kernel) rfl)
theorem cw_L_94 : cw rn_L 94 my_M_tick cd_M_tick 4 (some (.int)) 1 := ⟨(tm 821 (by decide +kernel) rfl), (tm 8 (by decide +kernel) rfl), (tm 824 (by decide +kernel) rfl), ⟨by decide, by decide, by decide +kernel⟩, by decide⟩
theorem ce_M_tick : Cond.code my_M_tick cd_M_tick 4 (some (.int)) ∈ tbl := (tm 824 (by decide +kernel) rfl)
theorem cm_M_tick : Cond.instanceMethod my_M_tick ∈ tbl := (tm 822 (by decide +kernel) rfl)
theorem cv_M_tick : Cond.selects rn_M my_M_tick my_M_tick ∈ tbl := (tm 823 (by decide +kernel) rfl)
theorem cw_L_97 : cw rn_L 97 my_M_ended cd_M_ended 3 (some (.int)) 2 := ⟨(tm 922 (by decide +kernel) rfl), (tm 8 (by decide +kernel) rfl), (tm 925 (by decide +kernel) rfl), ⟨by decide, by decide, by decide +kernel⟩, by decide⟩
theorem ce_M_ended : Cond.code my_M_ended cd_M_ended 3 (some (.int)) ∈ tbl := (tm 925 (by decide +kernel) rfl)
theorem cm_M_ended : Cond.instanceMethod my_M_ended ∈ tbl := (tm 923 (by decide +kernel) rfl)
theorem cv_M_ended : Cond.selects rn_M my_M_ended my_M_ended ∈ tbl := (tm 924 (by decide +kernel) rfl)
theorem cw_L_100 : cw rn_L 100 my_M_value cd_M_value 4 (some (.int)) 2 := ⟨(tm 926 (by decide +kernel) rfl), (tm 8 (by decide +kernel) rfl), (tm 929 (by decide +kernel) rfl), ⟨by decide, by decide, by decide +kernel⟩, by decide⟩
theorem ce_M_value : Cond.code my_M_value cd_M_value 4 (some (.int)) ∈ tbl := (tm 929 (by decide +kernel) rfl)
theorem cm_M_value : Cond.instanceMethod my_M_value ∈ tbl := (tm 927 (by decide +kernel) rfl)
theorem cv_M_value : Cond.selects rn_M my_M_value my_M_value ∈ tbl := (tm 928 (by decide +kernel) rfl)
theorem cw_L_103 : cw rn_L 103 my_M_about cd_M_about 3 (some (.int)) 2 := ⟨(tm 930 (by decide +kernel) rfl), (tm 8 (by decide +kernel) rfl), (tm 933 (by decide +kernel) rfl), ⟨by decide, by decide, by decide +kernel⟩, by decide⟩
theorem ce_M_about : Cond.code my_M_about cd_M_about 3 (some (.int)) ∈ tbl := (tm 933 (by decide +kernel) rfl)
theorem cm_M_about : Cond.instanceMethod my_M_about ∈ tbl := (tm 931 (by decide +kernel) rfl)
theorem cv_M_about : Cond.selects rn_M my_M_about my_M_about ∈ tbl := (tm 932 (by decide +kernel) rfl)
theorem cw_L_106 : cw rn_L 106 my_M_word cd_M_word 3 (some (.int)) 2 := ⟨(tm 938 (by decide +kernel) rfl), (tm 8 (by decide +kernel) rfl), (tm 941 (by decide +kernel) rfl), ⟨by decide, by decide, by decide +kernel⟩, by decide⟩
theorem ce_M_word : Cond.code my_M_word cd_M_word 3 (some (.int)) ∈ tbl := (tm 941 (by decide +kernel) rfl)
theorem cm_M_word : Cond.instanceMethod my_M_word ∈ tbl := (tm 939 (by decide +kernel) rfl)
theorem cv_M_word : Cond.selects rn_M my_M_word my_M_word ∈ tbl := (tm 940 (by decide +kernel) rfl)
theorem cw_L_107 : cw rn_L 107 my_S_count cd_S_count 2 (some (.int)) 1 := ⟨(tm 188 (by decide +kernel) rfl), (tm 1 (by decide +kernel) rfl), (tm 191 (by decide +kernel) rfl), ⟨by decide, by decide, by decide +kernel⟩, by decide⟩
theorem ce_S_count : Cond.code my_S_count cd_S_count 2 (some (.int)) ∈ tbl := (tm 191 (by decide +kernel) rfl)
theorem cm_S_count : Cond.instanceMethod my_S_count ∈ tbl := (tm 189 (by decide +kernel) rfl)
theorem cv_S_count : Cond.selects rn_S my_S_count my_S_count ∈ tbl := (tm 190 (by decide +kernel) rfl)
theorem cw_L_110 : cw rn_L 110 my_M_count cd_M_count 4 (some (.int)) 1 := ⟨(tm 942 (by decide +kernel) rfl), (tm 8 (by decide +kernel) rfl), (tm 945 (by decide +kernel) rfl), ⟨by decide, by decide, by decide +kernel⟩, by decide⟩
theorem ce_M_count : Cond.code my_M_count cd_M_count 4 (some (.int)) ∈ tbl := (tm 945 (by decide +kernel) rfl)
theorem cm_M_count : Cond.instanceMethod my_M_count ∈ tbl := (tm 943 (by decide +kernel) rfl)
theorem cv_M_count : Cond.selects rn_M my_M_count my_M_count ∈ tbl := (tm 944 (by decide +kernel) rfl)
end
section
/-- a truth value as an int; an index or -1 -/
def zi (b : Bool) : Int32 := bif b then 1 else 0
def oi (r : Option Nat) : Int32 := match r with
  | none => -1
  | some k => nI k
theorem zi_01 (b : Bool) : zi b = 0 ∨ zi b = 1 := by cases b <;> simp [zi]
theorem zi_0 {b : Bool} : zi b = 0 ↔ b = false := by cases b <;> simp [zi]
theorem zi_n (b : Bool) : narrow .boolean (.int (zi b)) = .int (zi b) := by cases b <;> rfl
theorem zi_f (b : Bool) : fits .boolean (.int (zi b)) = true := by cases b <;> rfl
theorem nI_m1 {k : Nat} (hk : k < 2 ^ 31) : ¬ nI k = -1 := by
  intro z
  have h1 := nI_toInt hk
  rw [z] at h1
  have h2 : (-1 : Int32).toInt = -1 := by decide
  rw [h2] at h1
  omega
theorem oi_m1 {r : Option Nat} (hr : ∀ k, r = some k → k < 2 ^ 31) : oi r = -1 ↔ r = none := by
  cases r with
  | none => simp [oi]
  | some k =>
    constructor
    · intro z
      exact absurd z (nI_m1 (hr k rfl))
    · intro z
      cases z
theorem nI_lt0 {k : Nat} (hk : k < 2 ^ 31) : ¬ nI k < 0 := nI_pos hk
theorem m1_lt0 : (-1 : Int32) < 0 := by decide
section NRows
variable {p : Program} {l : Launch} {e : Env} {R : Room} {s : State} {m : MethodId} {args : Array Value} {below : List Frame} {meth : Method} {c : Code} {Q : State → Prop} {D : va_G} {A : Nat → ClassId} {G : Heap} {cc : ByteArray} {nL : Nat} {own : String} {bc bs : Nat} {h : Hp} {n : Nat} {lo : List (Nat × Value)} {pc : Nat} {st : List Value}
theorem r_iaddN (C : Cx p l s m args meth c D A G cc nL own) {a b : Nat} (d : decode cc pc = .ok (.iadd, 1)) (k : Rw p l e R s m args below meth c Q D G nL bc bs h n lo (pc + 1) (.int (nI (a + b)) :: st)) : Rw p l e R s m args below meth c Q D G nL bc bs h n lo pc (.int (nI b) :: .int (nI a) :: st) := r_iadd C d (by rw [nI_add a b]; exact k)
theorem r_imulN (C : Cx p l s m args meth c D A G cc nL own) {a b : Nat} (d : decode cc pc = .ok (.imul, 1)) (k : Rw p l e R s m args below meth c Q D G nL bc bs h n lo (pc + 1) (.int (nI (a * b)) :: st)) : Rw p l e R s m args below meth c Q D G nL bc bs h n lo pc (.int (nI b) :: .int (nI a) :: st) := r_imul C d (by rw [pk_mul a b]; exact k)
theorem r_isubN (C : Cx p l s m args meth c D A G cc nL own) {a b : Nat} (d : decode cc pc = .ok (.isub, 1)) (hb : b ≤ a) (k : Rw p l e R s m args below meth c Q D G nL bc bs h n lo (pc + 1) (.int (nI (a - b)) :: st)) : Rw p l e R s m args below meth c Q D G nL bc bs h n lo pc (.int (nI b) :: .int (nI a) :: st) := r_isub C d (by rw [pk_sub hb]; exact k)
theorem r_idivN (C : Cx p l s m args meth c D A G cc nL own) {a b : Nat} (d : decode cc pc = .ok (.idiv, 1)) (ha : a < 2 ^ 31) (h0 : 0 < b) (hb : b < 2 ^ 31) (k : Rw p l e R s m args below meth c Q D G nL bc bs h n lo (pc + 1) (.int (nI (a / b)) :: st)) : Rw p l e R s m args below meth c Q D G nL bc bs h n lo pc (.int (nI b) :: .int (nI a) :: st) := r_idiv C d (nI_ne0 h0 hb) (by rw [pk_div ha h0 hb]; exact k)
theorem r_iremN (C : Cx p l s m args meth c D A G cc nL own) {a b : Nat} (d : decode cc pc = .ok (.irem, 1)) (ha : a < 2 ^ 31) (h0 : 0 < b) (hb : b < 2 ^ 31) (k : Rw p l e R s m args below meth c Q D G nL bc bs h n lo (pc + 1) (.int (nI (a % b)) :: st)) : Rw p l e R s m args below meth c Q D G nL bc bs h n lo pc (.int (nI b) :: .int (nI a) :: st) := r_irem C d (nI_ne0 h0 hb) (by rw [pk_rem ha h0 hb]; exact k)
theorem r_iincN (C : Cx p l s m args meth c D A G cc nL own) {i a : Nat} (d : decode cc pc = .ok (.iinc i 1, 3)) (hg : gl lo i = some (.int (nI a))) (hn : i < nL) (hw : nw lo i) (k : Rw p l e R s m args below meth c Q D G nL bc bs h n (sl lo i (.int (nI (a + 1)))) (pc + 3) st) : Rw p l e R s m args below meth c Q D G nL bc bs h n lo pc st := r_iinc C d hg (show nI a + Int32.ofInt 1 = nI (a + 1) from nI_1 a) hn hw k
theorem r_icmp_ltN (C : Cx p l s m args meth c D A G cc nL own) {a b : Nat} {off : Int} {tgt : Nat} (d : decode cc pc = .ok (.if_icmp .lt off, 3)) (ht : (pc : Int) + off = (tgt : Int)) (ha : a < 2 ^ 31) (hb : b < 2 ^ 31) (kt : a < b → Rw p l e R s m args below meth c Q D G nL bc bs h n lo tgt st) (kf : b ≤ a → Rw p l e R s m args below meth c Q D G nL bc bs h n lo (pc + 3) st) : Rw p l e R s m args below meth c Q D G nL bc bs h n lo pc (.int (nI b) :: .int (nI a) :: st) := r_icmp_lt C d ht (fun z => kt ((nI_ltI ha hb).mp z)) (fun z => kf (Nat.not_lt.mp (fun w => z ((nI_ltI ha hb).mpr w))))
theorem r_icmp_geN (C : Cx p l s m args meth c D A G cc nL own) {a b : Nat} {off : Int} {tgt : Nat} (d : decode cc pc = .ok (.if_icmp .ge off, 3)) (ht : (pc : Int) + off = (tgt : Int)) (ha : a < 2 ^ 31) (hb : b < 2 ^ 31) (kt : b ≤ a → Rw p l e R s m args below meth c Q D G nL bc bs h n lo tgt st) (kf : a < b → Rw p l e R s m args below meth c Q D G nL bc bs h n lo (pc + 3) st) : Rw p l e R s m args below meth c Q D G nL bc bs h n lo pc (.int (nI b) :: .int (nI a) :: st) := r_icmp_ge C d ht (fun z => kt ((nI_leI hb ha).mp z)) (fun z => kf (Nat.not_le.mp (fun w => z ((nI_leI hb ha).mpr w))))
theorem r_icmp_gtN (C : Cx p l s m args meth c D A G cc nL own) {a b : Nat} {off : Int} {tgt : Nat} (d : decode cc pc = .ok (.if_icmp .gt off, 3)) (ht : (pc : Int) + off = (tgt : Int)) (ha : a < 2 ^ 31) (hb : b < 2 ^ 31) (kt : b < a → Rw p l e R s m args below meth c Q D G nL bc bs h n lo tgt st) (kf : a ≤ b → Rw p l e R s m args below meth c Q D G nL bc bs h n lo (pc + 3) st) : Rw p l e R s m args below meth c Q D G nL bc bs h n lo pc (.int (nI b) :: .int (nI a) :: st) := r_icmp_gt C d ht (fun z => kt ((nI_ltI hb ha).mp z)) (fun z => kf (Nat.not_lt.mp (fun w => z ((nI_ltI hb ha).mpr w))))
theorem r_icmp_leN (C : Cx p l s m args meth c D A G cc nL own) {a b : Nat} {off : Int} {tgt : Nat} (d : decode cc pc = .ok (.if_icmp .le off, 3)) (ht : (pc : Int) + off = (tgt : Int)) (ha : a < 2 ^ 31) (hb : b < 2 ^ 31) (kt : a ≤ b → Rw p l e R s m args below meth c Q D G nL bc bs h n lo tgt st) (kf : b < a → Rw p l e R s m args below meth c Q D G nL bc bs h n lo (pc + 3) st) : Rw p l e R s m args below meth c Q D G nL bc bs h n lo pc (.int (nI b) :: .int (nI a) :: st) := r_icmp_le C d ht (fun z => kt ((nI_leI ha hb).mp z)) (fun z => kf (Nat.not_le.mp (fun w => z ((nI_leI ha hb).mpr w))))
theorem r_icmp_eqN (C : Cx p l s m args meth c D A G cc nL own) {a b : Nat} {off : Int} {tgt : Nat} (d : decode cc pc = .ok (.if_icmp .eq off, 3)) (ht : (pc : Int) + off = (tgt : Int)) (ha : a < 2 ^ 31) (hb : b < 2 ^ 31) (kt : a = b → Rw p l e R s m args below meth c Q D G nL bc bs h n lo tgt st) (kf : ¬ a = b → Rw p l e R s m args below meth c Q D G nL bc bs h n lo (pc + 3) st) : Rw p l e R s m args below meth c Q D G nL bc bs h n lo pc (.int (nI b) :: .int (nI a) :: st) := r_icmp_eq C d ht (fun z => kt ((nI_eq ha hb).mp z)) (fun z => kf (fun w => z ((nI_eq ha hb).mpr w)))
theorem r_icmp_neN (C : Cx p l s m args meth c D A G cc nL own) {a b : Nat} {off : Int} {tgt : Nat} (d : decode cc pc = .ok (.if_icmp .ne off, 3)) (ht : (pc : Int) + off = (tgt : Int)) (ha : a < 2 ^ 31) (hb : b < 2 ^ 31) (kt : ¬ a = b → Rw p l e R s m args below meth c Q D G nL bc bs h n lo tgt st) (kf : a = b → Rw p l e R s m args below meth c Q D G nL bc bs h n lo (pc + 3) st) : Rw p l e R s m args below meth c Q D G nL bc bs h n lo pc (.int (nI b) :: .int (nI a) :: st) := r_icmp_ne C d ht (fun z => kt (fun w => z ((nI_eq ha hb).mpr w))) (fun z => kf ((nI_eq ha hb).mp z))
theorem r_if_eqZ (C : Cx p l s m args meth c D A G cc nL own) {b : Bool} {off : Int} {tgt : Nat} (d : decode cc pc = .ok (.ifCond .eq off, 3)) (ht : (pc : Int) + off = (tgt : Int)) (kt : b = false → Rw p l e R s m args below meth c Q D G nL bc bs h n lo tgt st) (kf : b = true → Rw p l e R s m args below meth c Q D G nL bc bs h n lo (pc + 3) st) : Rw p l e R s m args below meth c Q D G nL bc bs h n lo pc (.int (zi b) :: st) := r_if_eq C d ht (fun z => kt (zi_0.mp z)) (fun z => kf (by cases b with | true => rfl | false => exact absurd rfl z))
theorem r_if_neZ (C : Cx p l s m args meth c D A G cc nL own) {b : Bool} {off : Int} {tgt : Nat} (d : decode cc pc = .ok (.ifCond .ne off, 3)) (ht : (pc : Int) + off = (tgt : Int)) (kt : b = true → Rw p l e R s m args below meth c Q D G nL bc bs h n lo tgt st) (kf : b = false → Rw p l e R s m args below meth c Q D G nL bc bs h n lo (pc + 3) st) : Rw p l e R s m args below meth c Q D G nL bc bs h n lo pc (.int (zi b) :: st) := r_if_ne C d ht (fun z => kt (by cases b with | true => rfl | false => exact absurd rfl z)) (fun z => kf (zi_0.mp z))
theorem r_icmp_eqO (C : Cx p l s m args meth c D A G cc nL own) {r : Option Nat} {off : Int} {tgt : Nat} (d : decode cc pc = .ok (.if_icmp .eq off, 3)) (ht : (pc : Int) + off = (tgt : Int)) (hr : ∀ k, r = some k → k < 2 ^ 31) (kt : r = none → Rw p l e R s m args below meth c Q D G nL bc bs h n lo tgt st) (kf : ∀ k, r = some k → Rw p l e R s m args below meth c Q D G nL bc bs h n lo (pc + 3) st) : Rw p l e R s m args below meth c Q D G nL bc bs h n lo pc (.int (-1) :: .int (oi r) :: st) := r_icmp_eq C d ht (fun z => kt ((oi_m1 hr).mp z)) (fun z => by cases r with | none => exact absurd rfl z | some k => exact kf k rfl)
theorem r_icmp_neO (C : Cx p l s m args meth c D A G cc nL own) {r : Option Nat} {off : Int} {tgt : Nat} (d : decode cc pc = .ok (.if_icmp .ne off, 3)) (ht : (pc : Int) + off = (tgt : Int)) (hr : ∀ k, r = some k → k < 2 ^ 31) (kf : r = none → Rw p l e R s m args below meth c Q D G nL bc bs h n lo (pc + 3) st) (kt : ∀ k, r = some k → Rw p l e R s m args below meth c Q D G nL bc bs h n lo tgt st) : Rw p l e R s m args below meth c Q D G nL bc bs h n lo pc (.int (-1) :: .int (oi r) :: st) := r_icmp_ne C d ht (fun z => by cases r with | none => exact absurd rfl z | some k => exact kt k rfl) (fun z => kf ((oi_m1 hr).mp z))
theorem r_ialdN (C : Cx p l s m args meth c D A G cc nL own) {a k i : Nat} {f : Nat → Int32} (d : decode cc pc = .ok (.iaload, 1)) (hh : h a = some (ic A k f)) (hi : i < k) (hk : k < 2 ^ 31) (K : Rw p l e R s m args below meth c Q D G nL bc bs h n lo (pc + 1) (.int (f i) :: st)) : Rw p l e R s m args below meth c Q D G nL bc bs h n lo pc (.int (nI i) :: .ref a :: st) := r_iald C d hh rfl hi hk K
theorem r_zaldN (C : Cx p l s m args meth c D A G cc nL own) {a k i : Nat} {f : Nat → Int32} (d : decode cc pc = .ok (.baload, 1)) (hh : h a = some (zc A k f)) (hi : i < k) (hk : k < 2 ^ 31) (K : Rw p l e R s m args below meth c Q D G nL bc bs h n lo (pc + 1) (.int (f i) :: st)) : Rw p l e R s m args below meth c Q D G nL bc bs h n lo pc (.int (nI i) :: .ref a :: st) := r_zald C d hh rfl hi hk K
theorem r_aaldN (C : Cx p l s m args meth c D A G cc nL own) {a k i t : Nat} {N1 : String} {f : Nat → Option Nat} (d : decode cc pc = .ok (.aaload, 1)) (hh : h a = some (rc A t k f)) (ht : (tyz A)[t]? = some (A t, .object N1)) (hi : i < k) (hk : k < 2 ^ 31) (K : Rw p l e R s m args below meth c Q D G nL bc bs h n lo (pc + 1) (va_rf (f i) :: st)) : Rw p l e R s m args below meth c Q D G nL bc bs h n lo pc (.int (nI i) :: .ref a :: st) := r_aald C d hh ht rfl hi hk K
end NRows
end
section
section St
variable {A : Nat → ClassId} {m b : Nat} {x z : Nat → Nat → Int32} {r : Nat → Nat → Option Nat} {h : Hp}
/-- a row of a table of rows, set -/
def ur {α : Type} (x : Nat → α) (k : Nat) (f : α) : Nat → α := fun j => if j = k then f else x j
theorem ur_eq {α : Type} (x : Nat → α) (k : Nat) (f : α) : ur x k f k = f := if_pos rfl
theorem ur_ne {α : Type} {x : Nat → α} {k j : Nat} {f : α} (q : j ≠ k) : ur x k f j = x j := if_neg q
theorem ur_ur {α : Type} (x : Nat → α) (k : Nat) (f g : α) : ur (ur x k f) k g = ur x k g := by
  funext j
  by_cases q : j = k
  · rw [q, ur_eq, ur_eq]
  · rw [ur_ne q, ur_ne q, ur_ne q]
theorem ur_self {α : Type} (x : Nat → α) (k : Nat) : ur x k (x k) = x := by
  funext j
  by_cases q : j = k
  · rw [q, ur_eq]
  · rw [ur_ne q]
theorem ur_comm {α : Type} (x : Nat → α) {k j : Nat} (f g : α) (q : k ≠ j) : ur (ur x k f) j g = ur (ur x j g) k f := by
  funext i
  by_cases q1 : i = k
  · rw [q1, ur_ne q, ur_eq, ur_eq]
  · rw [ur_ne q1]
    by_cases q2 : i = j
    · rw [q2, ur_eq, ur_eq]
    · rw [ur_ne q2, ur_ne q2, ur_ne q1]
/-! the model (SerialBusModel) at m, its arrays behind it: row k of x is the array of field k; a scalar field k is x k 0 -/
def mfs (m : Nat) (x : Nat → Nat → Int32) : List Value := [.int (x 0 0), .ref (m + 1), .ref (m + 2), .ref (m + 3), .ref (m + 4), .ref (m + 5), .ref (m + 6), .ref (m + 7), .ref (m + 8), .ref (m + 9), .ref (m + 10), .ref (m + 11), .ref (m + 12), .ref (m + 13), .ref (m + 14), .ref (m + 15), .ref (m + 16), .ref (m + 17), .ref (m + 18), .ref (m + 19), .ref (m + 20), .ref (m + 21), .ref (m + 22), .ref (m + 23), .ref (m + 24), .ref (m + 25), .ref (m + 26), .ref (m + 27), .ref (m + 28), .int (x 29 0), .ref (m + 29), .ref (m + 30), .ref (m + 31), .ref (m + 32), .ref (m + 33), .ref (m + 34), .int (x 36 0), .int (x 37 0), .int (x 38 0), .int (x 39 0), .int (x 40 0), .int (x 41 0)]
def mcl (A : Nat → ClassId) (j : Nat) (f : Nat → Int32) : va_E := match j with
  | 1 => ic A 36 f
  | 2 => zc A 36 f
  | 3 => ic A 12 f
  | 4 => ic A 12 f
  | 5 => ic A 12 f
  | 6 => ic A 12 f
  | 7 => ic A 12 f
  | 8 => zc A 12 f
  | 9 => zc A 12 f
  | 10 => zc A 12 f
  | 11 => zc A 12 f
  | 12 => zc A 12 f
  | 13 => ic A 96 f
  | 14 => ic A 12 f
  | 15 => ic A 12 f
  | 16 => ic A 12 f
  | 17 => ic A 12 f
  | 18 => ic A 12 f
  | 19 => zc A 12 f
  | 20 => ic A 48 f
  | 21 => ic A 48 f
  | 22 => ic A 48 f
  | 23 => ic A 48 f
  | 24 => ic A 48 f
  | 25 => ic A 48 f
  | 26 => ic A 48 f
  | 27 => ic A 48 f
  | 28 => ic A 48 f
  | 29 => ic A 72 f
  | 30 => ic A 72 f
  | 31 => ic A 72 f
  | 32 => ic A 72 f
  | 33 => zc A 72 f
  | _ => ic A 12 f
def mfo (j : Nat) : Nat := if j ≤ 28 then j else j + 1
/-- the heap h, with the model of state x at m -/
def MH (A : Nat → ClassId) (m : Nat) (x : Nat → Nat → Int32) (h : Hp) : Hp := fun a => if a < m ∨ m + 34 < a then h a else if a = m then some (oc 6 (mfs m x)) else some (mcl A (a - m) (x (mfo (a - m))))
theorem mh_0 : MH A m x h m = some (oc 6 (mfs m x)) := by
  unfold MH
  rw [if_neg (by omega), if_pos rfl]
theorem mh_out {a : Nat} (q : a < m ∨ m + 34 < a) : MH A m x h a = h a := if_pos q
theorem mh_in {j : Nat} (q : 1 ≤ j ∧ j ≤ 34) : MH A m x h (m + j) = some (mcl A j (x (mfo j))) := by
  unfold MH
  rw [if_neg (by omega), if_neg (by omega), Nat.add_sub_cancel_left]
theorem ms_in {j : Nat} {f : Nat → Int32} (q : 1 ≤ j ∧ j ≤ 34) (hk : mfs m (ur x (mfo j) f) = mfs m x) : hs (MH A m x h) (m + j) (mcl A j f) = MH A m (ur x (mfo j) f) h := by
  funext a
  by_cases e1 : a = m + j
  · rw [e1, hs_eq, mh_in q, ur_eq]
  · rw [hs_ne e1]
    unfold MH
    by_cases e2 : a < m ∨ m + 34 < a
    · rw [if_pos e2, if_pos e2]
    · rw [if_neg e2, if_neg e2]
      by_cases e3 : a = m
      · rw [if_pos e3, if_pos e3, hk]
      · rw [if_neg e3, if_neg e3, ur_ne]
        unfold mfo
        split <;> split <;> omega
theorem mp_in {k : Nat} {v : Int32} (hk : mfs m (ur x k (fun _ => v)) = (mfs m x).set k (.int v)) (hn : ∀ j, 1 ≤ j → j ≤ 34 → mfo j ≠ k) : hs (MH A m x h) m (oc 6 ((mfs m x).set k (.int v))) = MH A m (ur x k (fun _ => v)) h := by
  funext a
  by_cases e1 : a = m
  · rw [e1, hs_eq, mh_0, hk]
  · rw [hs_ne e1]
    unfold MH
    by_cases e2 : a < m ∨ m + 34 < a
    · rw [if_pos e2, if_pos e2]
    · rw [if_neg e2, if_neg e2, if_neg e1, if_neg e1, ur_ne (hn _ (by omega) (by omega))]
theorem mh_hs {a : Nat} {c : va_E} (q : a < m ∨ m + 34 < a) : hs (MH A m x h) a c = MH A m x (hs h a c) := by
  funext i
  by_cases e1 : i = a
  · rw [e1, hs_eq, mh_out q, hs_eq]
  · rw [hs_ne e1]
    unfold MH
    by_cases e2 : i < m ∨ m + 34 < i
    · rw [if_pos e2, if_pos e2, hs_ne e1]
    · rw [if_neg e2, if_neg e2]
theorem mh_1 : MH A m x h (m + 1) = some (ic A 36 (x 1)) := mh_in (j := 1) (by decide)
theorem ms_1 {f : Nat → Int32} : hs (MH A m x h) (m + 1) (ic A 36 f) = MH A m (ur x 1 f) h := ms_in (j := 1) (by decide) rfl
theorem mh_2 : MH A m x h (m + 2) = some (zc A 36 (x 2)) := mh_in (j := 2) (by decide)
theorem ms_2 {f : Nat → Int32} : hs (MH A m x h) (m + 2) (zc A 36 f) = MH A m (ur x 2 f) h := ms_in (j := 2) (by decide) rfl
theorem mh_3 : MH A m x h (m + 3) = some (ic A 12 (x 3)) := mh_in (j := 3) (by decide)
theorem ms_3 {f : Nat → Int32} : hs (MH A m x h) (m + 3) (ic A 12 f) = MH A m (ur x 3 f) h := ms_in (j := 3) (by decide) rfl
theorem mh_4 : MH A m x h (m + 4) = some (ic A 12 (x 4)) := mh_in (j := 4) (by decide)
theorem ms_4 {f : Nat → Int32} : hs (MH A m x h) (m + 4) (ic A 12 f) = MH A m (ur x 4 f) h := ms_in (j := 4) (by decide) rfl
theorem mh_5 : MH A m x h (m + 5) = some (ic A 12 (x 5)) := mh_in (j := 5) (by decide)
theorem ms_5 {f : Nat → Int32} : hs (MH A m x h) (m + 5) (ic A 12 f) = MH A m (ur x 5 f) h := ms_in (j := 5) (by decide) rfl
theorem mh_6 : MH A m x h (m + 6) = some (ic A 12 (x 6)) := mh_in (j := 6) (by decide)
theorem ms_6 {f : Nat → Int32} : hs (MH A m x h) (m + 6) (ic A 12 f) = MH A m (ur x 6 f) h := ms_in (j := 6) (by decide) rfl
theorem mh_7 : MH A m x h (m + 7) = some (ic A 12 (x 7)) := mh_in (j := 7) (by decide)
theorem ms_7 {f : Nat → Int32} : hs (MH A m x h) (m + 7) (ic A 12 f) = MH A m (ur x 7 f) h := ms_in (j := 7) (by decide) rfl
theorem mh_8 : MH A m x h (m + 8) = some (zc A 12 (x 8)) := mh_in (j := 8) (by decide)
theorem ms_8 {f : Nat → Int32} : hs (MH A m x h) (m + 8) (zc A 12 f) = MH A m (ur x 8 f) h := ms_in (j := 8) (by decide) rfl
theorem mh_9 : MH A m x h (m + 9) = some (zc A 12 (x 9)) := mh_in (j := 9) (by decide)
theorem ms_9 {f : Nat → Int32} : hs (MH A m x h) (m + 9) (zc A 12 f) = MH A m (ur x 9 f) h := ms_in (j := 9) (by decide) rfl
theorem mh_10 : MH A m x h (m + 10) = some (zc A 12 (x 10)) := mh_in (j := 10) (by decide)
theorem ms_10 {f : Nat → Int32} : hs (MH A m x h) (m + 10) (zc A 12 f) = MH A m (ur x 10 f) h := ms_in (j := 10) (by decide) rfl
theorem mh_11 : MH A m x h (m + 11) = some (zc A 12 (x 11)) := mh_in (j := 11) (by decide)
theorem ms_11 {f : Nat → Int32} : hs (MH A m x h) (m + 11) (zc A 12 f) = MH A m (ur x 11 f) h := ms_in (j := 11) (by decide) rfl
theorem mh_12 : MH A m x h (m + 12) = some (zc A 12 (x 12)) := mh_in (j := 12) (by decide)
theorem ms_12 {f : Nat → Int32} : hs (MH A m x h) (m + 12) (zc A 12 f) = MH A m (ur x 12 f) h := ms_in (j := 12) (by decide) rfl
theorem mh_13 : MH A m x h (m + 13) = some (ic A 96 (x 13)) := mh_in (j := 13) (by decide)
theorem ms_13 {f : Nat → Int32} : hs (MH A m x h) (m + 13) (ic A 96 f) = MH A m (ur x 13 f) h := ms_in (j := 13) (by decide) rfl
theorem mh_14 : MH A m x h (m + 14) = some (ic A 12 (x 14)) := mh_in (j := 14) (by decide)
theorem ms_14 {f : Nat → Int32} : hs (MH A m x h) (m + 14) (ic A 12 f) = MH A m (ur x 14 f) h := ms_in (j := 14) (by decide) rfl
theorem mh_15 : MH A m x h (m + 15) = some (ic A 12 (x 15)) := mh_in (j := 15) (by decide)
theorem ms_15 {f : Nat → Int32} : hs (MH A m x h) (m + 15) (ic A 12 f) = MH A m (ur x 15 f) h := ms_in (j := 15) (by decide) rfl
theorem mh_16 : MH A m x h (m + 16) = some (ic A 12 (x 16)) := mh_in (j := 16) (by decide)
theorem ms_16 {f : Nat → Int32} : hs (MH A m x h) (m + 16) (ic A 12 f) = MH A m (ur x 16 f) h := ms_in (j := 16) (by decide) rfl
theorem mh_17 : MH A m x h (m + 17) = some (ic A 12 (x 17)) := mh_in (j := 17) (by decide)
theorem ms_17 {f : Nat → Int32} : hs (MH A m x h) (m + 17) (ic A 12 f) = MH A m (ur x 17 f) h := ms_in (j := 17) (by decide) rfl
theorem mh_18 : MH A m x h (m + 18) = some (ic A 12 (x 18)) := mh_in (j := 18) (by decide)
theorem ms_18 {f : Nat → Int32} : hs (MH A m x h) (m + 18) (ic A 12 f) = MH A m (ur x 18 f) h := ms_in (j := 18) (by decide) rfl
theorem mh_19 : MH A m x h (m + 19) = some (zc A 12 (x 19)) := mh_in (j := 19) (by decide)
theorem ms_19 {f : Nat → Int32} : hs (MH A m x h) (m + 19) (zc A 12 f) = MH A m (ur x 19 f) h := ms_in (j := 19) (by decide) rfl
theorem mh_20 : MH A m x h (m + 20) = some (ic A 48 (x 20)) := mh_in (j := 20) (by decide)
theorem ms_20 {f : Nat → Int32} : hs (MH A m x h) (m + 20) (ic A 48 f) = MH A m (ur x 20 f) h := ms_in (j := 20) (by decide) rfl
theorem mh_21 : MH A m x h (m + 21) = some (ic A 48 (x 21)) := mh_in (j := 21) (by decide)
theorem ms_21 {f : Nat → Int32} : hs (MH A m x h) (m + 21) (ic A 48 f) = MH A m (ur x 21 f) h := ms_in (j := 21) (by decide) rfl
theorem mh_22 : MH A m x h (m + 22) = some (ic A 48 (x 22)) := mh_in (j := 22) (by decide)
theorem ms_22 {f : Nat → Int32} : hs (MH A m x h) (m + 22) (ic A 48 f) = MH A m (ur x 22 f) h := ms_in (j := 22) (by decide) rfl
theorem mh_23 : MH A m x h (m + 23) = some (ic A 48 (x 23)) := mh_in (j := 23) (by decide)
theorem ms_23 {f : Nat → Int32} : hs (MH A m x h) (m + 23) (ic A 48 f) = MH A m (ur x 23 f) h := ms_in (j := 23) (by decide) rfl
theorem mh_24 : MH A m x h (m + 24) = some (ic A 48 (x 24)) := mh_in (j := 24) (by decide)
theorem ms_24 {f : Nat → Int32} : hs (MH A m x h) (m + 24) (ic A 48 f) = MH A m (ur x 24 f) h := ms_in (j := 24) (by decide) rfl
theorem mh_25 : MH A m x h (m + 25) = some (ic A 48 (x 25)) := mh_in (j := 25) (by decide)
theorem ms_25 {f : Nat → Int32} : hs (MH A m x h) (m + 25) (ic A 48 f) = MH A m (ur x 25 f) h := ms_in (j := 25) (by decide) rfl
theorem mh_26 : MH A m x h (m + 26) = some (ic A 48 (x 26)) := mh_in (j := 26) (by decide)
theorem ms_26 {f : Nat → Int32} : hs (MH A m x h) (m + 26) (ic A 48 f) = MH A m (ur x 26 f) h := ms_in (j := 26) (by decide) rfl
theorem mh_27 : MH A m x h (m + 27) = some (ic A 48 (x 27)) := mh_in (j := 27) (by decide)
theorem ms_27 {f : Nat → Int32} : hs (MH A m x h) (m + 27) (ic A 48 f) = MH A m (ur x 27 f) h := ms_in (j := 27) (by decide) rfl
theorem mh_28 : MH A m x h (m + 28) = some (ic A 48 (x 28)) := mh_in (j := 28) (by decide)
theorem ms_28 {f : Nat → Int32} : hs (MH A m x h) (m + 28) (ic A 48 f) = MH A m (ur x 28 f) h := ms_in (j := 28) (by decide) rfl
theorem mh_30 : MH A m x h (m + 29) = some (ic A 72 (x 30)) := mh_in (j := 29) (by decide)
theorem ms_30 {f : Nat → Int32} : hs (MH A m x h) (m + 29) (ic A 72 f) = MH A m (ur x 30 f) h := ms_in (j := 29) (by decide) rfl
theorem mh_31 : MH A m x h (m + 30) = some (ic A 72 (x 31)) := mh_in (j := 30) (by decide)
theorem ms_31 {f : Nat → Int32} : hs (MH A m x h) (m + 30) (ic A 72 f) = MH A m (ur x 31 f) h := ms_in (j := 30) (by decide) rfl
theorem mh_32 : MH A m x h (m + 31) = some (ic A 72 (x 32)) := mh_in (j := 31) (by decide)
theorem ms_32 {f : Nat → Int32} : hs (MH A m x h) (m + 31) (ic A 72 f) = MH A m (ur x 32 f) h := ms_in (j := 31) (by decide) rfl
theorem mh_33 : MH A m x h (m + 32) = some (ic A 72 (x 33)) := mh_in (j := 32) (by decide)
theorem ms_33 {f : Nat → Int32} : hs (MH A m x h) (m + 32) (ic A 72 f) = MH A m (ur x 33 f) h := ms_in (j := 32) (by decide) rfl
theorem mh_34 : MH A m x h (m + 33) = some (zc A 72 (x 34)) := mh_in (j := 33) (by decide)
theorem ms_34 {f : Nat → Int32} : hs (MH A m x h) (m + 33) (zc A 72 f) = MH A m (ur x 34 f) h := ms_in (j := 33) (by decide) rfl
theorem mh_35 : MH A m x h (m + 34) = some (ic A 12 (x 35)) := mh_in (j := 34) (by decide)
theorem ms_35 {f : Nat → Int32} : hs (MH A m x h) (m + 34) (ic A 12 f) = MH A m (ur x 35 f) h := ms_in (j := 34) (by decide) rfl
theorem mp_0 {v : Int32} : hs (MH A m x h) m (oc 6 ((mfs m x).set 0 (.int v))) = MH A m (ur x 0 (fun _ => v)) h := mp_in rfl (by intro j q1 q2; unfold mfo; split <;> omega)
theorem mp_29 {v : Int32} : hs (MH A m x h) m (oc 6 ((mfs m x).set 29 (.int v))) = MH A m (ur x 29 (fun _ => v)) h := mp_in rfl (by intro j q1 q2; unfold mfo; split <;> omega)
theorem mp_36 {v : Int32} : hs (MH A m x h) m (oc 6 ((mfs m x).set 36 (.int v))) = MH A m (ur x 36 (fun _ => v)) h := mp_in rfl (by intro j q1 q2; unfold mfo; split <;> omega)
theorem mp_37 {v : Int32} : hs (MH A m x h) m (oc 6 ((mfs m x).set 37 (.int v))) = MH A m (ur x 37 (fun _ => v)) h := mp_in rfl (by intro j q1 q2; unfold mfo; split <;> omega)
theorem mp_38 {v : Int32} : hs (MH A m x h) m (oc 6 ((mfs m x).set 38 (.int v))) = MH A m (ur x 38 (fun _ => v)) h := mp_in rfl (by intro j q1 q2; unfold mfo; split <;> omega)
theorem mp_39 {v : Int32} : hs (MH A m x h) m (oc 6 ((mfs m x).set 39 (.int v))) = MH A m (ur x 39 (fun _ => v)) h := mp_in rfl (by intro j q1 q2; unfold mfo; split <;> omega)
theorem mp_40 {v : Int32} : hs (MH A m x h) m (oc 6 ((mfs m x).set 40 (.int v))) = MH A m (ur x 40 (fun _ => v)) h := mp_in rfl (by intro j q1 q2; unfold mfo; split <;> omega)
theorem mp_41 {v : Int32} : hs (MH A m x h) m (oc 6 ((mfs m x).set 41 (.int v))) = MH A m (ur x 41 (fun _ => v)) h := mp_in rfl (by intro j q1 q2; unfold mfo; split <;> omega)
/-! the class (SerialBus) at b: wiring b+1 (far b+2, bus b+3), tree b+4 (open b+5, asked b+6), nodes b+7, node i at b+8+5i (words, queue, packets, labels behind it).
rows of z: 3..16 the nodes' int fields by node; 17 the queues' sizes by node; 30 far, 31 bus, 32 cables, 33 open, 34 asked, 35..40 the bus's own numbers; 100+i the words of node i. rows of r: i the packets of node i; 12+i its labels -/
def nfs (b i : Nat) (z : Nat → Nat → Int32) : List Value := [.ref (b + 9 + 5 * i), .ref (b + 10 + 5 * i), .ref (b + 12 + 5 * i), .int (z 3 i), .int (z 4 i), .int (z 5 i), .int (z 6 i), .int (z 7 i), .int (z 8 i), .int (z 9 i), .int (z 10 i), .int (z 11 i), .int (z 12 i), .int (z 13 i), .int (z 14 i), .int (z 15 i), .int (z 16 i)]
def ccl (A : Nat → ClassId) (b k : Nat) (z : Nat → Nat → Int32) (r : Nat → Nat → Option Nat) : va_E := match k with
  | 0 => oc 5 [.ref (b + 1), .ref (b + 4), .ref (b + 7), .int (z 35 0), .int (z 36 0), .int (z 37 0), .int (z 38 0), .int (z 39 0), .int (z 40 0)]
  | 1 => oc 4 [.ref (b + 2), .ref (b + 3), .int (z 32 0)]
  | 2 => ic A 36 (z 30)
  | 3 => ic A 12 (z 31)
  | 4 => oc 3 [.ref (b + 5), .ref (b + 6)]
  | 5 => zc A 36 (z 33)
  | 6 => ic A 12 (z 34)
  | 7 => rc A 3 12 (fun i => some (b + 8 + 5 * i))
  | k + 8 => match k % 5 with
    | 0 => oc 0 (nfs b (k / 5) z)
    | 1 => ic A 8 (z (100 + k / 5))
    | 2 => oc 1 [.ref (b + 11 + 5 * (k / 5)), .int (z 17 (k / 5))]
    | 3 => rc A 4 6 (r (k / 5))
    | _ => rc A 4 4 (r (12 + k / 5))
def CH (A : Nat → ClassId) (b : Nat) (z : Nat → Nat → Int32) (r : Nat → Nat → Option Nat) (h : Hp) : Hp := fun a => if a < b ∨ b + 67 < a then h a else some (ccl A b (a - b) z r)
theorem ch_out {a : Nat} (q : a < b ∨ b + 67 < a) : CH A b z r h a = h a := if_pos q
theorem ch_in {j : Nat} (q : j ≤ 67) : CH A b z r h (b + j) = some (ccl A b j z r) := by
  unfold CH
  rw [if_neg (by omega), Nat.add_sub_cancel_left]
theorem ch_S : CH A b z r h b = some (oc 5 [.ref (b + 1), .ref (b + 4), .ref (b + 7), .int (z 35 0), .int (z 36 0), .int (z 37 0), .int (z 38 0), .int (z 39 0), .int (z 40 0)]) := ch_in (j := 0) (by decide)
theorem ch_W : CH A b z r h (b + 1) = some (oc 4 [.ref (b + 2), .ref (b + 3), .int (z 32 0)]) := ch_in (by decide)
theorem ch_far : CH A b z r h (b + 2) = some (ic A 36 (z 30)) := ch_in (by decide)
theorem ch_bus : CH A b z r h (b + 3) = some (ic A 12 (z 31)) := ch_in (by decide)
theorem ch_T : CH A b z r h (b + 4) = some (oc 3 [.ref (b + 5), .ref (b + 6)]) := ch_in (by decide)
theorem ch_open : CH A b z r h (b + 5) = some (zc A 36 (z 33)) := ch_in (by decide)
theorem ch_ask : CH A b z r h (b + 6) = some (ic A 12 (z 34)) := ch_in (by decide)
theorem ch_nodes : CH A b z r h (b + 7) = some (rc A 3 12 (fun i => some (b + 8 + 5 * i))) := ch_in (by decide)
theorem cc_k {i t : Nat} (q : t < 5) : (5 * i + t) / 5 = i ∧ (5 * i + t) % 5 = t := by omega
theorem cc_0 {i : Nat} : ccl A b (8 + 5 * i) z r = oc 0 (nfs b i z) := by
  rw [show 8 + 5 * i = 5 * i + 8 by omega]
  show (match (5 * i) % 5 with | 0 => _ | 1 => _ | 2 => _ | 3 => _ | _ => _) = _
  rw [show 5 * i / 5 = i by omega, show 5 * i % 5 = 0 by omega]
  rfl
theorem cc_1 {i : Nat} : ccl A b (9 + 5 * i) z r = ic A 8 (z (100 + i)) := by
  rw [show 9 + 5 * i = (5 * i + 1) + 8 by omega]
  show (match (5 * i + 1) % 5 with | 0 => _ | 1 => _ | 2 => _ | 3 => _ | _ => _) = _
  rw [(cc_k (by omega)).1, (cc_k (by omega)).2]
  rfl
theorem cc_2 {i : Nat} : ccl A b (10 + 5 * i) z r = oc 1 [.ref (b + 11 + 5 * i), .int (z 17 i)] := by
  rw [show 10 + 5 * i = (5 * i + 2) + 8 by omega]
  show (match (5 * i + 2) % 5 with | 0 => _ | 1 => _ | 2 => _ | 3 => _ | _ => _) = _
  rw [(cc_k (by omega)).1, (cc_k (by omega)).2]
  rfl
theorem cc_3 {i : Nat} : ccl A b (11 + 5 * i) z r = rc A 4 6 (r i) := by
  rw [show 11 + 5 * i = (5 * i + 3) + 8 by omega]
  show (match (5 * i + 3) % 5 with | 0 => _ | 1 => _ | 2 => _ | 3 => _ | _ => _) = _
  rw [(cc_k (by omega)).1, (cc_k (by omega)).2]
  rfl
theorem cc_4 {i : Nat} : ccl A b (12 + 5 * i) z r = rc A 4 4 (r (12 + i)) := by
  rw [show 12 + 5 * i = (5 * i + 4) + 8 by omega]
  show (match (5 * i + 4) % 5 with | 0 => _ | 1 => _ | 2 => _ | 3 => _ | _ => _) = _
  rw [(cc_k (by omega)).1, (cc_k (by omega)).2]
  rfl
theorem ch_node {i : Nat} (q : i < 12) : CH A b z r h (b + 8 + 5 * i) = some (oc 0 (nfs b i z)) := by rw [Nat.add_assoc, ch_in (by omega), cc_0]
theorem ch_words {i : Nat} (q : i < 12) : CH A b z r h (b + 9 + 5 * i) = some (ic A 8 (z (100 + i))) := by rw [Nat.add_assoc, ch_in (by omega), cc_1]
theorem ch_queue {i : Nat} (q : i < 12) : CH A b z r h (b + 10 + 5 * i) = some (oc 1 [.ref (b + 11 + 5 * i), .int (z 17 i)]) := by rw [Nat.add_assoc, ch_in (by omega), cc_2]
theorem ch_packs {i : Nat} (q : i < 12) : CH A b z r h (b + 11 + 5 * i) = some (rc A 4 6 (r i)) := by rw [Nat.add_assoc, ch_in (by omega), cc_3]
theorem ch_labels {i : Nat} (q : i < 12) : CH A b z r h (b + 12 + 5 * i) = some (rc A 4 4 (r (12 + i))) := by rw [Nat.add_assoc, ch_in (by omega), cc_4]
theorem ch_hs {a : Nat} {c : va_E} (q : a < b ∨ b + 67 < a) : hs (CH A b z r h) a c = CH A b z r (hs h a c) := by
  funext i
  by_cases e1 : i = a
  · rw [e1, hs_eq, ch_out q, hs_eq]
  · rw [hs_ne e1]
    unfold CH
    by_cases e2 : i < b ∨ b + 67 < i
    · rw [if_pos e2, if_pos e2, hs_ne e1]
    · rw [if_neg e2, if_neg e2]
/-- one cell of the class set -/
theorem ch_set {j : Nat} {c : va_E} {z' : Nat → Nat → Int32} {r' : Nat → Nat → Option Nat} (q : j ≤ 67) (h1 : ccl A b j z' r' = c) (h2 : ∀ k, k ≤ 67 → k ≠ j → ccl A b k z' r' = ccl A b k z r) : hs (CH A b z r h) (b + j) c = CH A b z' r' h := by
  funext a
  by_cases e1 : a = b + j
  · rw [e1, hs_eq, ch_in q, h1]
  · rw [hs_ne e1]
    unfold CH
    by_cases e2 : a < b ∨ b + 67 < a
    · rw [if_pos e2, if_pos e2]
    · rw [if_neg e2, if_neg e2, h2 (a - b) (by omega) (by omega)]
/-- the cell kinds by their number -/
theorem cc_cases {P : Nat → Prop} (h0 : ∀ k, k < 8 → P k) (h1 : ∀ i, i < 12 → P (8 + 5 * i)) (h2 : ∀ i, i < 12 → P (9 + 5 * i)) (h3 : ∀ i, i < 12 → P (10 + 5 * i)) (h4 : ∀ i, i < 12 → P (11 + 5 * i)) (h5 : ∀ i, i < 12 → P (12 + 5 * i)) : ∀ k, k ≤ 67 → P k := by
  intro k hk
  by_cases q : k < 8
  · exact h0 k q
  · have e1 : (k - 8) % 5 = 0 ∨ (k - 8) % 5 = 1 ∨ (k - 8) % 5 = 2 ∨ (k - 8) % 5 = 3 ∨ (k - 8) % 5 = 4 := by omega
    rcases e1 with e | e | e | e | e
    · rw [show k = 8 + 5 * ((k - 8) / 5) by omega]; exact h1 _ (by omega)
    · rw [show k = 9 + 5 * ((k - 8) / 5) by omega]; exact h2 _ (by omega)
    · rw [show k = 10 + 5 * ((k - 8) / 5) by omega]; exact h3 _ (by omega)
    · rw [show k = 11 + 5 * ((k - 8) / 5) by omega]; exact h4 _ (by omega)
    · rw [show k = 12 + 5 * ((k - 8) / 5) by omega]; exact h5 _ (by omega)

theorem cs_far {f : Nat → Int32} : hs (CH A b z r h) (b + 2) (ic A 36 f) = CH A b (ur z 30 (f)) r h := by
  refine ch_set (j := 2) (by decide) rfl ?_
  refine cc_cases (P := fun k => k ≠ 2 → ccl A b k (ur z 30 (f)) r = ccl A b k z r) ?_ ?_ ?_ ?_ ?_ ?_
  · intro k hk hne
    have e8 : k = 0 ∨ k = 1 ∨ k = 2 ∨ k = 3 ∨ k = 4 ∨ k = 5 ∨ k = 6 ∨ k = 7 := by omega
    rcases e8 with rfl | rfl | rfl | rfl | rfl | rfl | rfl | rfl <;> first | rfl | exact absurd rfl hne
  · intro i hi _; rw [cc_0, cc_0]; rfl
  · intro i hi _; rw [cc_1, cc_1, ur_ne (by omega)]
  · intro i hi _; rw [cc_2, cc_2]; rfl
  · intro i hi _; rw [cc_3, cc_3]
  · intro i hi _; rw [cc_4, cc_4]
theorem cs_bus {f : Nat → Int32} : hs (CH A b z r h) (b + 3) (ic A 12 f) = CH A b (ur z 31 (f)) r h := by
  refine ch_set (j := 3) (by decide) rfl ?_
  refine cc_cases (P := fun k => k ≠ 3 → ccl A b k (ur z 31 (f)) r = ccl A b k z r) ?_ ?_ ?_ ?_ ?_ ?_
  · intro k hk hne
    have e8 : k = 0 ∨ k = 1 ∨ k = 2 ∨ k = 3 ∨ k = 4 ∨ k = 5 ∨ k = 6 ∨ k = 7 := by omega
    rcases e8 with rfl | rfl | rfl | rfl | rfl | rfl | rfl | rfl <;> first | rfl | exact absurd rfl hne
  · intro i hi _; rw [cc_0, cc_0]; rfl
  · intro i hi _; rw [cc_1, cc_1, ur_ne (by omega)]
  · intro i hi _; rw [cc_2, cc_2]; rfl
  · intro i hi _; rw [cc_3, cc_3]
  · intro i hi _; rw [cc_4, cc_4]
theorem cs_open {f : Nat → Int32} : hs (CH A b z r h) (b + 5) (zc A 36 f) = CH A b (ur z 33 (f)) r h := by
  refine ch_set (j := 5) (by decide) rfl ?_
  refine cc_cases (P := fun k => k ≠ 5 → ccl A b k (ur z 33 (f)) r = ccl A b k z r) ?_ ?_ ?_ ?_ ?_ ?_
  · intro k hk hne
    have e8 : k = 0 ∨ k = 1 ∨ k = 2 ∨ k = 3 ∨ k = 4 ∨ k = 5 ∨ k = 6 ∨ k = 7 := by omega
    rcases e8 with rfl | rfl | rfl | rfl | rfl | rfl | rfl | rfl <;> first | rfl | exact absurd rfl hne
  · intro i hi _; rw [cc_0, cc_0]; rfl
  · intro i hi _; rw [cc_1, cc_1, ur_ne (by omega)]
  · intro i hi _; rw [cc_2, cc_2]; rfl
  · intro i hi _; rw [cc_3, cc_3]
  · intro i hi _; rw [cc_4, cc_4]
theorem cs_ask {f : Nat → Int32} : hs (CH A b z r h) (b + 6) (ic A 12 f) = CH A b (ur z 34 (f)) r h := by
  refine ch_set (j := 6) (by decide) rfl ?_
  refine cc_cases (P := fun k => k ≠ 6 → ccl A b k (ur z 34 (f)) r = ccl A b k z r) ?_ ?_ ?_ ?_ ?_ ?_
  · intro k hk hne
    have e8 : k = 0 ∨ k = 1 ∨ k = 2 ∨ k = 3 ∨ k = 4 ∨ k = 5 ∨ k = 6 ∨ k = 7 := by omega
    rcases e8 with rfl | rfl | rfl | rfl | rfl | rfl | rfl | rfl <;> first | rfl | exact absurd rfl hne
  · intro i hi _; rw [cc_0, cc_0]; rfl
  · intro i hi _; rw [cc_1, cc_1, ur_ne (by omega)]
  · intro i hi _; rw [cc_2, cc_2]; rfl
  · intro i hi _; rw [cc_3, cc_3]
  · intro i hi _; rw [cc_4, cc_4]
theorem cs_cab {v : Int32} : hs (CH A b z r h) (b + 1) (oc 4 [.ref (b + 2), .ref (b + 3), .int v]) = CH A b (ur z 32 (fun _ => v)) r h := by
  refine ch_set (j := 1) (by decide) rfl ?_
  refine cc_cases (P := fun k => k ≠ 1 → ccl A b k (ur z 32 (fun _ => v)) r = ccl A b k z r) ?_ ?_ ?_ ?_ ?_ ?_
  · intro k hk hne
    have e8 : k = 0 ∨ k = 1 ∨ k = 2 ∨ k = 3 ∨ k = 4 ∨ k = 5 ∨ k = 6 ∨ k = 7 := by omega
    rcases e8 with rfl | rfl | rfl | rfl | rfl | rfl | rfl | rfl <;> first | rfl | exact absurd rfl hne
  · intro i hi _; rw [cc_0, cc_0]; rfl
  · intro i hi _; rw [cc_1, cc_1, ur_ne (by omega)]
  · intro i hi _; rw [cc_2, cc_2]; rfl
  · intro i hi _; rw [cc_3, cc_3]
  · intro i hi _; rw [cc_4, cc_4]
theorem cs_s35 {v : Int32} : hs (CH A b z r h) (b) (oc 5 [.ref (b + 1), .ref (b + 4), .ref (b + 7), .int v, .int (z 36 0), .int (z 37 0), .int (z 38 0), .int (z 39 0), .int (z 40 0)]) = CH A b (ur z 35 (fun _ => v)) r h := by
  refine ch_set (j := 0) (by decide) rfl ?_
  refine cc_cases (P := fun k => k ≠ 0 → ccl A b k (ur z 35 (fun _ => v)) r = ccl A b k z r) ?_ ?_ ?_ ?_ ?_ ?_
  · intro k hk hne
    have e8 : k = 0 ∨ k = 1 ∨ k = 2 ∨ k = 3 ∨ k = 4 ∨ k = 5 ∨ k = 6 ∨ k = 7 := by omega
    rcases e8 with rfl | rfl | rfl | rfl | rfl | rfl | rfl | rfl <;> first | rfl | exact absurd rfl hne
  · intro i hi _; rw [cc_0, cc_0]; rfl
  · intro i hi _; rw [cc_1, cc_1, ur_ne (by omega)]
  · intro i hi _; rw [cc_2, cc_2]; rfl
  · intro i hi _; rw [cc_3, cc_3]
  · intro i hi _; rw [cc_4, cc_4]
theorem cs_s36 {v : Int32} : hs (CH A b z r h) (b) (oc 5 [.ref (b + 1), .ref (b + 4), .ref (b + 7), .int (z 35 0), .int v, .int (z 37 0), .int (z 38 0), .int (z 39 0), .int (z 40 0)]) = CH A b (ur z 36 (fun _ => v)) r h := by
  refine ch_set (j := 0) (by decide) rfl ?_
  refine cc_cases (P := fun k => k ≠ 0 → ccl A b k (ur z 36 (fun _ => v)) r = ccl A b k z r) ?_ ?_ ?_ ?_ ?_ ?_
  · intro k hk hne
    have e8 : k = 0 ∨ k = 1 ∨ k = 2 ∨ k = 3 ∨ k = 4 ∨ k = 5 ∨ k = 6 ∨ k = 7 := by omega
    rcases e8 with rfl | rfl | rfl | rfl | rfl | rfl | rfl | rfl <;> first | rfl | exact absurd rfl hne
  · intro i hi _; rw [cc_0, cc_0]; rfl
  · intro i hi _; rw [cc_1, cc_1, ur_ne (by omega)]
  · intro i hi _; rw [cc_2, cc_2]; rfl
  · intro i hi _; rw [cc_3, cc_3]
  · intro i hi _; rw [cc_4, cc_4]
theorem cs_s37 {v : Int32} : hs (CH A b z r h) (b) (oc 5 [.ref (b + 1), .ref (b + 4), .ref (b + 7), .int (z 35 0), .int (z 36 0), .int v, .int (z 38 0), .int (z 39 0), .int (z 40 0)]) = CH A b (ur z 37 (fun _ => v)) r h := by
  refine ch_set (j := 0) (by decide) rfl ?_
  refine cc_cases (P := fun k => k ≠ 0 → ccl A b k (ur z 37 (fun _ => v)) r = ccl A b k z r) ?_ ?_ ?_ ?_ ?_ ?_
  · intro k hk hne
    have e8 : k = 0 ∨ k = 1 ∨ k = 2 ∨ k = 3 ∨ k = 4 ∨ k = 5 ∨ k = 6 ∨ k = 7 := by omega
    rcases e8 with rfl | rfl | rfl | rfl | rfl | rfl | rfl | rfl <;> first | rfl | exact absurd rfl hne
  · intro i hi _; rw [cc_0, cc_0]; rfl
  · intro i hi _; rw [cc_1, cc_1, ur_ne (by omega)]
  · intro i hi _; rw [cc_2, cc_2]; rfl
  · intro i hi _; rw [cc_3, cc_3]
  · intro i hi _; rw [cc_4, cc_4]
theorem cs_s38 {v : Int32} : hs (CH A b z r h) (b) (oc 5 [.ref (b + 1), .ref (b + 4), .ref (b + 7), .int (z 35 0), .int (z 36 0), .int (z 37 0), .int v, .int (z 39 0), .int (z 40 0)]) = CH A b (ur z 38 (fun _ => v)) r h := by
  refine ch_set (j := 0) (by decide) rfl ?_
  refine cc_cases (P := fun k => k ≠ 0 → ccl A b k (ur z 38 (fun _ => v)) r = ccl A b k z r) ?_ ?_ ?_ ?_ ?_ ?_
  · intro k hk hne
    have e8 : k = 0 ∨ k = 1 ∨ k = 2 ∨ k = 3 ∨ k = 4 ∨ k = 5 ∨ k = 6 ∨ k = 7 := by omega
    rcases e8 with rfl | rfl | rfl | rfl | rfl | rfl | rfl | rfl <;> first | rfl | exact absurd rfl hne
  · intro i hi _; rw [cc_0, cc_0]; rfl
  · intro i hi _; rw [cc_1, cc_1, ur_ne (by omega)]
  · intro i hi _; rw [cc_2, cc_2]; rfl
  · intro i hi _; rw [cc_3, cc_3]
  · intro i hi _; rw [cc_4, cc_4]
theorem cs_s39 {v : Int32} : hs (CH A b z r h) (b) (oc 5 [.ref (b + 1), .ref (b + 4), .ref (b + 7), .int (z 35 0), .int (z 36 0), .int (z 37 0), .int (z 38 0), .int v, .int (z 40 0)]) = CH A b (ur z 39 (fun _ => v)) r h := by
  refine ch_set (j := 0) (by decide) rfl ?_
  refine cc_cases (P := fun k => k ≠ 0 → ccl A b k (ur z 39 (fun _ => v)) r = ccl A b k z r) ?_ ?_ ?_ ?_ ?_ ?_
  · intro k hk hne
    have e8 : k = 0 ∨ k = 1 ∨ k = 2 ∨ k = 3 ∨ k = 4 ∨ k = 5 ∨ k = 6 ∨ k = 7 := by omega
    rcases e8 with rfl | rfl | rfl | rfl | rfl | rfl | rfl | rfl <;> first | rfl | exact absurd rfl hne
  · intro i hi _; rw [cc_0, cc_0]; rfl
  · intro i hi _; rw [cc_1, cc_1, ur_ne (by omega)]
  · intro i hi _; rw [cc_2, cc_2]; rfl
  · intro i hi _; rw [cc_3, cc_3]
  · intro i hi _; rw [cc_4, cc_4]
theorem cs_s40 {v : Int32} : hs (CH A b z r h) (b) (oc 5 [.ref (b + 1), .ref (b + 4), .ref (b + 7), .int (z 35 0), .int (z 36 0), .int (z 37 0), .int (z 38 0), .int (z 39 0), .int v]) = CH A b (ur z 40 (fun _ => v)) r h := by
  refine ch_set (j := 0) (by decide) rfl ?_
  refine cc_cases (P := fun k => k ≠ 0 → ccl A b k (ur z 40 (fun _ => v)) r = ccl A b k z r) ?_ ?_ ?_ ?_ ?_ ?_
  · intro k hk hne
    have e8 : k = 0 ∨ k = 1 ∨ k = 2 ∨ k = 3 ∨ k = 4 ∨ k = 5 ∨ k = 6 ∨ k = 7 := by omega
    rcases e8 with rfl | rfl | rfl | rfl | rfl | rfl | rfl | rfl <;> first | rfl | exact absurd rfl hne
  · intro i hi _; rw [cc_0, cc_0]; rfl
  · intro i hi _; rw [cc_1, cc_1, ur_ne (by omega)]
  · intro i hi _; rw [cc_2, cc_2]; rfl
  · intro i hi _; rw [cc_3, cc_3]
  · intro i hi _; rw [cc_4, cc_4]
theorem cs_n3 {i : Nat} {v : Int32} (q : i < 12) : hs (CH A b z r h) (b + 8 + 5 * i) (oc 0 ((nfs b i z).set 3 (.int v))) = CH A b (ur z 3 (upd (z 3) i v)) r h := by
  have e0 : nfs b i (ur z 3 (upd (z 3) i v)) = (nfs b i z).set 3 (.int (upd (z 3) i v i)) := rfl
  have e1 : upd (z 3) i v i = v := if_pos rfl
  rw [e1] at e0
  rw [Nat.add_assoc]
  refine ch_set (j := 8 + 5 * i) (by omega) (by rw [cc_0, e0]) ?_
  refine cc_cases (P := fun k => k ≠ 8 + 5 * i → ccl A b k (ur z 3 (upd (z 3) i v)) r = ccl A b k z r) ?_ ?_ ?_ ?_ ?_ ?_
  · intro k hk hne
    have e8 : k = 0 ∨ k = 1 ∨ k = 2 ∨ k = 3 ∨ k = 4 ∨ k = 5 ∨ k = 6 ∨ k = 7 := by omega
    rcases e8 with rfl | rfl | rfl | rfl | rfl | rfl | rfl | rfl <;> first | rfl | exact absurd rfl hne
  · intro j hj hne
    have e2 : (upd (z 3) i v) j = z 3 j := if_neg (by omega)
    have e3 : nfs b j (ur z 3 (upd (z 3) i v)) = (nfs b j z).set 3 (.int ((upd (z 3) i v) j)) := rfl
    rw [e2] at e3
    rw [cc_0, cc_0, e3]
    rfl
  · intro j hj _; rw [cc_1, cc_1, ur_ne (by omega)]
  · intro j hj _; rw [cc_2, cc_2]; rfl
  · intro j hj _; rw [cc_3, cc_3]
  · intro j hj _; rw [cc_4, cc_4]
theorem cs_n4 {i : Nat} {v : Int32} (q : i < 12) : hs (CH A b z r h) (b + 8 + 5 * i) (oc 0 ((nfs b i z).set 4 (.int v))) = CH A b (ur z 4 (upd (z 4) i v)) r h := by
  have e0 : nfs b i (ur z 4 (upd (z 4) i v)) = (nfs b i z).set 4 (.int (upd (z 4) i v i)) := rfl
  have e1 : upd (z 4) i v i = v := if_pos rfl
  rw [e1] at e0
  rw [Nat.add_assoc]
  refine ch_set (j := 8 + 5 * i) (by omega) (by rw [cc_0, e0]) ?_
  refine cc_cases (P := fun k => k ≠ 8 + 5 * i → ccl A b k (ur z 4 (upd (z 4) i v)) r = ccl A b k z r) ?_ ?_ ?_ ?_ ?_ ?_
  · intro k hk hne
    have e8 : k = 0 ∨ k = 1 ∨ k = 2 ∨ k = 3 ∨ k = 4 ∨ k = 5 ∨ k = 6 ∨ k = 7 := by omega
    rcases e8 with rfl | rfl | rfl | rfl | rfl | rfl | rfl | rfl <;> first | rfl | exact absurd rfl hne
  · intro j hj hne
    have e2 : (upd (z 4) i v) j = z 4 j := if_neg (by omega)
    have e3 : nfs b j (ur z 4 (upd (z 4) i v)) = (nfs b j z).set 4 (.int ((upd (z 4) i v) j)) := rfl
    rw [e2] at e3
    rw [cc_0, cc_0, e3]
    rfl
  · intro j hj _; rw [cc_1, cc_1, ur_ne (by omega)]
  · intro j hj _; rw [cc_2, cc_2]; rfl
  · intro j hj _; rw [cc_3, cc_3]
  · intro j hj _; rw [cc_4, cc_4]
theorem cs_n5 {i : Nat} {v : Int32} (q : i < 12) : hs (CH A b z r h) (b + 8 + 5 * i) (oc 0 ((nfs b i z).set 5 (.int v))) = CH A b (ur z 5 (upd (z 5) i v)) r h := by
  have e0 : nfs b i (ur z 5 (upd (z 5) i v)) = (nfs b i z).set 5 (.int (upd (z 5) i v i)) := rfl
  have e1 : upd (z 5) i v i = v := if_pos rfl
  rw [e1] at e0
  rw [Nat.add_assoc]
  refine ch_set (j := 8 + 5 * i) (by omega) (by rw [cc_0, e0]) ?_
  refine cc_cases (P := fun k => k ≠ 8 + 5 * i → ccl A b k (ur z 5 (upd (z 5) i v)) r = ccl A b k z r) ?_ ?_ ?_ ?_ ?_ ?_
  · intro k hk hne
    have e8 : k = 0 ∨ k = 1 ∨ k = 2 ∨ k = 3 ∨ k = 4 ∨ k = 5 ∨ k = 6 ∨ k = 7 := by omega
    rcases e8 with rfl | rfl | rfl | rfl | rfl | rfl | rfl | rfl <;> first | rfl | exact absurd rfl hne
  · intro j hj hne
    have e2 : (upd (z 5) i v) j = z 5 j := if_neg (by omega)
    have e3 : nfs b j (ur z 5 (upd (z 5) i v)) = (nfs b j z).set 5 (.int ((upd (z 5) i v) j)) := rfl
    rw [e2] at e3
    rw [cc_0, cc_0, e3]
    rfl
  · intro j hj _; rw [cc_1, cc_1, ur_ne (by omega)]
  · intro j hj _; rw [cc_2, cc_2]; rfl
  · intro j hj _; rw [cc_3, cc_3]
  · intro j hj _; rw [cc_4, cc_4]
theorem cs_n6 {i : Nat} {v : Int32} (q : i < 12) : hs (CH A b z r h) (b + 8 + 5 * i) (oc 0 ((nfs b i z).set 6 (.int v))) = CH A b (ur z 6 (upd (z 6) i v)) r h := by
  have e0 : nfs b i (ur z 6 (upd (z 6) i v)) = (nfs b i z).set 6 (.int (upd (z 6) i v i)) := rfl
  have e1 : upd (z 6) i v i = v := if_pos rfl
  rw [e1] at e0
  rw [Nat.add_assoc]
  refine ch_set (j := 8 + 5 * i) (by omega) (by rw [cc_0, e0]) ?_
  refine cc_cases (P := fun k => k ≠ 8 + 5 * i → ccl A b k (ur z 6 (upd (z 6) i v)) r = ccl A b k z r) ?_ ?_ ?_ ?_ ?_ ?_
  · intro k hk hne
    have e8 : k = 0 ∨ k = 1 ∨ k = 2 ∨ k = 3 ∨ k = 4 ∨ k = 5 ∨ k = 6 ∨ k = 7 := by omega
    rcases e8 with rfl | rfl | rfl | rfl | rfl | rfl | rfl | rfl <;> first | rfl | exact absurd rfl hne
  · intro j hj hne
    have e2 : (upd (z 6) i v) j = z 6 j := if_neg (by omega)
    have e3 : nfs b j (ur z 6 (upd (z 6) i v)) = (nfs b j z).set 6 (.int ((upd (z 6) i v) j)) := rfl
    rw [e2] at e3
    rw [cc_0, cc_0, e3]
    rfl
  · intro j hj _; rw [cc_1, cc_1, ur_ne (by omega)]
  · intro j hj _; rw [cc_2, cc_2]; rfl
  · intro j hj _; rw [cc_3, cc_3]
  · intro j hj _; rw [cc_4, cc_4]
theorem cs_n7 {i : Nat} {v : Int32} (q : i < 12) : hs (CH A b z r h) (b + 8 + 5 * i) (oc 0 ((nfs b i z).set 7 (.int v))) = CH A b (ur z 7 (upd (z 7) i v)) r h := by
  have e0 : nfs b i (ur z 7 (upd (z 7) i v)) = (nfs b i z).set 7 (.int (upd (z 7) i v i)) := rfl
  have e1 : upd (z 7) i v i = v := if_pos rfl
  rw [e1] at e0
  rw [Nat.add_assoc]
  refine ch_set (j := 8 + 5 * i) (by omega) (by rw [cc_0, e0]) ?_
  refine cc_cases (P := fun k => k ≠ 8 + 5 * i → ccl A b k (ur z 7 (upd (z 7) i v)) r = ccl A b k z r) ?_ ?_ ?_ ?_ ?_ ?_
  · intro k hk hne
    have e8 : k = 0 ∨ k = 1 ∨ k = 2 ∨ k = 3 ∨ k = 4 ∨ k = 5 ∨ k = 6 ∨ k = 7 := by omega
    rcases e8 with rfl | rfl | rfl | rfl | rfl | rfl | rfl | rfl <;> first | rfl | exact absurd rfl hne
  · intro j hj hne
    have e2 : (upd (z 7) i v) j = z 7 j := if_neg (by omega)
    have e3 : nfs b j (ur z 7 (upd (z 7) i v)) = (nfs b j z).set 7 (.int ((upd (z 7) i v) j)) := rfl
    rw [e2] at e3
    rw [cc_0, cc_0, e3]
    rfl
  · intro j hj _; rw [cc_1, cc_1, ur_ne (by omega)]
  · intro j hj _; rw [cc_2, cc_2]; rfl
  · intro j hj _; rw [cc_3, cc_3]
  · intro j hj _; rw [cc_4, cc_4]
theorem cs_n8 {i : Nat} {v : Int32} (q : i < 12) : hs (CH A b z r h) (b + 8 + 5 * i) (oc 0 ((nfs b i z).set 8 (.int v))) = CH A b (ur z 8 (upd (z 8) i v)) r h := by
  have e0 : nfs b i (ur z 8 (upd (z 8) i v)) = (nfs b i z).set 8 (.int (upd (z 8) i v i)) := rfl
  have e1 : upd (z 8) i v i = v := if_pos rfl
  rw [e1] at e0
  rw [Nat.add_assoc]
  refine ch_set (j := 8 + 5 * i) (by omega) (by rw [cc_0, e0]) ?_
  refine cc_cases (P := fun k => k ≠ 8 + 5 * i → ccl A b k (ur z 8 (upd (z 8) i v)) r = ccl A b k z r) ?_ ?_ ?_ ?_ ?_ ?_
  · intro k hk hne
    have e8 : k = 0 ∨ k = 1 ∨ k = 2 ∨ k = 3 ∨ k = 4 ∨ k = 5 ∨ k = 6 ∨ k = 7 := by omega
    rcases e8 with rfl | rfl | rfl | rfl | rfl | rfl | rfl | rfl <;> first | rfl | exact absurd rfl hne
  · intro j hj hne
    have e2 : (upd (z 8) i v) j = z 8 j := if_neg (by omega)
    have e3 : nfs b j (ur z 8 (upd (z 8) i v)) = (nfs b j z).set 8 (.int ((upd (z 8) i v) j)) := rfl
    rw [e2] at e3
    rw [cc_0, cc_0, e3]
    rfl
  · intro j hj _; rw [cc_1, cc_1, ur_ne (by omega)]
  · intro j hj _; rw [cc_2, cc_2]; rfl
  · intro j hj _; rw [cc_3, cc_3]
  · intro j hj _; rw [cc_4, cc_4]
theorem cs_n9 {i : Nat} {v : Int32} (q : i < 12) : hs (CH A b z r h) (b + 8 + 5 * i) (oc 0 ((nfs b i z).set 9 (.int v))) = CH A b (ur z 9 (upd (z 9) i v)) r h := by
  have e0 : nfs b i (ur z 9 (upd (z 9) i v)) = (nfs b i z).set 9 (.int (upd (z 9) i v i)) := rfl
  have e1 : upd (z 9) i v i = v := if_pos rfl
  rw [e1] at e0
  rw [Nat.add_assoc]
  refine ch_set (j := 8 + 5 * i) (by omega) (by rw [cc_0, e0]) ?_
  refine cc_cases (P := fun k => k ≠ 8 + 5 * i → ccl A b k (ur z 9 (upd (z 9) i v)) r = ccl A b k z r) ?_ ?_ ?_ ?_ ?_ ?_
  · intro k hk hne
    have e8 : k = 0 ∨ k = 1 ∨ k = 2 ∨ k = 3 ∨ k = 4 ∨ k = 5 ∨ k = 6 ∨ k = 7 := by omega
    rcases e8 with rfl | rfl | rfl | rfl | rfl | rfl | rfl | rfl <;> first | rfl | exact absurd rfl hne
  · intro j hj hne
    have e2 : (upd (z 9) i v) j = z 9 j := if_neg (by omega)
    have e3 : nfs b j (ur z 9 (upd (z 9) i v)) = (nfs b j z).set 9 (.int ((upd (z 9) i v) j)) := rfl
    rw [e2] at e3
    rw [cc_0, cc_0, e3]
    rfl
  · intro j hj _; rw [cc_1, cc_1, ur_ne (by omega)]
  · intro j hj _; rw [cc_2, cc_2]; rfl
  · intro j hj _; rw [cc_3, cc_3]
  · intro j hj _; rw [cc_4, cc_4]
theorem cs_n10 {i : Nat} {v : Int32} (q : i < 12) : hs (CH A b z r h) (b + 8 + 5 * i) (oc 0 ((nfs b i z).set 10 (.int v))) = CH A b (ur z 10 (upd (z 10) i v)) r h := by
  have e0 : nfs b i (ur z 10 (upd (z 10) i v)) = (nfs b i z).set 10 (.int (upd (z 10) i v i)) := rfl
  have e1 : upd (z 10) i v i = v := if_pos rfl
  rw [e1] at e0
  rw [Nat.add_assoc]
  refine ch_set (j := 8 + 5 * i) (by omega) (by rw [cc_0, e0]) ?_
  refine cc_cases (P := fun k => k ≠ 8 + 5 * i → ccl A b k (ur z 10 (upd (z 10) i v)) r = ccl A b k z r) ?_ ?_ ?_ ?_ ?_ ?_
  · intro k hk hne
    have e8 : k = 0 ∨ k = 1 ∨ k = 2 ∨ k = 3 ∨ k = 4 ∨ k = 5 ∨ k = 6 ∨ k = 7 := by omega
    rcases e8 with rfl | rfl | rfl | rfl | rfl | rfl | rfl | rfl <;> first | rfl | exact absurd rfl hne
  · intro j hj hne
    have e2 : (upd (z 10) i v) j = z 10 j := if_neg (by omega)
    have e3 : nfs b j (ur z 10 (upd (z 10) i v)) = (nfs b j z).set 10 (.int ((upd (z 10) i v) j)) := rfl
    rw [e2] at e3
    rw [cc_0, cc_0, e3]
    rfl
  · intro j hj _; rw [cc_1, cc_1, ur_ne (by omega)]
  · intro j hj _; rw [cc_2, cc_2]; rfl
  · intro j hj _; rw [cc_3, cc_3]
  · intro j hj _; rw [cc_4, cc_4]
theorem cs_n11 {i : Nat} {v : Int32} (q : i < 12) : hs (CH A b z r h) (b + 8 + 5 * i) (oc 0 ((nfs b i z).set 11 (.int v))) = CH A b (ur z 11 (upd (z 11) i v)) r h := by
  have e0 : nfs b i (ur z 11 (upd (z 11) i v)) = (nfs b i z).set 11 (.int (upd (z 11) i v i)) := rfl
  have e1 : upd (z 11) i v i = v := if_pos rfl
  rw [e1] at e0
  rw [Nat.add_assoc]
  refine ch_set (j := 8 + 5 * i) (by omega) (by rw [cc_0, e0]) ?_
  refine cc_cases (P := fun k => k ≠ 8 + 5 * i → ccl A b k (ur z 11 (upd (z 11) i v)) r = ccl A b k z r) ?_ ?_ ?_ ?_ ?_ ?_
  · intro k hk hne
    have e8 : k = 0 ∨ k = 1 ∨ k = 2 ∨ k = 3 ∨ k = 4 ∨ k = 5 ∨ k = 6 ∨ k = 7 := by omega
    rcases e8 with rfl | rfl | rfl | rfl | rfl | rfl | rfl | rfl <;> first | rfl | exact absurd rfl hne
  · intro j hj hne
    have e2 : (upd (z 11) i v) j = z 11 j := if_neg (by omega)
    have e3 : nfs b j (ur z 11 (upd (z 11) i v)) = (nfs b j z).set 11 (.int ((upd (z 11) i v) j)) := rfl
    rw [e2] at e3
    rw [cc_0, cc_0, e3]
    rfl
  · intro j hj _; rw [cc_1, cc_1, ur_ne (by omega)]
  · intro j hj _; rw [cc_2, cc_2]; rfl
  · intro j hj _; rw [cc_3, cc_3]
  · intro j hj _; rw [cc_4, cc_4]
theorem cs_n12 {i : Nat} {v : Int32} (q : i < 12) : hs (CH A b z r h) (b + 8 + 5 * i) (oc 0 ((nfs b i z).set 12 (.int v))) = CH A b (ur z 12 (upd (z 12) i v)) r h := by
  have e0 : nfs b i (ur z 12 (upd (z 12) i v)) = (nfs b i z).set 12 (.int (upd (z 12) i v i)) := rfl
  have e1 : upd (z 12) i v i = v := if_pos rfl
  rw [e1] at e0
  rw [Nat.add_assoc]
  refine ch_set (j := 8 + 5 * i) (by omega) (by rw [cc_0, e0]) ?_
  refine cc_cases (P := fun k => k ≠ 8 + 5 * i → ccl A b k (ur z 12 (upd (z 12) i v)) r = ccl A b k z r) ?_ ?_ ?_ ?_ ?_ ?_
  · intro k hk hne
    have e8 : k = 0 ∨ k = 1 ∨ k = 2 ∨ k = 3 ∨ k = 4 ∨ k = 5 ∨ k = 6 ∨ k = 7 := by omega
    rcases e8 with rfl | rfl | rfl | rfl | rfl | rfl | rfl | rfl <;> first | rfl | exact absurd rfl hne
  · intro j hj hne
    have e2 : (upd (z 12) i v) j = z 12 j := if_neg (by omega)
    have e3 : nfs b j (ur z 12 (upd (z 12) i v)) = (nfs b j z).set 12 (.int ((upd (z 12) i v) j)) := rfl
    rw [e2] at e3
    rw [cc_0, cc_0, e3]
    rfl
  · intro j hj _; rw [cc_1, cc_1, ur_ne (by omega)]
  · intro j hj _; rw [cc_2, cc_2]; rfl
  · intro j hj _; rw [cc_3, cc_3]
  · intro j hj _; rw [cc_4, cc_4]
theorem cs_n13 {i : Nat} {v : Int32} (q : i < 12) : hs (CH A b z r h) (b + 8 + 5 * i) (oc 0 ((nfs b i z).set 13 (.int v))) = CH A b (ur z 13 (upd (z 13) i v)) r h := by
  have e0 : nfs b i (ur z 13 (upd (z 13) i v)) = (nfs b i z).set 13 (.int (upd (z 13) i v i)) := rfl
  have e1 : upd (z 13) i v i = v := if_pos rfl
  rw [e1] at e0
  rw [Nat.add_assoc]
  refine ch_set (j := 8 + 5 * i) (by omega) (by rw [cc_0, e0]) ?_
  refine cc_cases (P := fun k => k ≠ 8 + 5 * i → ccl A b k (ur z 13 (upd (z 13) i v)) r = ccl A b k z r) ?_ ?_ ?_ ?_ ?_ ?_
  · intro k hk hne
    have e8 : k = 0 ∨ k = 1 ∨ k = 2 ∨ k = 3 ∨ k = 4 ∨ k = 5 ∨ k = 6 ∨ k = 7 := by omega
    rcases e8 with rfl | rfl | rfl | rfl | rfl | rfl | rfl | rfl <;> first | rfl | exact absurd rfl hne
  · intro j hj hne
    have e2 : (upd (z 13) i v) j = z 13 j := if_neg (by omega)
    have e3 : nfs b j (ur z 13 (upd (z 13) i v)) = (nfs b j z).set 13 (.int ((upd (z 13) i v) j)) := rfl
    rw [e2] at e3
    rw [cc_0, cc_0, e3]
    rfl
  · intro j hj _; rw [cc_1, cc_1, ur_ne (by omega)]
  · intro j hj _; rw [cc_2, cc_2]; rfl
  · intro j hj _; rw [cc_3, cc_3]
  · intro j hj _; rw [cc_4, cc_4]
theorem cs_n14 {i : Nat} {v : Int32} (q : i < 12) : hs (CH A b z r h) (b + 8 + 5 * i) (oc 0 ((nfs b i z).set 14 (.int v))) = CH A b (ur z 14 (upd (z 14) i v)) r h := by
  have e0 : nfs b i (ur z 14 (upd (z 14) i v)) = (nfs b i z).set 14 (.int (upd (z 14) i v i)) := rfl
  have e1 : upd (z 14) i v i = v := if_pos rfl
  rw [e1] at e0
  rw [Nat.add_assoc]
  refine ch_set (j := 8 + 5 * i) (by omega) (by rw [cc_0, e0]) ?_
  refine cc_cases (P := fun k => k ≠ 8 + 5 * i → ccl A b k (ur z 14 (upd (z 14) i v)) r = ccl A b k z r) ?_ ?_ ?_ ?_ ?_ ?_
  · intro k hk hne
    have e8 : k = 0 ∨ k = 1 ∨ k = 2 ∨ k = 3 ∨ k = 4 ∨ k = 5 ∨ k = 6 ∨ k = 7 := by omega
    rcases e8 with rfl | rfl | rfl | rfl | rfl | rfl | rfl | rfl <;> first | rfl | exact absurd rfl hne
  · intro j hj hne
    have e2 : (upd (z 14) i v) j = z 14 j := if_neg (by omega)
    have e3 : nfs b j (ur z 14 (upd (z 14) i v)) = (nfs b j z).set 14 (.int ((upd (z 14) i v) j)) := rfl
    rw [e2] at e3
    rw [cc_0, cc_0, e3]
    rfl
  · intro j hj _; rw [cc_1, cc_1, ur_ne (by omega)]
  · intro j hj _; rw [cc_2, cc_2]; rfl
  · intro j hj _; rw [cc_3, cc_3]
  · intro j hj _; rw [cc_4, cc_4]
theorem cs_n15 {i : Nat} {v : Int32} (q : i < 12) : hs (CH A b z r h) (b + 8 + 5 * i) (oc 0 ((nfs b i z).set 15 (.int v))) = CH A b (ur z 15 (upd (z 15) i v)) r h := by
  have e0 : nfs b i (ur z 15 (upd (z 15) i v)) = (nfs b i z).set 15 (.int (upd (z 15) i v i)) := rfl
  have e1 : upd (z 15) i v i = v := if_pos rfl
  rw [e1] at e0
  rw [Nat.add_assoc]
  refine ch_set (j := 8 + 5 * i) (by omega) (by rw [cc_0, e0]) ?_
  refine cc_cases (P := fun k => k ≠ 8 + 5 * i → ccl A b k (ur z 15 (upd (z 15) i v)) r = ccl A b k z r) ?_ ?_ ?_ ?_ ?_ ?_
  · intro k hk hne
    have e8 : k = 0 ∨ k = 1 ∨ k = 2 ∨ k = 3 ∨ k = 4 ∨ k = 5 ∨ k = 6 ∨ k = 7 := by omega
    rcases e8 with rfl | rfl | rfl | rfl | rfl | rfl | rfl | rfl <;> first | rfl | exact absurd rfl hne
  · intro j hj hne
    have e2 : (upd (z 15) i v) j = z 15 j := if_neg (by omega)
    have e3 : nfs b j (ur z 15 (upd (z 15) i v)) = (nfs b j z).set 15 (.int ((upd (z 15) i v) j)) := rfl
    rw [e2] at e3
    rw [cc_0, cc_0, e3]
    rfl
  · intro j hj _; rw [cc_1, cc_1, ur_ne (by omega)]
  · intro j hj _; rw [cc_2, cc_2]; rfl
  · intro j hj _; rw [cc_3, cc_3]
  · intro j hj _; rw [cc_4, cc_4]
theorem cs_n16 {i : Nat} {v : Int32} (q : i < 12) : hs (CH A b z r h) (b + 8 + 5 * i) (oc 0 ((nfs b i z).set 16 (.int v))) = CH A b (ur z 16 (upd (z 16) i v)) r h := by
  have e0 : nfs b i (ur z 16 (upd (z 16) i v)) = (nfs b i z).set 16 (.int (upd (z 16) i v i)) := rfl
  have e1 : upd (z 16) i v i = v := if_pos rfl
  rw [e1] at e0
  rw [Nat.add_assoc]
  refine ch_set (j := 8 + 5 * i) (by omega) (by rw [cc_0, e0]) ?_
  refine cc_cases (P := fun k => k ≠ 8 + 5 * i → ccl A b k (ur z 16 (upd (z 16) i v)) r = ccl A b k z r) ?_ ?_ ?_ ?_ ?_ ?_
  · intro k hk hne
    have e8 : k = 0 ∨ k = 1 ∨ k = 2 ∨ k = 3 ∨ k = 4 ∨ k = 5 ∨ k = 6 ∨ k = 7 := by omega
    rcases e8 with rfl | rfl | rfl | rfl | rfl | rfl | rfl | rfl <;> first | rfl | exact absurd rfl hne
  · intro j hj hne
    have e2 : (upd (z 16) i v) j = z 16 j := if_neg (by omega)
    have e3 : nfs b j (ur z 16 (upd (z 16) i v)) = (nfs b j z).set 16 (.int ((upd (z 16) i v) j)) := rfl
    rw [e2] at e3
    rw [cc_0, cc_0, e3]
    rfl
  · intro j hj _; rw [cc_1, cc_1, ur_ne (by omega)]
  · intro j hj _; rw [cc_2, cc_2]; rfl
  · intro j hj _; rw [cc_3, cc_3]
  · intro j hj _; rw [cc_4, cc_4]
theorem cs_qs {i : Nat} {v : Int32} (q : i < 12) : hs (CH A b z r h) (b + 10 + 5 * i) (oc 1 [.ref (b + 11 + 5 * i), .int v]) = CH A b (ur z 17 (upd (z 17) i v)) r h := by
  have e1 : upd (z 17) i v i = v := if_pos rfl
  rw [Nat.add_assoc]
  refine ch_set (j := 10 + 5 * i) (by omega) (by rw [cc_2, ur_eq, e1]) ?_
  refine cc_cases (P := fun k => k ≠ 10 + 5 * i → ccl A b k (ur z 17 (upd (z 17) i v)) r = ccl A b k z r) ?_ ?_ ?_ ?_ ?_ ?_
  · intro k hk hne
    have e8 : k = 0 ∨ k = 1 ∨ k = 2 ∨ k = 3 ∨ k = 4 ∨ k = 5 ∨ k = 6 ∨ k = 7 := by omega
    rcases e8 with rfl | rfl | rfl | rfl | rfl | rfl | rfl | rfl <;> first | rfl | exact absurd rfl hne
  · intro j hj _; rw [cc_0, cc_0]; rfl
  · intro j hj _; rw [cc_1, cc_1, ur_ne (by omega)]
  · intro j hj hne
    have e2 : (upd (z 17) i v) j = z 17 j := if_neg (by omega)
    rw [cc_2, cc_2, ur_eq, e2]
  · intro j hj _; rw [cc_3, cc_3]
  · intro j hj _; rw [cc_4, cc_4]
theorem cs_w {i : Nat} {f : Nat → Int32} (q : i < 12) : hs (CH A b z r h) (b + 9 + 5 * i) (ic A 8 f) = CH A b (ur z (100 + i) f) r h := by
  rw [Nat.add_assoc]
  refine ch_set (j := 9 + 5 * i) (by omega) (by rw [cc_1, ur_eq]) ?_
  have e9 : ∀ k, k < 100 → ur z (100 + i) f k = z k := fun k hk => ur_ne (by omega)
  refine cc_cases (P := fun k => k ≠ 9 + 5 * i → ccl A b k (ur z (100 + i) f) r = ccl A b k z r) ?_ ?_ ?_ ?_ ?_ ?_
  · intro k hk hne
    have e8 : k = 0 ∨ k = 1 ∨ k = 2 ∨ k = 3 ∨ k = 4 ∨ k = 5 ∨ k = 6 ∨ k = 7 := by omega
    rcases e8 with rfl | rfl | rfl | rfl | rfl | rfl | rfl | rfl <;> simp only [ccl, e9, Nat.reduceLT]
  · intro j hj _; rw [cc_0, cc_0]; simp only [nfs, e9, Nat.reduceLT]
  · intro j hj hne; rw [cc_1, cc_1, ur_ne (by omega)]
  · intro j hj _; rw [cc_2, cc_2, e9 17 (by decide)]
  · intro j hj _; rw [cc_3, cc_3]
  · intro j hj _; rw [cc_4, cc_4]
theorem cs_pk {i : Nat} {f : Nat → Option Nat} (q : i < 12) : hs (CH A b z r h) (b + 11 + 5 * i) (rc A 4 6 f) = CH A b z (ur r i f) h := by
  rw [Nat.add_assoc]
  refine ch_set (j := 11 + 5 * i) (by omega) (by rw [cc_3, ur_eq]) ?_
  refine cc_cases (P := fun k => k ≠ 11 + 5 * i → ccl A b k z (ur r i f) = ccl A b k z r) ?_ ?_ ?_ ?_ ?_ ?_
  · intro k hk hne
    have e8 : k = 0 ∨ k = 1 ∨ k = 2 ∨ k = 3 ∨ k = 4 ∨ k = 5 ∨ k = 6 ∨ k = 7 := by omega
    rcases e8 with rfl | rfl | rfl | rfl | rfl | rfl | rfl | rfl <;> first | rfl | exact absurd rfl hne
  · intro j hj _; rw [cc_0, cc_0]
  · intro j hj _; rw [cc_1, cc_1]
  · intro j hj _; rw [cc_2, cc_2]
  · intro j hj hne; rw [cc_3, cc_3, ur_ne (by omega)]
  · intro j hj _; rw [cc_4, cc_4, ur_ne (by omega)]
theorem cs_lb {i : Nat} {f : Nat → Option Nat} (q : i < 12) : hs (CH A b z r h) (b + 12 + 5 * i) (rc A 4 4 f) = CH A b z (ur r (12 + i) f) h := by
  rw [Nat.add_assoc]
  refine ch_set (j := 12 + 5 * i) (by omega) (by rw [cc_4, ur_eq]) ?_
  refine cc_cases (P := fun k => k ≠ 12 + 5 * i → ccl A b k z (ur r (12 + i) f) = ccl A b k z r) ?_ ?_ ?_ ?_ ?_ ?_
  · intro k hk hne
    have e8 : k = 0 ∨ k = 1 ∨ k = 2 ∨ k = 3 ∨ k = 4 ∨ k = 5 ∨ k = 6 ∨ k = 7 := by omega
    rcases e8 with rfl | rfl | rfl | rfl | rfl | rfl | rfl | rfl <;> first | rfl | exact absurd rfl hne
  · intro j hj _; rw [cc_0, cc_0]
  · intro j hj _; rw [cc_1, cc_1]
  · intro j hj _; rw [cc_2, cc_2]
  · intro j hj _; rw [cc_3, cc_3, ur_ne (by omega)]
  · intro j hj hne; rw [cc_4, cc_4, ur_ne (by omega)]
end St
end
section
section Leaf
variable {l : Launch} {D : va_G} {A : Nat → ClassId} {G : Heap} {h : Hp} {n : Nat}
set_option maxRecDepth 4000 in
theorem k_W_busOf (hl : l.stackTraces = false) {w fr bo : Nat} {cb : Int32} (h1 : h w = some (oc 4 [.ref fr, .ref bo, .int cb])) {i df : Nat} {f : Nat → Int32} (h2 : h bo = some (ic A 12 f)) (hi : i < 12) : Ct l D A G my_W_busOf cd_W_busOf 2 (some (.int)) df 0 0 [.ref w, .int (nI i)] h n (fun v h' n' => v = some (.int (f i)) ∧ h' = h ∧ n' = n) (fun _ _ _ => False) := by
  refine Ct.of (by decide) hl (Nat.le_of_ble_eq_true rfl) ?_
  intro p e s m args below meth c C hr hnm ht dp
  first | refine r_aload_n C dc_W_busOf_0 rfl rfl ?_ | refine r_aload_nq C dc_W_busOf_0 rfl rfl ?_
  refine r_get C dc_W_busOf_1 fl_W_15 (by first | assumption | exact hs_eq _ _ _ | exact (hs_ne (by omega)).trans (by assumption) | exact (hs_ne (by omega)).trans (hs_eq _ _ _) | exact (hs_ne (by omega)).trans ((hs_ne (by omega)).trans (by assumption)) | exact (hs_ne (by omega)).trans ((hs_ne (by omega)).trans (hs_eq _ _ _)) | exact (hs_ne (by omega)).trans ((hs_ne (by omega)).trans ((hs_ne (by omega)).trans (by assumption)))) rfl ?_
  refine r_iload_n C dc_W_busOf_4 rfl rfl ?_
  refine r_ialdN C dc_W_busOf_5 (by first | assumption | exact hs_eq _ _ _ | exact (hs_ne (by omega)).trans (by assumption) | exact (hs_ne (by omega)).trans (hs_eq _ _ _) | exact (hs_ne (by omega)).trans ((hs_ne (by omega)).trans (by assumption)) | exact (hs_ne (by omega)).trans ((hs_ne (by omega)).trans (hs_eq _ _ _)) | exact (hs_ne (by omega)).trans ((hs_ne (by omega)).trans ((hs_ne (by omega)).trans (by assumption)))) (by omega) (by decide) ?_
  exact r_iret C dp hr dc_W_busOf_6 (Nat.le_refl _) ⟨rfl, rfl, rfl⟩
set_option maxRecDepth 4000 in
theorem k_W_isBus (hl : l.stackTraces = false) {w fr bo : Nat} {cb : Int32} (h1 : h w = some (oc 4 [.ref fr, .ref bo, .int cb])) {i df : Nat} {f : Nat → Int32} {g : Nat → Nat} (h2 : h bo = some (ic A 12 f)) (hi : i < 12) (hf : ∀ j, j < 12 → f j = nI (g j)) (hg : ∀ j, j < 12 → g j < 12) : Ct l D A G my_W_isBus cd_W_isBus 2 (some (.boolean)) df 0 0 [.ref w, .int (nI i)] h n (fun v h' n' => v = some (.int (zi (decide (g i = i)))) ∧ h' = h ∧ n' = n) (fun _ _ _ => False) := by
  refine Ct.of (by decide) hl (Nat.le_of_ble_eq_true rfl) ?_
  intro p e s m args below meth c C hr hnm ht dp
  first | refine r_aload_n C dc_W_isBus_0 rfl rfl ?_ | refine r_aload_nq C dc_W_isBus_0 rfl rfl ?_
  refine r_get C dc_W_isBus_1 fl_W_15 (by first | assumption | exact hs_eq _ _ _ | exact (hs_ne (by omega)).trans (by assumption) | exact (hs_ne (by omega)).trans (hs_eq _ _ _) | exact (hs_ne (by omega)).trans ((hs_ne (by omega)).trans (by assumption)) | exact (hs_ne (by omega)).trans ((hs_ne (by omega)).trans (hs_eq _ _ _)) | exact (hs_ne (by omega)).trans ((hs_ne (by omega)).trans ((hs_ne (by omega)).trans (by assumption)))) rfl ?_
  refine r_iload_n C dc_W_isBus_4 rfl rfl ?_
  refine r_ialdN C dc_W_isBus_5 (by first | assumption | exact hs_eq _ _ _ | exact (hs_ne (by omega)).trans (by assumption) | exact (hs_ne (by omega)).trans (hs_eq _ _ _) | exact (hs_ne (by omega)).trans ((hs_ne (by omega)).trans (by assumption)) | exact (hs_ne (by omega)).trans ((hs_ne (by omega)).trans (hs_eq _ _ _)) | exact (hs_ne (by omega)).trans ((hs_ne (by omega)).trans ((hs_ne (by omega)).trans (by assumption)))) (by omega) (by decide) ?_
  refine r_iload_n C dc_W_isBus_6 rfl rfl ?_
  have hb : f i = nI (g i) := hf i hi
  rw [hb]
  have hgi := hg i hi
  refine r_icmp_neN (tgt := 14) C dc_W_isBus_7 (by decide) (by omega) (by omega) (fun c7 => ?_) (fun c7 => ?_)
  ·
    refine r_iconst (v := nI 0) C dc_W_isBus_14 (by decide) ?_
    exact r_zret C dp hr dc_W_isBus_15 (by decide) (Nat.le_refl _) ⟨by simp only [zi, c7, decide_true, decide_false]; rfl, rfl, rfl⟩
  ·
    refine r_iconst (v := nI 1) C dc_W_isBus_10 (by decide) ?_
    refine r_goto (tgt := 15) C dc_W_isBus_11 (by decide) ?_
    exact r_zret C dp hr dc_W_isBus_15 (by decide) (Nat.le_refl _) ⟨by simp only [zi, c7, decide_true, decide_false]; rfl, rfl, rfl⟩
set_option maxRecDepth 4000 in
theorem k_Q_isEmpty (hl : l.stackTraces = false) {q pk k df : Nat} (h1 : h q = some (oc 1 [.ref pk, .int (nI k)])) (hk : k < 100) : Ct l D A G my_Q_isEmpty cd_Q_isEmpty 1 (some (.boolean)) df 0 0 [.ref q] h n (fun v h' n' => v = some (.int (zi (decide (k = 0)))) ∧ h' = h ∧ n' = n) (fun _ _ _ => False) := by
  refine Ct.of (by decide) hl (Nat.le_of_ble_eq_true rfl) ?_
  intro p e s m args below meth c C hr hnm ht dp
  first | refine r_aload_n C dc_Q_isEmpty_0 rfl rfl ?_ | refine r_aload_nq C dc_Q_isEmpty_0 rfl rfl ?_
  refine r_get C dc_Q_isEmpty_1 fl_Q_17 (by first | assumption | exact hs_eq _ _ _ | exact (hs_ne (by omega)).trans (by assumption) | exact (hs_ne (by omega)).trans (hs_eq _ _ _) | exact (hs_ne (by omega)).trans ((hs_ne (by omega)).trans (by assumption)) | exact (hs_ne (by omega)).trans ((hs_ne (by omega)).trans (hs_eq _ _ _)) | exact (hs_ne (by omega)).trans ((hs_ne (by omega)).trans ((hs_ne (by omega)).trans (by assumption)))) rfl ?_
  refine r_if_ne (tgt := 11) C dc_Q_isEmpty_4 (by decide) (fun c4 => ?_) (fun c4 => ?_)
  ·
    have c9 : ¬ k = 0 := by
      intro z; rw [z] at c4; exact absurd rfl c4
    refine r_iconst (v := nI 0) C dc_Q_isEmpty_11 (by decide) ?_
    exact r_zret C dp hr dc_Q_isEmpty_12 (by decide) (Nat.le_refl _) ⟨by first | (rw [decide_eq_true (by omega)]; rfl) | (rw [decide_eq_false (by omega)]; rfl), rfl, rfl⟩
  ·
    have c9 : k = 0 := by
      exact Classical.byContradiction fun z => absurd c4 (nI_ne0 (by omega) (by omega))
    refine r_iconst (v := nI 1) C dc_Q_isEmpty_7 (by decide) ?_
    refine r_goto (tgt := 12) C dc_Q_isEmpty_8 (by decide) ?_
    exact r_zret C dp hr dc_Q_isEmpty_12 (by decide) (Nat.le_refl _) ⟨by first | (rw [decide_eq_true (by omega)]; rfl) | (rw [decide_eq_false (by omega)]; rfl), rfl, rfl⟩
set_option maxRecDepth 4000 in
theorem k_Q_isFull (hl : l.stackTraces = false) {q pk k df : Nat} (h1 : h q = some (oc 1 [.ref pk, .int (nI k)])) (hk : k < 100) : Ct l D A G my_Q_isFull cd_Q_isFull 1 (some (.boolean)) df 0 0 [.ref q] h n (fun v h' n' => v = some (.int (zi (decide (6 ≤ k)))) ∧ h' = h ∧ n' = n) (fun _ _ _ => False) := by
  refine Ct.of (by decide) hl (Nat.le_of_ble_eq_true rfl) ?_
  intro p e s m args below meth c C hr hnm ht dp
  first | refine r_aload_n C dc_Q_isFull_0 rfl rfl ?_ | refine r_aload_nq C dc_Q_isFull_0 rfl rfl ?_
  refine r_get C dc_Q_isFull_1 fl_Q_17 (by first | assumption | exact hs_eq _ _ _ | exact (hs_ne (by omega)).trans (by assumption) | exact (hs_ne (by omega)).trans (hs_eq _ _ _) | exact (hs_ne (by omega)).trans ((hs_ne (by omega)).trans (by assumption)) | exact (hs_ne (by omega)).trans ((hs_ne (by omega)).trans (hs_eq _ _ _)) | exact (hs_ne (by omega)).trans ((hs_ne (by omega)).trans ((hs_ne (by omega)).trans (by assumption)))) rfl ?_
  refine r_bipush (v := nI 6) C dc_Q_isFull_4 (by decide) ?_
  refine r_icmp_ltN (tgt := 13) C dc_Q_isFull_6 (by decide) (by omega) (by omega) (fun c6 => ?_) (fun c6 => ?_)
  ·
    have c9 := c6
    refine r_iconst (v := nI 0) C dc_Q_isFull_13 (by decide) ?_
    exact r_zret C dp hr dc_Q_isFull_14 (by decide) (Nat.le_refl _) ⟨by first | (rw [decide_eq_true (by omega)]; rfl) | (rw [decide_eq_false (by omega)]; rfl), rfl, rfl⟩
  ·
    have c9 := c6
    refine r_iconst (v := nI 1) C dc_Q_isFull_9 (by decide) ?_
    refine r_goto (tgt := 14) C dc_Q_isFull_10 (by decide) ?_
    exact r_zret C dp hr dc_Q_isFull_14 (by decide) (Nat.le_refl _) ⟨by first | (rw [decide_eq_true (by omega)]; rfl) | (rw [decide_eq_false (by omega)]; rfl), rfl, rfl⟩
end Leaf
end
section
theorem wl_n {lo : List (Nat × Value)} : wl lo [] := trivial
theorem wl_c {lo t : List (Nat × Value)} {i : Nat} {v : Value} (a : gl lo i = some v) (b : wl lo t) : wl lo ((i, v) :: t) := ⟨a, b⟩
theorem r_loop (N : Nat) (B : Nat → Prop) (hx : B N) (hs : ∀ i, i < N → B (i + 1) → B i) : ∀ i, i ≤ N → B i := by
  have key : ∀ d i, i + d = N → B i := by
    intro d
    induction d with
    | zero => intro i hi; rw [show i = N by omega]; exact hx
    | succ d ih => intro i hi; exact hs i (by omega) (ih (i + 1) (by omega))
  intro i hi
  exact key (N - i) i (by omega)
/-- how many below k have it; whether one has it; the first from i on that has it -/
def cntT (P : Nat → Bool) : Nat → Nat
  | 0 => 0
  | k + 1 => cntT P k + (bif P k then 1 else 0)
def anyT (P : Nat → Bool) : Nat → Bool
  | 0 => false
  | k + 1 => anyT P k || P k
theorem cntT_le (P : Nat → Bool) : ∀ k, cntT P k ≤ k := by
  intro k
  induction k with
  | zero => exact Nat.le_refl _
  | succ k ih =>
    show cntT P k + (bif P k then 1 else 0) ≤ k + 1
    cases P k <;> simp <;> omega
theorem zv_0 : (nI 0 : Int32) = 0 ∨ (nI 0 : Int32) = 1 := Or.inl rfl
theorem zv_1 : (nI 1 : Int32) = 0 ∨ (nI 1 : Int32) = 1 := Or.inr rfl
section Model1
variable {l : Launch} {D : va_G} {A : Nat → ClassId} {G : Heap} {h : Hp} {n mm df : Nat} {x : Nat → Nat → Int32}
set_option maxRecDepth 4000 in
theorem k_M_thrown (hl : l.stackTraces = false)  : Ct l D A G my_M_thrown cd_M_thrown 1 (some (.int)) df 0 0 [.ref mm] (MH A mm x h) n (fun v h' n' => v = some (.int (x 0 0)) ∧ h' = MH A mm x h ∧ n' = n) (fun _ _ _ => False) := by
  refine Ct.of (by decide) hl (Nat.le_of_ble_eq_true rfl) ?_
  intro p e s m args below meth c C hr hnm ht dp
  first | refine r_aload_n C dc_M_thrown_0 rfl rfl ?_ | refine r_aload_nq C dc_M_thrown_0 rfl rfl ?_
  refine r_get C dc_M_thrown_1 fl_M_117 mh_0 rfl ?_
  exact r_iret C dp hr dc_M_thrown_4 (Nat.le_refl _) ⟨rfl, rfl, rfl⟩
set_option maxRecDepth 4000 in
theorem k_M_fail (hl : l.stackTraces = false) {v0 : Int32} : Ct l D A G my_M_fail cd_M_fail 2 (some (.int)) df 0 0 [.ref mm, .int v0] (MH A mm x h) n (fun v h' n' => v = some (.int (nI 0)) ∧ h' = MH A mm (ur x 0 (fun _ => v0)) h ∧ n' = n) (fun _ _ _ => False) := by
  refine Ct.of (by decide) hl (Nat.le_of_ble_eq_true rfl) ?_
  intro p e s m args below meth c C hr hnm ht dp
  first | refine r_aload_n C dc_M_fail_0 rfl rfl ?_ | refine r_aload_nq C dc_M_fail_0 rfl rfl ?_
  refine r_iload_n C dc_M_fail_1 rfl rfl ?_
  refine r_put C dc_M_fail_2 fl_M_117 mh_0 rfl rfl (Nat.le_of_ble_eq_true rfl) ?_
  rw [mp_0]
  refine r_iconst (v := nI 0) C dc_M_fail_5 (by decide) ?_
  exact r_iret C dp hr dc_M_fail_6 (Nat.le_refl _) ⟨rfl, rfl, rfl⟩
set_option maxRecDepth 4000 in
theorem k_M_out (hl : l.stackTraces = false) {v0 v1 : Int32} {hh : Hp} : Ct l D A G my_M_out cd_M_out 2 (some (.boolean)) df 0 0 [.int v0, .int v1] hh n (fun v h' n' => v = some (.int (zi (decide (v0 < 0 ∨ v1 ≤ v0)))) ∧ h' = hh ∧ n' = n) (fun _ _ _ => False) := by
  refine Ct.of (by decide) hl (Nat.le_of_ble_eq_true rfl) ?_
  intro p e s m args below meth c C hr hnm ht dp
  refine r_iload_n C dc_M_out_0 rfl rfl ?_
  refine r_if_lt (tgt := 9) C dc_M_out_1 (by decide) (fun c1 => ?_) (fun c1 => ?_)
  ·
    refine r_iconst (v := nI 1) C dc_M_out_9 (by decide) ?_
    refine r_goto (tgt := 14) C dc_M_out_10 (by decide) ?_
    exact r_zret C dp hr dc_M_out_14 zv_1 (Nat.le_refl _) ⟨by rw [decide_eq_true (Or.inl c1)]; rfl, rfl, rfl⟩
  ·
    refine r_iload_n C dc_M_out_4 rfl rfl ?_
    refine r_iload_n C dc_M_out_5 rfl rfl ?_
    refine r_icmp_lt (tgt := 13) C dc_M_out_6 (by decide) (fun c6 => ?_) (fun c6 => ?_)
    ·
      refine r_iconst (v := nI 0) C dc_M_out_13 (by decide) ?_
      exact r_zret C dp hr dc_M_out_14 zv_0 (Nat.le_refl _) ⟨by rw [decide_eq_false (fun z => z.elim c1 (fun z => absurd c6 (Int32.not_lt.mpr z)))]; rfl, rfl, rfl⟩
    ·
      refine r_iconst (v := nI 1) C dc_M_out_9 (by decide) ?_
      refine r_goto (tgt := 14) C dc_M_out_10 (by decide) ?_
      exact r_zret C dp hr dc_M_out_14 zv_1 (Nat.le_refl _) ⟨by rw [decide_eq_true (Or.inr (Int32.not_lt.mp c6))]; rfl, rfl, rfl⟩
set_option maxRecDepth 4000 in
theorem k_M_cables (hl : l.stackTraces = false)  : Ct l D A G my_M_cables cd_M_cables 3 (some (.int)) df 0 0 [.ref mm] (MH A mm x h) n (fun v h' n' => v = some (.int (nI (cntT (fun k => decide (nI k < x 1 k)) 36))) ∧ h' = MH A mm x h ∧ n' = n) (fun _ _ _ => False) := by
  refine Ct.of (by decide) hl (Nat.le_of_ble_eq_true rfl) ?_
  intro p e s m args below meth c C hr hnm ht dp
  have loop : ∀ k, k ≤ 36 → Rw p l e (cR df 0 0) s m args below meth c (CQ D G n (fun v h' n' => v = some (.int (nI (cntT (fun k => decide (nI k < x 1 k)) 36))) ∧ h' = MH A mm x h ∧ n' = n) (fun _ _ _ => False) below args s 0 0) D G 3 0 0 (MH A mm x h) n [(0, .ref mm), (1, .int (nI (cntT (fun k => decide (nI k < x 1 k)) k))), (2, .int (nI k))] 4 [] := by
    refine r_loop 36 _ ?_ ?_
    ·
      refine r_iload_n C dc_M_cables_4 rfl rfl ?_
      refine r_bipush (v := nI 36) C dc_M_cables_5 (by decide) ?_
      refine r_icmp_geN (tgt := 29) C dc_M_cables_7 (by decide) (by omega) (by omega) (fun c7 => ?_) (fun c7 => ?_)
      ·
        refine r_iload_n C dc_M_cables_29 rfl rfl ?_
        exact r_iret C dp hr dc_M_cables_30 (Nat.le_refl _) ⟨rfl, rfl, rfl⟩
      · exact absurd c7 (Nat.lt_irrefl _)
    ·
      intro k hk ih
      refine r_iload_n C dc_M_cables_4 rfl rfl ?_
      refine r_bipush (v := nI 36) C dc_M_cables_5 (by decide) ?_
      refine r_icmp_geN (tgt := 29) C dc_M_cables_7 (by decide) (by omega) (by omega) (fun c7 => ?_) (fun c7 => ?_)
      · exact absurd c7 (Nat.not_le.mpr hk)
      ·
        first | refine r_aload_n C dc_M_cables_10 rfl rfl ?_ | refine r_aload_nq C dc_M_cables_10 rfl rfl ?_
        refine r_get C dc_M_cables_11 fl_M_7 mh_0 rfl ?_
        refine r_iload_n C dc_M_cables_14 rfl rfl ?_
        refine r_ialdN C dc_M_cables_15 mh_1 (by omega) (by decide) ?_
        refine r_iload_n C dc_M_cables_16 rfl rfl ?_
        refine r_icmp_le (tgt := 23) C dc_M_cables_17 (by decide) (fun c17 => ?_) (fun c17 => ?_)
        ·
          have e9 : cntT (fun k => decide (nI k < x 1 k)) (k + 1) = cntT (fun k => decide (nI k < x 1 k)) k := by
            show _ + (bif decide (nI k < x 1 k) then 1 else 0) = _
            rw [decide_eq_false (Int32.not_lt.mpr c17)]; rfl
          first | refine r_iincN C dc_M_cables_23 rfl (by decide) (nw_of rfl) ?_ | refine r_iinc C dc_M_cables_23 rfl rfl (by decide) (nw_of rfl) ?_
          refine r_goto (tgt := 4) C dc_M_cables_26 (by decide) ?_
          refine r_weak ?_ ih
          exact wl_c (rfl) (wl_c (by rw [e9]; rfl) (wl_c (rfl) (wl_n)))
        ·
          have e9 : cntT (fun k => decide (nI k < x 1 k)) (k + 1) = cntT (fun k => decide (nI k < x 1 k)) k + 1 := by
            show _ + (bif decide (nI k < x 1 k) then 1 else 0) = _
            rw [decide_eq_true (Int32.not_le.mp c17)]; rfl
          first | refine r_iincN C dc_M_cables_20 rfl (by decide) (nw_of rfl) ?_ | refine r_iinc C dc_M_cables_20 rfl rfl (by decide) (nw_of rfl) ?_
          first | refine r_iincN C dc_M_cables_23 rfl (by decide) (nw_of rfl) ?_ | refine r_iinc C dc_M_cables_23 rfl rfl (by decide) (nw_of rfl) ?_
          refine r_goto (tgt := 4) C dc_M_cables_26 (by decide) ?_
          refine r_weak ?_ ih
          exact wl_c (rfl) (wl_c (by rw [e9]; rfl) (wl_c (rfl) (wl_n)))
  refine r_iconst (v := nI 0) C dc_M_cables_0 (by decide) ?_
  refine r_istore_n C dc_M_cables_1 rfl (by decide) (nw_of rfl) ?_
  refine r_iconst (v := nI 0) C dc_M_cables_2 (by decide) ?_
  refine r_istore_n C dc_M_cables_3 rfl (by decide) (nw_of rfl) ?_
  refine r_weak ?_ (loop 0 (by omega))
  exact wl_c (rfl) (wl_c (rfl) (wl_c (rfl) (wl_n)))
set_option maxRecDepth 4000 in
theorem k_M_busDirty (hl : l.stackTraces = false) {v0 : Int32} : Ct l D A G my_M_busDirty cd_M_busDirty 4 (some (.boolean)) df 0 0 [.ref mm, .int v0] (MH A mm x h) n (fun v h' n' => v = some (.int (zi (anyT (fun k => decide (x 18 k = v0 ∧ ¬ x 11 k = 0)) 12))) ∧ h' = MH A mm x h ∧ n' = n) (fun _ _ _ => False) := by
  refine Ct.of (by decide) hl (Nat.le_of_ble_eq_true rfl) ?_
  intro p e s m args below meth c C hr hnm ht dp
  have loop : ∀ k, k ≤ 12 → Rw p l e (cR df 0 0) s m args below meth c (CQ D G n (fun v h' n' => v = some (.int (zi (anyT (fun k => decide (x 18 k = v0 ∧ ¬ x 11 k = 0)) 12))) ∧ h' = MH A mm x h ∧ n' = n) (fun _ _ _ => False) below args s 0 0) D G 4 0 0 (MH A mm x h) n [(0, .ref mm), (1, .int v0), (2, .int (zi (anyT (fun k => decide (x 18 k = v0 ∧ ¬ x 11 k = 0)) k))), (3, .int (nI k))] 4 [] := by
    refine r_loop 12 _ ?_ ?_
    ·
      refine r_iload_n C dc_M_busDirty_4 rfl rfl ?_
      refine r_bipush (v := nI 12) C dc_M_busDirty_5 (by decide) ?_
      refine r_icmp_geN (tgt := 37) C dc_M_busDirty_7 (by decide) (by omega) (by omega) (fun c7 => ?_) (fun c7 => ?_)
      ·
        refine r_iload_n C dc_M_busDirty_37 rfl rfl ?_
        exact r_zret C dp hr dc_M_busDirty_38 (zi_01 _) (Nat.le_refl _) ⟨rfl, rfl, rfl⟩
      · exact absurd c7 (Nat.lt_irrefl _)
    ·
      intro k hk ih
      refine r_iload_n C dc_M_busDirty_4 rfl rfl ?_
      refine r_bipush (v := nI 12) C dc_M_busDirty_5 (by decide) ?_
      refine r_icmp_geN (tgt := 37) C dc_M_busDirty_7 (by decide) (by omega) (by omega) (fun c7 => ?_) (fun c7 => ?_)
      · exact absurd c7 (Nat.not_le.mpr hk)
      ·
        first | refine r_aload_n C dc_M_busDirty_10 rfl rfl ?_ | refine r_aload_nq C dc_M_busDirty_10 rfl rfl ?_
        refine r_get C dc_M_busDirty_11 fl_M_62 mh_0 rfl ?_
        refine r_iload_n C dc_M_busDirty_14 rfl rfl ?_
        refine r_ialdN C dc_M_busDirty_15 mh_18 (by omega) (by decide) ?_
        refine r_iload_n C dc_M_busDirty_16 rfl rfl ?_
        refine r_icmp_ne (tgt := 31) C dc_M_busDirty_17 (by decide) (fun c17 => ?_) (fun c17 => ?_)
        ·
          have e9 : anyT (fun k => decide (x 18 k = v0 ∧ ¬ x 11 k = 0)) (k + 1) = anyT (fun k => decide (x 18 k = v0 ∧ ¬ x 11 k = 0)) k := by
            show (_ || decide (x 18 k = v0 ∧ ¬ x 11 k = 0)) = _
            rw [decide_eq_false (fun z => c17 z.1), Bool.or_false]
          first | refine r_iincN C dc_M_busDirty_31 rfl (by decide) (nw_of rfl) ?_ | refine r_iinc C dc_M_busDirty_31 rfl rfl (by decide) (nw_of rfl) ?_
          refine r_goto (tgt := 4) C dc_M_busDirty_34 (by decide) ?_
          refine r_weak ?_ ih
          exact wl_c (rfl) (wl_c (rfl) (wl_c (by rw [e9]; rfl) (wl_c (rfl) (wl_n))))
        ·
          first | refine r_aload_n C dc_M_busDirty_20 rfl rfl ?_ | refine r_aload_nq C dc_M_busDirty_20 rfl rfl ?_
          refine r_get C dc_M_busDirty_21 fl_M_41 mh_0 rfl ?_
          refine r_iload_n C dc_M_busDirty_24 rfl rfl ?_
          refine r_zaldN C dc_M_busDirty_25 mh_11 (by omega) (by decide) ?_
          refine r_if_eq (tgt := 31) C dc_M_busDirty_26 (by decide) (fun c26 => ?_) (fun c26 => ?_)
          ·
            have e9 : anyT (fun k => decide (x 18 k = v0 ∧ ¬ x 11 k = 0)) (k + 1) = anyT (fun k => decide (x 18 k = v0 ∧ ¬ x 11 k = 0)) k := by
              show (_ || decide (x 18 k = v0 ∧ ¬ x 11 k = 0)) = _
              rw [decide_eq_false (fun z => z.2 c26), Bool.or_false]
            first | refine r_iincN C dc_M_busDirty_31 rfl (by decide) (nw_of rfl) ?_ | refine r_iinc C dc_M_busDirty_31 rfl rfl (by decide) (nw_of rfl) ?_
            refine r_goto (tgt := 4) C dc_M_busDirty_34 (by decide) ?_
            refine r_weak ?_ ih
            exact wl_c (rfl) (wl_c (rfl) (wl_c (by rw [e9]; rfl) (wl_c (rfl) (wl_n))))
          ·
            have e9 : anyT (fun k => decide (x 18 k = v0 ∧ ¬ x 11 k = 0)) (k + 1) = true := by
              show (_ || decide (x 18 k = v0 ∧ ¬ x 11 k = 0)) = _
              rw [decide_eq_true ⟨c17, c26⟩, Bool.or_true]
            refine r_iconst (v := nI 1) C dc_M_busDirty_29 (by decide) ?_
            refine r_istore_n C dc_M_busDirty_30 rfl (by decide) (nw_of rfl) ?_
            first | refine r_iincN C dc_M_busDirty_31 rfl (by decide) (nw_of rfl) ?_ | refine r_iinc C dc_M_busDirty_31 rfl rfl (by decide) (nw_of rfl) ?_
            refine r_goto (tgt := 4) C dc_M_busDirty_34 (by decide) ?_
            refine r_weak ?_ ih
            exact wl_c (rfl) (wl_c (rfl) (wl_c (by rw [e9]; rfl) (wl_c (rfl) (wl_n))))
  refine r_iconst (v := nI 0) C dc_M_busDirty_0 (by decide) ?_
  refine r_istore_n C dc_M_busDirty_1 rfl (by decide) (nw_of rfl) ?_
  refine r_iconst (v := nI 0) C dc_M_busDirty_2 (by decide) ?_
  refine r_istore_n C dc_M_busDirty_3 rfl (by decide) (nw_of rfl) ?_
  refine r_weak ?_ (loop 0 (by omega))
  exact wl_c (rfl) (wl_c (rfl) (wl_c (rfl) (wl_c (rfl) (wl_n))))
set_option maxRecDepth 4000 in
theorem k_M_anyOpen (hl : l.stackTraces = false) {v0 : Int32} : Ct l D A G my_M_anyOpen cd_M_anyOpen 4 (some (.boolean)) df 0 0 [.ref mm, .int v0] (MH A mm x h) n (fun v h' n' => v = some (.int (zi (anyT (fun k => decide (x 18 (k / 3) = v0 ∧ ¬ x 2 k = 0)) 36))) ∧ h' = MH A mm x h ∧ n' = n) (fun _ _ _ => False) := by
  refine Ct.of (by decide) hl (Nat.le_of_ble_eq_true rfl) ?_
  intro p e s m args below meth c C hr hnm ht dp
  have loop : ∀ k, k ≤ 36 → Rw p l e (cR df 0 0) s m args below meth c (CQ D G n (fun v h' n' => v = some (.int (zi (anyT (fun k => decide (x 18 (k / 3) = v0 ∧ ¬ x 2 k = 0)) 36))) ∧ h' = MH A mm x h ∧ n' = n) (fun _ _ _ => False) below args s 0 0) D G 4 0 0 (MH A mm x h) n [(0, .ref mm), (1, .int v0), (2, .int (zi (anyT (fun k => decide (x 18 (k / 3) = v0 ∧ ¬ x 2 k = 0)) k))), (3, .int (nI k))] 4 [] := by
    refine r_loop 36 _ ?_ ?_
    ·
      refine r_iload_n C dc_M_anyOpen_4 rfl rfl ?_
      refine r_bipush (v := nI 36) C dc_M_anyOpen_5 (by decide) ?_
      refine r_icmp_geN (tgt := 39) C dc_M_anyOpen_7 (by decide) (by omega) (by omega) (fun c7 => ?_) (fun c7 => ?_)
      ·
        refine r_iload_n C dc_M_anyOpen_39 rfl rfl ?_
        exact r_zret C dp hr dc_M_anyOpen_40 (zi_01 _) (Nat.le_refl _) ⟨rfl, rfl, rfl⟩
      · exact absurd c7 (Nat.lt_irrefl _)
    ·
      intro k hk ih
      refine r_iload_n C dc_M_anyOpen_4 rfl rfl ?_
      refine r_bipush (v := nI 36) C dc_M_anyOpen_5 (by decide) ?_
      refine r_icmp_geN (tgt := 39) C dc_M_anyOpen_7 (by decide) (by omega) (by omega) (fun c7 => ?_) (fun c7 => ?_)
      · exact absurd c7 (Nat.not_le.mpr hk)
      ·
        first | refine r_aload_n C dc_M_anyOpen_10 rfl rfl ?_ | refine r_aload_nq C dc_M_anyOpen_10 rfl rfl ?_
        refine r_get C dc_M_anyOpen_11 fl_M_62 mh_0 rfl ?_
        refine r_iload_n C dc_M_anyOpen_14 rfl rfl ?_
        refine r_iconst (v := nI 3) C dc_M_anyOpen_15 (by decide) ?_
        first | refine r_idivN C dc_M_anyOpen_16 (by omega) (by decide) (by decide) ?_ | refine r_idiv C dc_M_anyOpen_16 (by decide) ?_
        refine r_ialdN C dc_M_anyOpen_17 mh_18 (by omega) (by decide) ?_
        refine r_iload_n C dc_M_anyOpen_18 rfl rfl ?_
        refine r_icmp_ne (tgt := 33) C dc_M_anyOpen_19 (by decide) (fun c19 => ?_) (fun c19 => ?_)
        ·
          have e9 : anyT (fun k => decide (x 18 (k / 3) = v0 ∧ ¬ x 2 k = 0)) (k + 1) = anyT (fun k => decide (x 18 (k / 3) = v0 ∧ ¬ x 2 k = 0)) k := by
            show (_ || decide (x 18 (k / 3) = v0 ∧ ¬ x 2 k = 0)) = _
            rw [decide_eq_false (fun z => c19 z.1), Bool.or_false]
          first | refine r_iincN C dc_M_anyOpen_33 rfl (by decide) (nw_of rfl) ?_ | refine r_iinc C dc_M_anyOpen_33 rfl rfl (by decide) (nw_of rfl) ?_
          refine r_goto (tgt := 4) C dc_M_anyOpen_36 (by decide) ?_
          refine r_weak ?_ ih
          exact wl_c (rfl) (wl_c (rfl) (wl_c (by rw [e9]; rfl) (wl_c (rfl) (wl_n))))
        ·
          first | refine r_aload_n C dc_M_anyOpen_22 rfl rfl ?_ | refine r_aload_nq C dc_M_anyOpen_22 rfl rfl ?_
          refine r_get C dc_M_anyOpen_23 fl_M_13 mh_0 rfl ?_
          refine r_iload_n C dc_M_anyOpen_26 rfl rfl ?_
          refine r_zaldN C dc_M_anyOpen_27 mh_2 (by omega) (by decide) ?_
          refine r_if_eq (tgt := 33) C dc_M_anyOpen_28 (by decide) (fun c28 => ?_) (fun c28 => ?_)
          ·
            have e9 : anyT (fun k => decide (x 18 (k / 3) = v0 ∧ ¬ x 2 k = 0)) (k + 1) = anyT (fun k => decide (x 18 (k / 3) = v0 ∧ ¬ x 2 k = 0)) k := by
              show (_ || decide (x 18 (k / 3) = v0 ∧ ¬ x 2 k = 0)) = _
              rw [decide_eq_false (fun z => z.2 c28), Bool.or_false]
            first | refine r_iincN C dc_M_anyOpen_33 rfl (by decide) (nw_of rfl) ?_ | refine r_iinc C dc_M_anyOpen_33 rfl rfl (by decide) (nw_of rfl) ?_
            refine r_goto (tgt := 4) C dc_M_anyOpen_36 (by decide) ?_
            refine r_weak ?_ ih
            exact wl_c (rfl) (wl_c (rfl) (wl_c (by rw [e9]; rfl) (wl_c (rfl) (wl_n))))
          ·
            have e9 : anyT (fun k => decide (x 18 (k / 3) = v0 ∧ ¬ x 2 k = 0)) (k + 1) = true := by
              show (_ || decide (x 18 (k / 3) = v0 ∧ ¬ x 2 k = 0)) = _
              rw [decide_eq_true ⟨c19, c28⟩, Bool.or_true]
            refine r_iconst (v := nI 1) C dc_M_anyOpen_31 (by decide) ?_
            refine r_istore_n C dc_M_anyOpen_32 rfl (by decide) (nw_of rfl) ?_
            first | refine r_iincN C dc_M_anyOpen_33 rfl (by decide) (nw_of rfl) ?_ | refine r_iinc C dc_M_anyOpen_33 rfl rfl (by decide) (nw_of rfl) ?_
            refine r_goto (tgt := 4) C dc_M_anyOpen_36 (by decide) ?_
            refine r_weak ?_ ih
            exact wl_c (rfl) (wl_c (rfl) (wl_c (by rw [e9]; rfl) (wl_c (rfl) (wl_n))))
  refine r_iconst (v := nI 0) C dc_M_anyOpen_0 (by decide) ?_
  refine r_istore_n C dc_M_anyOpen_1 rfl (by decide) (nw_of rfl) ?_
  refine r_iconst (v := nI 0) C dc_M_anyOpen_2 (by decide) ?_
  refine r_istore_n C dc_M_anyOpen_3 rfl (by decide) (nw_of rfl) ?_
  refine r_weak ?_ (loop 0 (by omega))
  exact wl_c (rfl) (wl_c (rfl) (wl_c (rfl) (wl_c (rfl) (wl_n))))
end Model1
end
section
section Model2
variable {l : Launch} {D : va_G} {A : Nat → ClassId} {G : Heap} {h : Hp} {n mm df : Nat} {x : Nat → Nat → Int32}
set_option maxRecDepth 4000 in
theorem k_M_nextBit (hl : l.stackTraces = false) {a pl : Nat} (ha : a < 12) (hp : x 4 a = nI pl) (hpl : pl < 16) : Ct l D A G my_M_nextBit cd_M_nextBit 3 (some (.int)) df 0 0 [.ref mm, .int (nI a)] (MH A mm x h) n (fun v h' n' => v = some (.int (x 3 a >>> (nI pl &&& 31) &&& nI 1)) ∧ h' = MH A mm (ur x 4 (upd (x 4) a (nI ((pl + 1) % 16)))) h ∧ n' = n) (fun _ _ _ => False) := by
  refine Ct.of (by decide) hl (Nat.le_of_ble_eq_true rfl) ?_
  intro p e s m args below meth c C hr hnm ht dp
  first | refine r_aload_n C dc_M_nextBit_0 rfl rfl ?_ | refine r_aload_nq C dc_M_nextBit_0 rfl rfl ?_
  refine r_get C dc_M_nextBit_1 fl_M_17 mh_0 rfl ?_
  refine r_iload_n C dc_M_nextBit_4 rfl rfl ?_
  refine r_ialdN C dc_M_nextBit_5 mh_3 (by omega) (by decide) ?_
  first | refine r_aload_n C dc_M_nextBit_6 rfl rfl ?_ | refine r_aload_nq C dc_M_nextBit_6 rfl rfl ?_
  refine r_get C dc_M_nextBit_7 fl_M_20 mh_0 rfl ?_
  refine r_iload_n C dc_M_nextBit_10 rfl rfl ?_
  refine r_ialdN C dc_M_nextBit_11 mh_4 (by omega) (by decide) ?_
  rw [hp]
  refine r_ishr C dc_M_nextBit_12 ?_
  refine r_iconst (v := nI 1) C dc_M_nextBit_13 (by decide) ?_
  refine r_iand C dc_M_nextBit_14 ?_
  refine r_istore_n C dc_M_nextBit_15 rfl (by decide) (nw_of rfl) ?_
  first | refine r_aload_n C dc_M_nextBit_16 rfl rfl ?_ | refine r_aload_nq C dc_M_nextBit_16 rfl rfl ?_
  refine r_get C dc_M_nextBit_17 fl_M_20 mh_0 rfl ?_
  refine r_iload_n C dc_M_nextBit_20 rfl rfl ?_
  first | refine r_aload_n C dc_M_nextBit_21 rfl rfl ?_ | refine r_aload_nq C dc_M_nextBit_21 rfl rfl ?_
  refine r_get C dc_M_nextBit_22 fl_M_20 mh_0 rfl ?_
  refine r_iload_n C dc_M_nextBit_25 rfl rfl ?_
  refine r_ialdN C dc_M_nextBit_26 mh_4 (by omega) (by decide) ?_
  rw [hp]
  refine r_iconst (v := nI 1) C dc_M_nextBit_27 (by decide) ?_
  first | refine r_iaddN C dc_M_nextBit_28 ?_ | refine r_iadd C dc_M_nextBit_28 ?_
  refine r_bipush (v := nI 16) C dc_M_nextBit_29 (by decide) ?_
  first | refine r_iremN C dc_M_nextBit_31 (by omega) (by decide) (by decide) ?_ | refine r_irem C dc_M_nextBit_31 (by decide) ?_
  refine r_iast C dc_M_nextBit_32 mh_4 rfl (by omega) (by decide) ?_
  rw [ms_4]
  refine r_iload_n C dc_M_nextBit_33 rfl rfl ?_
  exact r_iret C dp hr dc_M_nextBit_34 (Nat.le_refl _) ⟨rfl, rfl, rfl⟩
set_option maxRecDepth 4000 in
theorem k_M_close (hl : l.stackTraces = false) {a c0 : Nat} (ha : a < 36) (hc : c0 < 36) : Ct l D A G my_M_close cd_M_close 3 none df 0 0 [.ref mm, .int (nI a), .int (nI c0)] (MH A mm x h) n (fun v h' n' => v = none ∧ h' = MH A mm (ur (ur (ur x 2 (upd (x 2) c0 (nI 0))) 2 (upd (upd (x 2) c0 (nI 0)) a (nI 0))) 14 (upd (x 14) (a / 3) (nI (c0 / 3)))) h ∧ n' = n) (fun _ _ _ => False) := by
  refine Ct.of (by decide) hl (Nat.le_of_ble_eq_true rfl) ?_
  intro p e s m args below meth c C hr hnm ht dp
  first | refine r_aload_n C dc_M_close_0 rfl rfl ?_ | refine r_aload_nq C dc_M_close_0 rfl rfl ?_
  refine r_get C dc_M_close_1 fl_M_13 mh_0 rfl ?_
  refine r_iload_n C dc_M_close_4 rfl rfl ?_
  first | refine r_aload_n C dc_M_close_5 rfl rfl ?_ | refine r_aload_nq C dc_M_close_5 rfl rfl ?_
  refine r_get C dc_M_close_6 fl_M_13 mh_0 rfl ?_
  refine r_iload_n C dc_M_close_9 rfl rfl ?_
  refine r_iconst (v := nI 0) C dc_M_close_10 (by decide) ?_
  refine r_dup_x2 C dc_M_close_11 rfl rfl rfl ?_
  refine r_zast C dc_M_close_12 mh_2 rfl (by omega) (by decide) (by first | exact zi_01 _ | exact zv_0 | exact zv_1 | assumption | decide) ?_
  rw [ms_2]
  refine r_zast C dc_M_close_13 mh_2 rfl (by omega) (by decide) (by first | exact zi_01 _ | exact zv_0 | exact zv_1 | assumption | decide) ?_
  rw [ms_2]
  first | refine r_aload_n C dc_M_close_14 rfl rfl ?_ | refine r_aload_nq C dc_M_close_14 rfl rfl ?_
  refine r_get C dc_M_close_15 fl_M_50 mh_0 rfl ?_
  refine r_iload_n C dc_M_close_18 rfl rfl ?_
  refine r_iconst (v := nI 3) C dc_M_close_19 (by decide) ?_
  first | refine r_idivN C dc_M_close_20 (by omega) (by decide) (by decide) ?_ | refine r_idiv C dc_M_close_20 (by decide) ?_
  refine r_iload_n C dc_M_close_21 rfl rfl ?_
  refine r_iconst (v := nI 3) C dc_M_close_22 (by decide) ?_
  first | refine r_idivN C dc_M_close_23 (by omega) (by decide) (by decide) ?_ | refine r_idiv C dc_M_close_23 (by decide) ?_
  refine r_iast C dc_M_close_24 mh_14 rfl (by omega) (by decide) ?_
  rw [ms_14]
  exact r_vret C dp hr dc_M_close_25 (Nat.le_refl _) ⟨rfl, rfl, rfl⟩
set_option maxRecDepth 4000 in
theorem k_M_time (hl : l.stackTraces = false) {v0 : Int32} : Ct l D A G my_M_time cd_M_time 2 none df 0 0 [.ref mm, .int v0] (MH A mm x h) n (fun v h' n' => v = none ∧ h' = MH A mm (if v0 < nI 2 ∨ nI 60 < v0 then ur x 0 (fun _ => nI 1) else ur (ur x 0 (fun _ => nI 0)) 37 (fun _ => v0)) h ∧ n' = n) (fun _ _ _ => False) := by
  refine Ct.of (by decide) hl (Nat.le_of_ble_eq_true rfl) ?_
  intro p e s m args below meth c C hr hnm ht dp
  first | refine r_aload_n C dc_M_time_0 rfl rfl ?_ | refine r_aload_nq C dc_M_time_0 rfl rfl ?_
  refine r_iconst (v := nI 0) C dc_M_time_1 (by decide) ?_
  refine r_put C dc_M_time_2 fl_M_117 mh_0 rfl rfl (Nat.le_of_ble_eq_true rfl) ?_
  rw [mp_0]
  refine r_iload_n C dc_M_time_5 rfl rfl ?_
  refine r_iconst (v := nI 2) C dc_M_time_6 (by decide) ?_
  refine r_icmp_lt (tgt := 16) C dc_M_time_7 (by decide) (fun c7 => ?_) (fun c7 => ?_)
  ·
    first | refine r_aload_n C dc_M_time_16 rfl rfl ?_ | refine r_aload_nq C dc_M_time_16 rfl rfl ?_
    refine r_iconst (v := nI 1) C dc_M_time_17 (by decide) ?_
    refine r_put C dc_M_time_18 fl_M_117 mh_0 rfl rfl (Nat.le_of_ble_eq_true rfl) ?_
    rw [mp_0]
    refine r_goto (tgt := 29) C dc_M_time_21 (by decide) ?_
    exact r_vret C dp hr dc_M_time_29 (Nat.le_refl _) ⟨rfl, by rw [if_pos (Or.inl c7), ur_ur], rfl⟩
  ·
    refine r_iload_n C dc_M_time_10 rfl rfl ?_
    refine r_bipush (v := nI 60) C dc_M_time_11 (by decide) ?_
    refine r_icmp_le (tgt := 24) C dc_M_time_13 (by decide) (fun c13 => ?_) (fun c13 => ?_)
    ·
      first | refine r_aload_n C dc_M_time_24 rfl rfl ?_ | refine r_aload_nq C dc_M_time_24 rfl rfl ?_
      refine r_iload_n C dc_M_time_25 rfl rfl ?_
      refine r_put C dc_M_time_26 fl_M_113 mh_0 rfl rfl (Nat.le_of_ble_eq_true rfl) ?_
      rw [mp_37]
      exact r_vret C dp hr dc_M_time_29 (Nat.le_refl _) ⟨rfl, by rw [if_neg (fun z => z.elim c7 (fun z => absurd c13 (Int32.not_le.mpr z)))], rfl⟩
    ·
      first | refine r_aload_n C dc_M_time_16 rfl rfl ?_ | refine r_aload_nq C dc_M_time_16 rfl rfl ?_
      refine r_iconst (v := nI 1) C dc_M_time_17 (by decide) ?_
      refine r_put C dc_M_time_18 fl_M_117 mh_0 rfl rfl (Nat.le_of_ble_eq_true rfl) ?_
      rw [mp_0]
      refine r_goto (tgt := 29) C dc_M_time_21 (by decide) ?_
      exact r_vret C dp hr dc_M_time_29 (Nat.le_refl _) ⟨rfl, by rw [if_pos (Or.inr (Int32.not_le.mp c13)), ur_ur], rfl⟩
theorem nd_of {v : Int32} {k : Nat} (q : ¬ (v < 0 ∨ nI k ≤ v)) (hk : k < 2 ^ 31 := by decide) : ∃ a, a < k ∧ v = nI a := by
  rcases pk_ix v hk with h1 | h1 | h1
  · exact absurd (Or.inl h1) q
  · exact absurd (Or.inr h1) q
  · exact h1
set_option maxRecDepth 4000 in
theorem k_M_talk (hl : l.stackTraces = false) {v0 v1 v2 : Int32} : Ct l D A G my_M_talk cd_M_talk 4 none (df + 1) 0 0 [.ref mm, .int v0, .int v1, .int v2] (MH A mm x h) n (fun v h' n' => v = none ∧ h' = MH A mm (if v0 < 0 ∨ nI 12 ≤ v0 then ur x 0 (fun _ => nI 1) else if (v1 < 0 ∨ nI 32 ≤ v1) ∨ (v2 < 0 ∨ nI 101 ≤ v2) then ur x 0 (fun _ => nI 2) else ur (ur (ur x 0 (fun _ => nI 0)) 6 (upd (x 6) v0.toNatClampNeg v1)) 7 (upd (x 7) v0.toNatClampNeg v2)) h ∧ n' = n) (fun _ _ _ => False) := by
  refine Ct.of (by decide) hl (Nat.le_of_ble_eq_true rfl) ?_
  intro p e s m args below meth c C hr hnm ht dp
  first | refine r_aload_n C dc_M_talk_0 rfl rfl ?_ | refine r_aload_nq C dc_M_talk_0 rfl rfl ?_
  refine r_iconst (v := nI 0) C dc_M_talk_1 (by decide) ?_
  refine r_put C dc_M_talk_2 fl_M_117 mh_0 rfl rfl (Nat.le_of_ble_eq_true rfl) ?_
  rw [mp_0]
  refine r_iload_n C dc_M_talk_5 rfl rfl ?_
  refine r_bipush (v := nI 12) C dc_M_talk_6 (by decide) ?_
  refine r_callS C dp dc_M_talk_8 cw_M_120 cs_M_out (k_M_out hl) (Nat.lt_succ_self _) rfl rfl (Nat.le_of_ble_eq_true rfl) (fun v8 h8 n8 q8 z8 => ?_) (fun _ _ _ _ z => z.elim)
  obtain ⟨y8, y8h, y8n⟩ := z8
  rw [y8, y8h, y8n]
  refine r_if_eqZ (tgt := 22) C dc_M_talk_11 (by decide) (fun c11 => ?_) (fun c11 => ?_)
  ·
    refine r_iload_n C dc_M_talk_22 rfl rfl ?_
    refine r_bipush (v := nI 32) C dc_M_talk_23 (by decide) ?_
    refine r_callS C dp dc_M_talk_25 cw_M_120 cs_M_out (k_M_out hl) (Nat.lt_succ_self _) rfl rfl (Nat.le_of_ble_eq_true rfl) (fun v25 h25 n25 q25 z25 => ?_) (fun _ _ _ _ z => z.elim)
    obtain ⟨y25, y25h, y25n⟩ := z25
    rw [y25, y25h, y25n]
    refine r_if_neZ (tgt := 40) C dc_M_talk_28 (by decide) (fun c28 => ?_) (fun c28 => ?_)
    ·
      first | refine r_aload_n C dc_M_talk_40 rfl rfl ?_ | refine r_aload_nq C dc_M_talk_40 rfl rfl ?_
      refine r_iconst (v := nI 2) C dc_M_talk_41 (by decide) ?_
      refine r_put C dc_M_talk_42 fl_M_117 mh_0 rfl rfl (Nat.le_of_ble_eq_true rfl) ?_
      rw [mp_0]
      refine r_goto (tgt := 62) C dc_M_talk_45 (by decide) ?_
      exact r_vret C dp hr dc_M_talk_62 (Nat.le_refl _) ⟨rfl, by rw [if_neg (of_decide_eq_false c11), if_pos (Or.inl (of_decide_eq_true c28)), ur_ur], rfl⟩
    ·
      refine r_iload_n C dc_M_talk_31 rfl rfl ?_
      refine r_bipush (v := nI 101) C dc_M_talk_32 (by decide) ?_
      refine r_callS C dp dc_M_talk_34 cw_M_120 cs_M_out (k_M_out hl) (Nat.lt_succ_self _) rfl rfl (Nat.le_of_ble_eq_true rfl) (fun v34 h34 n34 q34 z34 => ?_) (fun _ _ _ _ z => z.elim)
      obtain ⟨y34, y34h, y34n⟩ := z34
      rw [y34, y34h, y34n]
      refine r_if_eqZ (tgt := 48) C dc_M_talk_37 (by decide) (fun c37 => ?_) (fun c37 => ?_)
      ·
        obtain ⟨a, ha, rfl⟩ := nd_of (of_decide_eq_false c11)
        first | refine r_aload_n C dc_M_talk_48 rfl rfl ?_ | refine r_aload_nq C dc_M_talk_48 rfl rfl ?_
        refine r_get C dc_M_talk_49 fl_M_26 mh_0 rfl ?_
        refine r_iload_n C dc_M_talk_52 rfl rfl ?_
        refine r_iload_n C dc_M_talk_53 rfl rfl ?_
        refine r_iast C dc_M_talk_54 mh_6 rfl (by omega) (by decide) ?_
        rw [ms_6]
        first | refine r_aload_n C dc_M_talk_55 rfl rfl ?_ | refine r_aload_nq C dc_M_talk_55 rfl rfl ?_
        refine r_get C dc_M_talk_56 fl_M_29 mh_0 rfl ?_
        refine r_iload_n C dc_M_talk_59 rfl rfl ?_
        refine r_iload_n C dc_M_talk_60 rfl rfl ?_
        refine r_iast C dc_M_talk_61 mh_7 rfl (by omega) (by decide) ?_
        rw [ms_7]
        exact r_vret C dp hr dc_M_talk_62 (Nat.le_refl _) ⟨rfl, by rw [if_neg (of_decide_eq_false c11), if_neg (fun z => z.elim (of_decide_eq_false c28) (of_decide_eq_false c37)), nI_clamp (by omega)]; rfl, rfl⟩
      ·
        first | refine r_aload_n C dc_M_talk_40 rfl rfl ?_ | refine r_aload_nq C dc_M_talk_40 rfl rfl ?_
        refine r_iconst (v := nI 2) C dc_M_talk_41 (by decide) ?_
        refine r_put C dc_M_talk_42 fl_M_117 mh_0 rfl rfl (Nat.le_of_ble_eq_true rfl) ?_
        rw [mp_0]
        refine r_goto (tgt := 62) C dc_M_talk_45 (by decide) ?_
        exact r_vret C dp hr dc_M_talk_62 (Nat.le_refl _) ⟨rfl, by rw [if_neg (of_decide_eq_false c11), if_pos (Or.inr (of_decide_eq_true c37)), ur_ur], rfl⟩
  ·
    first | refine r_aload_n C dc_M_talk_14 rfl rfl ?_ | refine r_aload_nq C dc_M_talk_14 rfl rfl ?_
    refine r_iconst (v := nI 1) C dc_M_talk_15 (by decide) ?_
    refine r_put C dc_M_talk_16 fl_M_117 mh_0 rfl rfl (Nat.le_of_ble_eq_true rfl) ?_
    rw [mp_0]
    refine r_goto (tgt := 62) C dc_M_talk_19 (by decide) ?_
    exact r_vret C dp hr dc_M_talk_62 (Nat.le_refl _) ⟨rfl, by rw [if_pos (of_decide_eq_true c11), ur_ur], rfl⟩
end Model2
end
section
section Model3
variable {l : Launch} {D : va_G} {A : Nat → ClassId} {G : Heap} {h : Hp} {n mm df : Nat} {x : Nat → Nat → Int32}
abbrev th (x : Nat → Nat → Int32) (k : Nat) : Nat → Nat → Int32 := ur x 0 (fun _ => nI k)
abbrev ou (v : Int32) (k : Nat) : Prop := v < 0 ∨ nI k ≤ v
abbrev cl (v : Int32) : Nat := v.toNatClampNeg
theorem cl_nI {k : Nat} (q : k < 2 ^ 31) : cl (nI k) = k := nI_clamp q
theorem r_ldc {p : Program} {e : Env} {R : Room} {s : State} {m : MethodId} {args : Array Value} {below : List Frame} {meth : Method} {c : Code} {Q : State → Prop} {cc : ByteArray} {nL : Nat} {own : String} {bc bs : Nat} {lo : List (Nat × Value)} {pc : Nat} {st : List Value} {index : Nat} {v : Int32} (C : Cx p l s m args meth c D A G cc nL own) (d : decode cc pc = .ok (.ldc index, 2)) (hw : Cond.constant own index v ∈ tbl) (k : Rw p l e R s m args below meth c Q D G nL bc bs h n lo (pc + 2) (.int v :: st)) : Rw p l e R s m args below meth c Q D G nL bc bs h n lo pc st :=
  fun H ls locs cells slots hR hz hl hf hc hs => lv_ldc C.1 C.2.1 C.2.2.2.1 (C.2.2.2.2.1.w hw) d (k H ls locs cells slots hR hz hl hf hc hs)
def mWord (x : Nat → Nat → Int32) (a w : Int32) : Int32 × (Nat → Nat → Int32) := if ou a 12 then (nI 0, th x 1) else if ou w 8 then (nI 0, th x 2) else (x 13 (8 * cl a + cl w), th x 0)
set_option maxRecDepth 4000 in
theorem k_M_word (hl : l.stackTraces = false) {v0 v1 : Int32} : Ct l D A G my_M_word cd_M_word 3 (some (.int)) (df + 1) 0 0 [.ref mm, .int v0, .int v1] (MH A mm x h) n (fun v h' n' => v = some (.int (mWord x v0 v1).1) ∧ h' = MH A mm ((mWord x v0 v1).2) h ∧ n' = n) (fun _ _ _ => False) := by
  refine Ct.of (by decide) hl (Nat.le_of_ble_eq_true rfl) ?_
  intro p e s m args below meth c C hr hnm ht dp
  first | refine r_aload_n C dc_M_word_0 rfl rfl ?_ | refine r_aload_nq C dc_M_word_0 rfl rfl ?_
  refine r_iconst (v := nI 0) C dc_M_word_1 (by decide) ?_
  refine r_put C dc_M_word_2 fl_M_117 mh_0 rfl rfl (Nat.le_of_ble_eq_true rfl) ?_
  rw [mp_0]
  refine r_iload_n C dc_M_word_5 rfl rfl ?_
  refine r_bipush (v := nI 12) C dc_M_word_6 (by decide) ?_
  refine r_callS C dp dc_M_word_8 cw_M_120 cs_M_out (k_M_out hl) (Nat.lt_succ_self _) rfl rfl (Nat.le_of_ble_eq_true rfl) (fun v8 h8 n8 q8 z8 => ?_) (fun _ _ _ _ z => z.elim)
  obtain ⟨y8, y8h, y8n⟩ := z8
  rw [y8, y8h, y8n]
  refine r_if_eqZ (tgt := 20) C dc_M_word_11 (by decide) (fun c11 => ?_) (fun c11 => ?_)
  ·
    refine r_iload_n C dc_M_word_20 rfl rfl ?_
    refine r_bipush (v := nI 8) C dc_M_word_21 (by decide) ?_
    refine r_callS C dp dc_M_word_23 cw_M_120 cs_M_out (k_M_out hl) (Nat.lt_succ_self _) rfl rfl (Nat.le_of_ble_eq_true rfl) (fun v23 h23 n23 q23 z23 => ?_) (fun _ _ _ _ z => z.elim)
    obtain ⟨y23, y23h, y23n⟩ := z23
    rw [y23, y23h, y23n]
    refine r_if_eqZ (tgt := 37) C dc_M_word_26 (by decide) (fun c26 => ?_) (fun c26 => ?_)
    ·
      obtain ⟨a, ha, rfl⟩ := nd_of (of_decide_eq_false c11)
      obtain ⟨j, hj, rfl⟩ := nd_of (of_decide_eq_false c26)
      first | refine r_aload_n C dc_M_word_37 rfl rfl ?_ | refine r_aload_nq C dc_M_word_37 rfl rfl ?_
      refine r_get C dc_M_word_38 fl_M_47 mh_0 rfl ?_
      refine r_bipush (v := nI 8) C dc_M_word_41 (by decide) ?_
      refine r_iload_n C dc_M_word_43 rfl rfl ?_
      first | refine r_imulN C dc_M_word_44 ?_ | refine r_imul C dc_M_word_44 ?_
      refine r_iload_n C dc_M_word_45 rfl rfl ?_
      first | refine r_iaddN C dc_M_word_46 ?_ | refine r_iadd C dc_M_word_46 ?_
      refine r_ialdN C dc_M_word_47 mh_13 (by omega) (by decide) ?_
      exact r_iret C dp hr dc_M_word_48 (Nat.le_refl _) ⟨by unfold mWord; rw [if_neg (of_decide_eq_false c11), if_neg (of_decide_eq_false c26), cl_nI (k := a) (by omega), cl_nI (k := j) (by omega)] <;> (first | rfl | (simp only [ur_ur]; done) | (simp only [ur_ur]; rfl)), by unfold mWord; rw [if_neg (of_decide_eq_false c11), if_neg (of_decide_eq_false c26), cl_nI (k := a) (by omega), cl_nI (k := j) (by omega)] <;> (first | rfl | (simp only [ur_ur]; done) | (simp only [ur_ur]; rfl)), rfl⟩
    ·
      first | refine r_aload_n C dc_M_word_29 rfl rfl ?_ | refine r_aload_nq C dc_M_word_29 rfl rfl ?_
      refine r_iconst (v := nI 2) C dc_M_word_30 (by decide) ?_
      refine r_callV C dp dc_M_word_31 cw_M_124 cm_M_fail cv_M_fail rfl (mh_0) (k_M_fail hl) (Nat.lt_succ_self _) rfl rfl (Nat.le_of_ble_eq_true rfl) (fun v31 h31 n31 q31 z31 => ?_) (fun _ _ _ _ z => z.elim)
      obtain ⟨y31, y31h, y31n⟩ := z31
      rw [y31, y31h, y31n]
      refine r_goto (tgt := 48) C dc_M_word_34 (by decide) ?_
      exact r_iret C dp hr dc_M_word_48 (Nat.le_refl _) ⟨by unfold mWord; rw [if_neg (of_decide_eq_false c11), if_pos (of_decide_eq_true c26)] <;> (first | rfl | (simp only [ur_ur]; done) | (simp only [ur_ur]; rfl)), by unfold mWord; rw [if_neg (of_decide_eq_false c11), if_pos (of_decide_eq_true c26)] <;> (first | rfl | (simp only [ur_ur]; done) | (simp only [ur_ur]; rfl)), rfl⟩
  ·
    first | refine r_aload_n C dc_M_word_14 rfl rfl ?_ | refine r_aload_nq C dc_M_word_14 rfl rfl ?_
    refine r_iconst (v := nI 1) C dc_M_word_15 (by decide) ?_
    refine r_callV C dp dc_M_word_16 cw_M_124 cm_M_fail cv_M_fail rfl (mh_0) (k_M_fail hl) (Nat.lt_succ_self _) rfl rfl (Nat.le_of_ble_eq_true rfl) (fun v16 h16 n16 q16 z16 => ?_) (fun _ _ _ _ z => z.elim)
    obtain ⟨y16, y16h, y16n⟩ := z16
    rw [y16, y16h, y16n]
    exact r_iret C dp hr dc_M_word_19 (Nat.le_refl _) ⟨by unfold mWord; rw [if_pos (of_decide_eq_true c11)] <;> (first | rfl | (simp only [ur_ur]; done) | (simp only [ur_ur]; rfl)), by unfold mWord; rw [if_pos (of_decide_eq_true c11)] <;> (first | rfl | (simp only [ur_ur]; done) | (simp only [ur_ur]; rfl)), rfl⟩
def mEnded (x : Nat → Nat → Int32) (a w : Int32) : Int32 × (Nat → Nat → Int32) := if ou a 12 then (nI 0, th x 1) else if ou w 4 then (nI 0, th x 2) else if x 20 (4 * cl a + cl w) = -2 then (nI 0, th x 3) else (x 20 (4 * cl a + cl w), th x 0)
set_option maxRecDepth 4000 in
theorem k_M_ended (hl : l.stackTraces = false) {v0 v1 : Int32} : Ct l D A G my_M_ended cd_M_ended 3 (some (.int)) (df + 1) 0 0 [.ref mm, .int v0, .int v1] (MH A mm x h) n (fun v h' n' => v = some (.int (mEnded x v0 v1).1) ∧ h' = MH A mm ((mEnded x v0 v1).2) h ∧ n' = n) (fun _ _ _ => False) := by
  refine Ct.of (by decide) hl (Nat.le_of_ble_eq_true rfl) ?_
  intro p e s m args below meth c C hr hnm ht dp
  first | refine r_aload_n C dc_M_ended_0 rfl rfl ?_ | refine r_aload_nq C dc_M_ended_0 rfl rfl ?_
  refine r_iconst (v := nI 0) C dc_M_ended_1 (by decide) ?_
  refine r_put C dc_M_ended_2 fl_M_117 mh_0 rfl rfl (Nat.le_of_ble_eq_true rfl) ?_
  rw [mp_0]
  refine r_iload_n C dc_M_ended_5 rfl rfl ?_
  refine r_bipush (v := nI 12) C dc_M_ended_6 (by decide) ?_
  refine r_callS C dp dc_M_ended_8 cw_M_120 cs_M_out (k_M_out hl) (Nat.lt_succ_self _) rfl rfl (Nat.le_of_ble_eq_true rfl) (fun v8 h8 n8 q8 z8 => ?_) (fun _ _ _ _ z => z.elim)
  obtain ⟨y8, y8h, y8n⟩ := z8
  rw [y8, y8h, y8n]
  refine r_if_eqZ (tgt := 20) C dc_M_ended_11 (by decide) (fun c11 => ?_) (fun c11 => ?_)
  ·
    refine r_iload_n C dc_M_ended_20 rfl rfl ?_
    refine r_iconst (v := nI 4) C dc_M_ended_21 (by decide) ?_
    refine r_callS C dp dc_M_ended_22 cw_M_120 cs_M_out (k_M_out hl) (Nat.lt_succ_self _) rfl rfl (Nat.le_of_ble_eq_true rfl) (fun v22 h22 n22 q22 z22 => ?_) (fun _ _ _ _ z => z.elim)
    obtain ⟨y22, y22h, y22n⟩ := z22
    rw [y22, y22h, y22n]
    refine r_if_eqZ (tgt := 34) C dc_M_ended_25 (by decide) (fun c25 => ?_) (fun c25 => ?_)
    ·
      obtain ⟨a, ha, rfl⟩ := nd_of (of_decide_eq_false c11)
      obtain ⟨j, hj, rfl⟩ := nd_of (of_decide_eq_false c25)
      first | refine r_aload_n C dc_M_ended_34 rfl rfl ?_ | refine r_aload_nq C dc_M_ended_34 rfl rfl ?_
      refine r_get C dc_M_ended_35 fl_M_68 mh_0 rfl ?_
      refine r_iconst (v := nI 4) C dc_M_ended_38 (by decide) ?_
      refine r_iload_n C dc_M_ended_39 rfl rfl ?_
      first | refine r_imulN C dc_M_ended_40 ?_ | refine r_imul C dc_M_ended_40 ?_
      refine r_iload_n C dc_M_ended_41 rfl rfl ?_
      first | refine r_iaddN C dc_M_ended_42 ?_ | refine r_iadd C dc_M_ended_42 ?_
      refine r_ialdN C dc_M_ended_43 mh_20 (by omega) (by decide) ?_
      refine r_bipush (v := -2) C dc_M_ended_44 (by decide) ?_
      refine r_icmp_ne (tgt := 57) C dc_M_ended_46 (by decide) (fun c46 => ?_) (fun c46 => ?_)
      ·
        first | refine r_aload_n C dc_M_ended_57 rfl rfl ?_ | refine r_aload_nq C dc_M_ended_57 rfl rfl ?_
        refine r_get C dc_M_ended_58 fl_M_68 mh_0 rfl ?_
        refine r_iconst (v := nI 4) C dc_M_ended_61 (by decide) ?_
        refine r_iload_n C dc_M_ended_62 rfl rfl ?_
        first | refine r_imulN C dc_M_ended_63 ?_ | refine r_imul C dc_M_ended_63 ?_
        refine r_iload_n C dc_M_ended_64 rfl rfl ?_
        first | refine r_iaddN C dc_M_ended_65 ?_ | refine r_iadd C dc_M_ended_65 ?_
        refine r_ialdN C dc_M_ended_66 mh_20 (by omega) (by decide) ?_
        exact r_iret C dp hr dc_M_ended_67 (Nat.le_refl _) ⟨by unfold mEnded; rw [if_neg (of_decide_eq_false c11), if_neg (of_decide_eq_false c25), cl_nI (k := a) (by omega), cl_nI (k := j) (by omega), if_neg (show ¬ x 20 (4 * a + j) = -2 from c46)] <;> (first | rfl | (simp only [ur_ur]; done) | (simp only [ur_ur]; rfl)), by unfold mEnded; rw [if_neg (of_decide_eq_false c11), if_neg (of_decide_eq_false c25), cl_nI (k := a) (by omega), cl_nI (k := j) (by omega), if_neg (show ¬ x 20 (4 * a + j) = -2 from c46)] <;> (first | rfl | (simp only [ur_ur]; done) | (simp only [ur_ur]; rfl)), rfl⟩
      ·
        first | refine r_aload_n C dc_M_ended_49 rfl rfl ?_ | refine r_aload_nq C dc_M_ended_49 rfl rfl ?_
        refine r_iconst (v := nI 3) C dc_M_ended_50 (by decide) ?_
        refine r_callV C dp dc_M_ended_51 cw_M_124 cm_M_fail cv_M_fail rfl (mh_0) (k_M_fail hl) (Nat.lt_succ_self _) rfl rfl (Nat.le_of_ble_eq_true rfl) (fun v51 h51 n51 q51 z51 => ?_) (fun _ _ _ _ z => z.elim)
        obtain ⟨y51, y51h, y51n⟩ := z51
        rw [y51, y51h, y51n]
        refine r_goto (tgt := 67) C dc_M_ended_54 (by decide) ?_
        exact r_iret C dp hr dc_M_ended_67 (Nat.le_refl _) ⟨by unfold mEnded; rw [if_neg (of_decide_eq_false c11), if_neg (of_decide_eq_false c25), cl_nI (k := a) (by omega), cl_nI (k := j) (by omega), if_pos (show x 20 (4 * a + j) = -2 from c46)] <;> (first | rfl | (simp only [ur_ur]; done) | (simp only [ur_ur]; rfl)), by unfold mEnded; rw [if_neg (of_decide_eq_false c11), if_neg (of_decide_eq_false c25), cl_nI (k := a) (by omega), cl_nI (k := j) (by omega), if_pos (show x 20 (4 * a + j) = -2 from c46)] <;> (first | rfl | (simp only [ur_ur]; done) | (simp only [ur_ur]; rfl)), rfl⟩
    ·
      first | refine r_aload_n C dc_M_ended_28 rfl rfl ?_ | refine r_aload_nq C dc_M_ended_28 rfl rfl ?_
      refine r_iconst (v := nI 2) C dc_M_ended_29 (by decide) ?_
      refine r_callV C dp dc_M_ended_30 cw_M_124 cm_M_fail cv_M_fail rfl (mh_0) (k_M_fail hl) (Nat.lt_succ_self _) rfl rfl (Nat.le_of_ble_eq_true rfl) (fun v30 h30 n30 q30 z30 => ?_) (fun _ _ _ _ z => z.elim)
      obtain ⟨y30, y30h, y30n⟩ := z30
      rw [y30, y30h, y30n]
      exact r_iret C dp hr dc_M_ended_33 (Nat.le_refl _) ⟨by unfold mEnded; rw [if_neg (of_decide_eq_false c11), if_pos (of_decide_eq_true c25)] <;> (first | rfl | (simp only [ur_ur]; done) | (simp only [ur_ur]; rfl)), by unfold mEnded; rw [if_neg (of_decide_eq_false c11), if_pos (of_decide_eq_true c25)] <;> (first | rfl | (simp only [ur_ur]; done) | (simp only [ur_ur]; rfl)), rfl⟩
  ·
    first | refine r_aload_n C dc_M_ended_14 rfl rfl ?_ | refine r_aload_nq C dc_M_ended_14 rfl rfl ?_
    refine r_iconst (v := nI 1) C dc_M_ended_15 (by decide) ?_
    refine r_callV C dp dc_M_ended_16 cw_M_124 cm_M_fail cv_M_fail rfl (mh_0) (k_M_fail hl) (Nat.lt_succ_self _) rfl rfl (Nat.le_of_ble_eq_true rfl) (fun v16 h16 n16 q16 z16 => ?_) (fun _ _ _ _ z => z.elim)
    obtain ⟨y16, y16h, y16n⟩ := z16
    rw [y16, y16h, y16n]
    exact r_iret C dp hr dc_M_ended_19 (Nat.le_refl _) ⟨by unfold mEnded; rw [if_pos (of_decide_eq_true c11)] <;> (first | rfl | (simp only [ur_ur]; done) | (simp only [ur_ur]; rfl)), by unfold mEnded; rw [if_pos (of_decide_eq_true c11)] <;> (first | rfl | (simp only [ur_ur]; done) | (simp only [ur_ur]; rfl)), rfl⟩
def mValue (x : Nat → Nat → Int32) (a w : Int32) : Int32 × (Nat → Nat → Int32) := if ou a 12 then (nI 0, th x 1) else if ou w 4 then (nI 0, th x 2) else if x 20 (4 * cl a + cl w) = -2 then (nI 0, th x 3) else if x 20 (4 * cl a + cl w) = -1 then (nI 0, th x 3) else if x 20 (4 * cl a + cl w) = 0 then (x 26 (4 * cl a + cl w), ur (th x 0) 20 (upd (x 20) (4 * cl a + cl w) (-2))) else (nI 0, ur (ur (th x 0) 20 (upd (x 20) (4 * cl a + cl w) (-2))) 0 (fun _ => nI 4))
set_option maxRecDepth 4000 in
theorem k_M_value (hl : l.stackTraces = false) {v0 v1 : Int32} : Ct l D A G my_M_value cd_M_value 4 (some (.int)) (df + 1) 0 0 [.ref mm, .int v0, .int v1] (MH A mm x h) n (fun v h' n' => v = some (.int (mValue x v0 v1).1) ∧ h' = MH A mm ((mValue x v0 v1).2) h ∧ n' = n) (fun _ _ _ => False) := by
  refine Ct.of (by decide) hl (Nat.le_of_ble_eq_true rfl) ?_
  intro p e s m args below meth c C hr hnm ht dp
  first | refine r_aload_n C dc_M_value_0 rfl rfl ?_ | refine r_aload_nq C dc_M_value_0 rfl rfl ?_
  refine r_iconst (v := nI 0) C dc_M_value_1 (by decide) ?_
  refine r_put C dc_M_value_2 fl_M_117 mh_0 rfl rfl (Nat.le_of_ble_eq_true rfl) ?_
  rw [mp_0]
  refine r_iload_n C dc_M_value_5 rfl rfl ?_
  refine r_bipush (v := nI 12) C dc_M_value_6 (by decide) ?_
  refine r_callS C dp dc_M_value_8 cw_M_120 cs_M_out (k_M_out hl) (Nat.lt_succ_self _) rfl rfl (Nat.le_of_ble_eq_true rfl) (fun v8 h8 n8 q8 z8 => ?_) (fun _ _ _ _ z => z.elim)
  obtain ⟨y8, y8h, y8n⟩ := z8
  rw [y8, y8h, y8n]
  refine r_if_eqZ (tgt := 20) C dc_M_value_11 (by decide) (fun c11 => ?_) (fun c11 => ?_)
  ·
    refine r_iload_n C dc_M_value_20 rfl rfl ?_
    refine r_iconst (v := nI 4) C dc_M_value_21 (by decide) ?_
    refine r_callS C dp dc_M_value_22 cw_M_120 cs_M_out (k_M_out hl) (Nat.lt_succ_self _) rfl rfl (Nat.le_of_ble_eq_true rfl) (fun v22 h22 n22 q22 z22 => ?_) (fun _ _ _ _ z => z.elim)
    obtain ⟨y22, y22h, y22n⟩ := z22
    rw [y22, y22h, y22n]
    refine r_if_eqZ (tgt := 34) C dc_M_value_25 (by decide) (fun c25 => ?_) (fun c25 => ?_)
    ·
      obtain ⟨a, ha, rfl⟩ := nd_of (of_decide_eq_false c11)
      obtain ⟨j, hj, rfl⟩ := nd_of (of_decide_eq_false c25)
      first | refine r_aload_n C dc_M_value_34 rfl rfl ?_ | refine r_aload_nq C dc_M_value_34 rfl rfl ?_
      refine r_get C dc_M_value_35 fl_M_68 mh_0 rfl ?_
      refine r_iconst (v := nI 4) C dc_M_value_38 (by decide) ?_
      refine r_iload_n C dc_M_value_39 rfl rfl ?_
      first | refine r_imulN C dc_M_value_40 ?_ | refine r_imul C dc_M_value_40 ?_
      refine r_iload_n C dc_M_value_41 rfl rfl ?_
      first | refine r_iaddN C dc_M_value_42 ?_ | refine r_iadd C dc_M_value_42 ?_
      refine r_ialdN C dc_M_value_43 mh_20 (by omega) (by decide) ?_
      refine r_istore_n C dc_M_value_44 rfl (by decide) (nw_of rfl) ?_
      refine r_iload_n C dc_M_value_45 rfl rfl ?_
      refine r_bipush (v := -2) C dc_M_value_46 (by decide) ?_
      refine r_icmp_eq (tgt := 56) C dc_M_value_48 (by decide) (fun c48 => ?_) (fun c48 => ?_)
      ·
        first | refine r_aload_n C dc_M_value_56 rfl rfl ?_ | refine r_aload_nq C dc_M_value_56 rfl rfl ?_
        refine r_iconst (v := nI 3) C dc_M_value_57 (by decide) ?_
        refine r_callV C dp dc_M_value_58 cw_M_124 cm_M_fail cv_M_fail rfl (mh_0) (k_M_fail hl) (Nat.lt_succ_self _) rfl rfl (Nat.le_of_ble_eq_true rfl) (fun v58 h58 n58 q58 z58 => ?_) (fun _ _ _ _ z => z.elim)
        obtain ⟨y58, y58h, y58n⟩ := z58
        rw [y58, y58h, y58n]
        exact r_iret C dp hr dc_M_value_61 (Nat.le_refl _) ⟨by unfold mValue; rw [if_neg (of_decide_eq_false c11), if_neg (of_decide_eq_false c25), cl_nI (k := a) (by omega), cl_nI (k := j) (by omega), if_pos (show x 20 (4 * a + j) = -2 from c48)] <;> (first | rfl | (simp only [ur_ur]; done) | (simp only [ur_ur]; rfl)), by unfold mValue; rw [if_neg (of_decide_eq_false c11), if_neg (of_decide_eq_false c25), cl_nI (k := a) (by omega), cl_nI (k := j) (by omega), if_pos (show x 20 (4 * a + j) = -2 from c48)] <;> (first | rfl | (simp only [ur_ur]; done) | (simp only [ur_ur]; rfl)), rfl⟩
      ·
        refine r_iload_n C dc_M_value_51 rfl rfl ?_
        refine r_iconst (v := -1) C dc_M_value_52 (by decide) ?_
        refine r_icmp_ne (tgt := 62) C dc_M_value_53 (by decide) (fun c53 => ?_) (fun c53 => ?_)
        ·
          first | refine r_aload_n C dc_M_value_62 rfl rfl ?_ | refine r_aload_nq C dc_M_value_62 rfl rfl ?_
          refine r_get C dc_M_value_63 fl_M_68 mh_0 rfl ?_
          refine r_iconst (v := nI 4) C dc_M_value_66 (by decide) ?_
          refine r_iload_n C dc_M_value_67 rfl rfl ?_
          first | refine r_imulN C dc_M_value_68 ?_ | refine r_imul C dc_M_value_68 ?_
          refine r_iload_n C dc_M_value_69 rfl rfl ?_
          first | refine r_iaddN C dc_M_value_70 ?_ | refine r_iadd C dc_M_value_70 ?_
          refine r_bipush (v := -2) C dc_M_value_71 (by decide) ?_
          refine r_iast C dc_M_value_73 mh_20 rfl (by omega) (by decide) ?_
          rw [ms_20]
          refine r_iload_n C dc_M_value_74 rfl rfl ?_
          refine r_if_ne (tgt := 91) C dc_M_value_75 (by decide) (fun c75 => ?_) (fun c75 => ?_)
          ·
            first | refine r_aload_n C dc_M_value_91 rfl rfl ?_ | refine r_aload_nq C dc_M_value_91 rfl rfl ?_
            refine r_iconst (v := nI 4) C dc_M_value_92 (by decide) ?_
            refine r_callV C dp dc_M_value_93 cw_M_124 cm_M_fail cv_M_fail rfl (mh_0) (k_M_fail hl) (Nat.lt_succ_self _) rfl rfl (Nat.le_of_ble_eq_true rfl) (fun v93 h93 n93 q93 z93 => ?_) (fun _ _ _ _ z => z.elim)
            obtain ⟨y93, y93h, y93n⟩ := z93
            rw [y93, y93h, y93n]
            exact r_iret C dp hr dc_M_value_96 (Nat.le_refl _) ⟨by unfold mValue; rw [if_neg (of_decide_eq_false c11), if_neg (of_decide_eq_false c25), cl_nI (k := a) (by omega), cl_nI (k := j) (by omega), if_neg (show ¬ x 20 (4 * a + j) = -2 from c48), if_neg (show ¬ x 20 (4 * a + j) = -1 from c53), if_neg (show ¬ x 20 (4 * a + j) = 0 from c75)] <;> (first | rfl | (simp only [ur_ur]; done) | (simp only [ur_ur]; rfl)), by unfold mValue; rw [if_neg (of_decide_eq_false c11), if_neg (of_decide_eq_false c25), cl_nI (k := a) (by omega), cl_nI (k := j) (by omega), if_neg (show ¬ x 20 (4 * a + j) = -2 from c48), if_neg (show ¬ x 20 (4 * a + j) = -1 from c53), if_neg (show ¬ x 20 (4 * a + j) = 0 from c75)] <;> (first | rfl | (simp only [ur_ur]; done) | (simp only [ur_ur]; rfl)), rfl⟩
          ·
            first | refine r_aload_n C dc_M_value_78 rfl rfl ?_ | refine r_aload_nq C dc_M_value_78 rfl rfl ?_
            refine r_get C dc_M_value_79 fl_M_86 mh_0 rfl ?_
            refine r_iconst (v := nI 4) C dc_M_value_82 (by decide) ?_
            refine r_iload_n C dc_M_value_83 rfl rfl ?_
            first | refine r_imulN C dc_M_value_84 ?_ | refine r_imul C dc_M_value_84 ?_
            refine r_iload_n C dc_M_value_85 rfl rfl ?_
            first | refine r_iaddN C dc_M_value_86 ?_ | refine r_iadd C dc_M_value_86 ?_
            refine r_ialdN C dc_M_value_87 mh_26 (by omega) (by decide) ?_
            refine r_goto (tgt := 96) C dc_M_value_88 (by decide) ?_
            exact r_iret C dp hr dc_M_value_96 (Nat.le_refl _) ⟨by unfold mValue; rw [if_neg (of_decide_eq_false c11), if_neg (of_decide_eq_false c25), cl_nI (k := a) (by omega), cl_nI (k := j) (by omega), if_neg (show ¬ x 20 (4 * a + j) = -2 from c48), if_neg (show ¬ x 20 (4 * a + j) = -1 from c53), if_pos (show x 20 (4 * a + j) = 0 from c75)] <;> (first | rfl | (simp only [ur_ur]; done) | (simp only [ur_ur]; rfl)), by unfold mValue; rw [if_neg (of_decide_eq_false c11), if_neg (of_decide_eq_false c25), cl_nI (k := a) (by omega), cl_nI (k := j) (by omega), if_neg (show ¬ x 20 (4 * a + j) = -2 from c48), if_neg (show ¬ x 20 (4 * a + j) = -1 from c53), if_pos (show x 20 (4 * a + j) = 0 from c75)] <;> (first | rfl | (simp only [ur_ur]; done) | (simp only [ur_ur]; rfl)), rfl⟩
        ·
          first | refine r_aload_n C dc_M_value_56 rfl rfl ?_ | refine r_aload_nq C dc_M_value_56 rfl rfl ?_
          refine r_iconst (v := nI 3) C dc_M_value_57 (by decide) ?_
          refine r_callV C dp dc_M_value_58 cw_M_124 cm_M_fail cv_M_fail rfl (mh_0) (k_M_fail hl) (Nat.lt_succ_self _) rfl rfl (Nat.le_of_ble_eq_true rfl) (fun v58 h58 n58 q58 z58 => ?_) (fun _ _ _ _ z => z.elim)
          obtain ⟨y58, y58h, y58n⟩ := z58
          rw [y58, y58h, y58n]
          exact r_iret C dp hr dc_M_value_61 (Nat.le_refl _) ⟨by unfold mValue; rw [if_neg (of_decide_eq_false c11), if_neg (of_decide_eq_false c25), cl_nI (k := a) (by omega), cl_nI (k := j) (by omega), if_neg (show ¬ x 20 (4 * a + j) = -2 from c48), if_pos (show x 20 (4 * a + j) = -1 from c53)] <;> (first | rfl | (simp only [ur_ur]; done) | (simp only [ur_ur]; rfl)), by unfold mValue; rw [if_neg (of_decide_eq_false c11), if_neg (of_decide_eq_false c25), cl_nI (k := a) (by omega), cl_nI (k := j) (by omega), if_neg (show ¬ x 20 (4 * a + j) = -2 from c48), if_pos (show x 20 (4 * a + j) = -1 from c53)] <;> (first | rfl | (simp only [ur_ur]; done) | (simp only [ur_ur]; rfl)), rfl⟩
    ·
      first | refine r_aload_n C dc_M_value_28 rfl rfl ?_ | refine r_aload_nq C dc_M_value_28 rfl rfl ?_
      refine r_iconst (v := nI 2) C dc_M_value_29 (by decide) ?_
      refine r_callV C dp dc_M_value_30 cw_M_124 cm_M_fail cv_M_fail rfl (mh_0) (k_M_fail hl) (Nat.lt_succ_self _) rfl rfl (Nat.le_of_ble_eq_true rfl) (fun v30 h30 n30 q30 z30 => ?_) (fun _ _ _ _ z => z.elim)
      obtain ⟨y30, y30h, y30n⟩ := z30
      rw [y30, y30h, y30n]
      exact r_iret C dp hr dc_M_value_33 (Nat.le_refl _) ⟨by unfold mValue; rw [if_neg (of_decide_eq_false c11), if_pos (of_decide_eq_true c25)] <;> (first | rfl | (simp only [ur_ur]; done) | (simp only [ur_ur]; rfl)), by unfold mValue; rw [if_neg (of_decide_eq_false c11), if_pos (of_decide_eq_true c25)] <;> (first | rfl | (simp only [ur_ur]; done) | (simp only [ur_ur]; rfl)), rfl⟩
  ·
    first | refine r_aload_n C dc_M_value_14 rfl rfl ?_ | refine r_aload_nq C dc_M_value_14 rfl rfl ?_
    refine r_iconst (v := nI 1) C dc_M_value_15 (by decide) ?_
    refine r_callV C dp dc_M_value_16 cw_M_124 cm_M_fail cv_M_fail rfl (mh_0) (k_M_fail hl) (Nat.lt_succ_self _) rfl rfl (Nat.le_of_ble_eq_true rfl) (fun v16 h16 n16 q16 z16 => ?_) (fun _ _ _ _ z => z.elim)
    obtain ⟨y16, y16h, y16n⟩ := z16
    rw [y16, y16h, y16n]
    exact r_iret C dp hr dc_M_value_19 (Nat.le_refl _) ⟨by unfold mValue; rw [if_pos (of_decide_eq_true c11)] <;> (first | rfl | (simp only [ur_ur]; done) | (simp only [ur_ur]; rfl)), by unfold mValue; rw [if_pos (of_decide_eq_true c11)] <;> (first | rfl | (simp only [ur_ur]; done) | (simp only [ur_ur]; rfl)), rfl⟩
def mReset (x : Nat → Nat → Int32) (a bits : Int32) (hd ct : Bool) : Nat → Nat → Int32 := if ou a 12 then th x 1 else ur (ur (ur (ur (ur (th x 0) 3 (upd (x 3) (cl a) (bits &&& 65535))) 4 (upd (x 4) (cl a) (nI 0))) 8 (upd (x 8) (cl a) (zi hd))) 9 (upd (x 9) (cl a) (zi ct))) 11 (upd (x 11) (cl a) (nI 1))
theorem lc_M : Cond.constant rn_M 132 65535 ∈ tbl := by decide +kernel
set_option maxRecDepth 4000 in
theorem k_M_reset (hl : l.stackTraces = false) {v0 v1 : Int32} {hd ct : Bool} : Ct l D A G my_M_reset cd_M_reset 5 none (df + 1) 0 0 [.ref mm, .int v0, .int v1, .int (zi hd), .int (zi ct)] (MH A mm x h) n (fun v h' n' => v = none ∧ h' = MH A mm (mReset x v0 v1 hd ct) h ∧ n' = n) (fun _ _ _ => False) := by
  refine Ct.of (by decide) hl (Nat.le_of_ble_eq_true rfl) ?_
  intro p e s m args below meth c C hr hnm ht dp
  first | refine r_aload_n C dc_M_reset_0 rfl rfl ?_ | refine r_aload_nq C dc_M_reset_0 rfl rfl ?_
  refine r_iconst (v := nI 0) C dc_M_reset_1 (by decide) ?_
  refine r_put C dc_M_reset_2 fl_M_117 mh_0 rfl rfl (Nat.le_of_ble_eq_true rfl) ?_
  rw [mp_0]
  refine r_iload_n C dc_M_reset_5 rfl rfl ?_
  refine r_bipush (v := nI 12) C dc_M_reset_6 (by decide) ?_
  refine r_callS C dp dc_M_reset_8 cw_M_120 cs_M_out (k_M_out hl) (Nat.lt_succ_self _) rfl rfl (Nat.le_of_ble_eq_true rfl) (fun v8 h8 n8 q8 z8 => ?_) (fun _ _ _ _ z => z.elim)
  obtain ⟨y8, y8h, y8n⟩ := z8
  rw [y8, y8h, y8n]
  refine r_if_eqZ (tgt := 20) C dc_M_reset_11 (by decide) (fun c11 => ?_) (fun c11 => ?_)
  ·
    obtain ⟨a, ha, rfl⟩ := nd_of (of_decide_eq_false c11)
    first | refine r_aload_n C dc_M_reset_20 rfl rfl ?_ | refine r_aload_nq C dc_M_reset_20 rfl rfl ?_
    refine r_get C dc_M_reset_21 fl_M_17 mh_0 rfl ?_
    refine r_iload_n C dc_M_reset_24 rfl rfl ?_
    refine r_iload_n C dc_M_reset_25 rfl rfl ?_
    refine r_ldc (v := 65535) C dc_M_reset_26 lc_M ?_
    refine r_iand C dc_M_reset_28 ?_
    refine r_iast C dc_M_reset_29 mh_3 rfl (by omega) (by decide) ?_
    rw [ms_3]
    first | refine r_aload_n C dc_M_reset_30 rfl rfl ?_ | refine r_aload_nq C dc_M_reset_30 rfl rfl ?_
    refine r_get C dc_M_reset_31 fl_M_20 mh_0 rfl ?_
    refine r_iload_n C dc_M_reset_34 rfl rfl ?_
    refine r_iconst (v := nI 0) C dc_M_reset_35 (by decide) ?_
    refine r_iast C dc_M_reset_36 mh_4 rfl (by omega) (by decide) ?_
    rw [ms_4]
    first | refine r_aload_n C dc_M_reset_37 rfl rfl ?_ | refine r_aload_nq C dc_M_reset_37 rfl rfl ?_
    refine r_get C dc_M_reset_38 fl_M_32 mh_0 rfl ?_
    refine r_iload_n C dc_M_reset_41 rfl rfl ?_
    refine r_iload_n C dc_M_reset_42 rfl rfl ?_
    refine r_zast C dc_M_reset_43 mh_8 rfl (by omega) (by decide) (by first | exact zi_01 _ | exact zv_0 | exact zv_1 | assumption | decide) ?_
    rw [ms_8]
    first | refine r_aload_n C dc_M_reset_44 rfl rfl ?_ | refine r_aload_nq C dc_M_reset_44 rfl rfl ?_
    refine r_get C dc_M_reset_45 fl_M_35 mh_0 rfl ?_
    refine r_iload_n C dc_M_reset_48 rfl rfl ?_
    refine r_iload C dc_M_reset_49 rfl ?_
    refine r_zast C dc_M_reset_51 mh_9 rfl (by omega) (by decide) (by first | exact zi_01 _ | exact zv_0 | exact zv_1 | assumption | decide) ?_
    rw [ms_9]
    first | refine r_aload_n C dc_M_reset_52 rfl rfl ?_ | refine r_aload_nq C dc_M_reset_52 rfl rfl ?_
    refine r_get C dc_M_reset_53 fl_M_41 mh_0 rfl ?_
    refine r_iload_n C dc_M_reset_56 rfl rfl ?_
    refine r_iconst (v := nI 1) C dc_M_reset_57 (by decide) ?_
    refine r_zast C dc_M_reset_58 mh_11 rfl (by omega) (by decide) (by first | exact zi_01 _ | exact zv_0 | exact zv_1 | assumption | decide) ?_
    rw [ms_11]
    exact r_vret C dp hr dc_M_reset_59 (Nat.le_refl _) ⟨by rfl, by unfold mReset; rw [if_neg (of_decide_eq_false c11), cl_nI (k := a) (by omega)] <;> (first | rfl | (simp only [ur_ur]; done) | (simp only [ur_ur]; rfl)), rfl⟩
  ·
    first | refine r_aload_n C dc_M_reset_14 rfl rfl ?_ | refine r_aload_nq C dc_M_reset_14 rfl rfl ?_
    refine r_iconst (v := nI 1) C dc_M_reset_15 (by decide) ?_
    refine r_put C dc_M_reset_16 fl_M_117 mh_0 rfl rfl (Nat.le_of_ble_eq_true rfl) ?_
    rw [mp_0]
    exact r_vret C dp hr dc_M_reset_19 (Nat.le_refl _) ⟨by rfl, by unfold mReset; rw [if_pos (of_decide_eq_true c11)] <;> (first | rfl | (simp only [ur_ur]; done) | (simp only [ur_ur]; rfl)), rfl⟩
def mPut (x : Nat → Nat → Int32) (a k : Nat) (lb sr tm : Int32) (an : Bool) (va : Int32) : Nat → Nat → Int32 := ur (ur (ur (ur (ur (ur x 30 (upd (x 30) (6 * a + k) lb)) 31 (upd (x 31) (6 * a + k) sr)) 32 (upd (x 32) (6 * a + k) tm)) 34 (upd (x 34) (6 * a + k) (zi an))) 33 (upd (x 33) (6 * a + k) va)) 35 (upd (x 35) a (nI (k + 1)))
set_option maxRecDepth 4000 in
theorem k_M_put (hl : l.stackTraces = false) {a k : Nat} {lb sr tm va : Int32} {an : Bool} (ha : a < 12) (hk : x 35 a = nI k) (hk6 : k < 6) : Ct l D A G my_M_put cd_M_put 8 none df 0 0 [.ref mm, .int (nI a), .int lb, .int sr, .int tm, .int (zi an), .int va] (MH A mm x h) n (fun v h' n' => v = none ∧ h' = MH A mm (mPut x a k lb sr tm an va) h ∧ n' = n) (fun _ _ _ => False) := by
  refine Ct.of (by decide) hl (Nat.le_of_ble_eq_true rfl) ?_
  intro p e s m args below meth c C hr hnm ht dp
  refine r_bipush (v := nI 6) C dc_M_put_0 (by decide) ?_
  refine r_iload_n C dc_M_put_2 rfl rfl ?_
  first | refine r_imulN C dc_M_put_3 ?_ | refine r_imul C dc_M_put_3 ?_
  first | refine r_aload_n C dc_M_put_4 rfl rfl ?_ | refine r_aload_nq C dc_M_put_4 rfl rfl ?_
  refine r_get C dc_M_put_5 fl_M_110 mh_0 rfl ?_
  refine r_iload_n C dc_M_put_8 rfl rfl ?_
  refine r_ialdN C dc_M_put_9 mh_35 (by omega) (by decide) ?_
  refine sb_at (P := fun v => Rw _ _ _ _ _ _ _ _ _ _ _ _ _ _ _ _ _ _ _ _ (.int v :: _)) hk ?_
  first | refine r_iaddN C dc_M_put_10 ?_ | refine r_iadd C dc_M_put_10 ?_
  refine r_istore C dc_M_put_11 (by decide) (nw_of rfl) ?_
  first | refine r_aload_n C dc_M_put_13 rfl rfl ?_ | refine r_aload_nq C dc_M_put_13 rfl rfl ?_
  refine r_get C dc_M_put_14 fl_M_95 mh_0 rfl ?_
  refine r_iload C dc_M_put_17 rfl ?_
  refine r_iload_n C dc_M_put_19 rfl rfl ?_
  refine r_iast C dc_M_put_20 mh_30 rfl (by omega) (by decide) ?_
  rw [ms_30]
  first | refine r_aload_n C dc_M_put_21 rfl rfl ?_ | refine r_aload_nq C dc_M_put_21 rfl rfl ?_
  refine r_get C dc_M_put_22 fl_M_98 mh_0 rfl ?_
  refine r_iload C dc_M_put_25 rfl ?_
  refine r_iload_n C dc_M_put_27 rfl rfl ?_
  refine r_iast C dc_M_put_28 mh_31 rfl (by omega) (by decide) ?_
  rw [ms_31]
  first | refine r_aload_n C dc_M_put_29 rfl rfl ?_ | refine r_aload_nq C dc_M_put_29 rfl rfl ?_
  refine r_get C dc_M_put_30 fl_M_101 mh_0 rfl ?_
  refine r_iload C dc_M_put_33 rfl ?_
  refine r_iload C dc_M_put_35 rfl ?_
  refine r_iast C dc_M_put_37 mh_32 rfl (by omega) (by decide) ?_
  rw [ms_32]
  first | refine r_aload_n C dc_M_put_38 rfl rfl ?_ | refine r_aload_nq C dc_M_put_38 rfl rfl ?_
  refine r_get C dc_M_put_39 fl_M_107 mh_0 rfl ?_
  refine r_iload C dc_M_put_42 rfl ?_
  refine r_iload C dc_M_put_44 rfl ?_
  refine r_zast C dc_M_put_46 mh_34 rfl (by omega) (by decide) (by first | exact zi_01 _ | exact zv_0 | exact zv_1 | assumption | decide) ?_
  rw [ms_34]
  first | refine r_aload_n C dc_M_put_47 rfl rfl ?_ | refine r_aload_nq C dc_M_put_47 rfl rfl ?_
  refine r_get C dc_M_put_48 fl_M_104 mh_0 rfl ?_
  refine r_iload C dc_M_put_51 rfl ?_
  refine r_iload C dc_M_put_53 rfl ?_
  refine r_iast C dc_M_put_55 mh_33 rfl (by omega) (by decide) ?_
  rw [ms_33]
  first | refine r_aload_n C dc_M_put_56 rfl rfl ?_ | refine r_aload_nq C dc_M_put_56 rfl rfl ?_
  refine r_get C dc_M_put_57 fl_M_110 mh_0 rfl ?_
  refine r_iload_n C dc_M_put_60 rfl rfl ?_
  refine r_dup2 C dc_M_put_61 rfl rfl ?_
  refine r_ialdN C dc_M_put_62 mh_35 (by omega) (by decide) ?_
  refine sb_at (P := fun v => Rw _ _ _ _ _ _ _ _ _ _ _ _ _ _ _ _ _ _ _ _ (.int v :: _)) hk ?_
  refine r_iconst (v := nI 1) C dc_M_put_63 (by decide) ?_
  first | refine r_iaddN C dc_M_put_64 ?_ | refine r_iadd C dc_M_put_64 ?_
  refine r_iast C dc_M_put_65 mh_35 rfl (by omega) (by decide) ?_
  rw [ms_35]
  exact r_vret C dp hr dc_M_put_66 (Nat.le_refl _) ⟨rfl, rfl, rfl⟩
def mDone (x : Nat → Nat → Int32) (j t wd : Nat) : Int32 × (Nat → Nat → Int32) := (if x 22 j = nI 1 then nI 0 else x 13 (8 * t + wd), if x 22 j = nI 1 ∨ (x 22 j = nI 2 ∧ x 13 (8 * t + wd) = x 24 j) then ur x 13 (upd (x 13) (8 * t + wd) (x 25 j)) else x)
set_option maxRecDepth 4000 in
theorem k_M_done (hl : l.stackTraces = false) {j t wd : Nat} (hj : j < 48) (ht0 : x 21 j = nI t) (ht1 : t < 12) (hw0 : x 23 j = nI wd) (hw1 : wd < 8) : Ct l D A G my_M_done cd_M_done 4 (some (.int)) df 0 0 [.ref mm, .int (nI j)] (MH A mm x h) n (fun v h' n' => v = some (.int (mDone x j t wd).1) ∧ h' = MH A mm ((mDone x j t wd).2) h ∧ n' = n) (fun _ _ _ => False) := by
  refine Ct.of (by decide) hl (Nat.le_of_ble_eq_true rfl) ?_
  intro p e s m args below meth c C hr hnm ht dp
  refine r_bipush (v := nI 8) C dc_M_done_0 (by decide) ?_
  first | refine r_aload_n C dc_M_done_2 rfl rfl ?_ | refine r_aload_nq C dc_M_done_2 rfl rfl ?_
  refine r_get C dc_M_done_3 fl_M_71 mh_0 rfl ?_
  refine r_iload_n C dc_M_done_6 rfl rfl ?_
  refine r_ialdN C dc_M_done_7 mh_21 (by omega) (by decide) ?_
  refine sb_at (P := fun v => Rw _ _ _ _ _ _ _ _ _ _ _ _ _ _ _ _ _ _ _ _ (.int v :: _)) ht0 ?_
  first | refine r_imulN C dc_M_done_8 ?_ | refine r_imul C dc_M_done_8 ?_
  first | refine r_aload_n C dc_M_done_9 rfl rfl ?_ | refine r_aload_nq C dc_M_done_9 rfl rfl ?_
  refine r_get C dc_M_done_10 fl_M_77 mh_0 rfl ?_
  refine r_iload_n C dc_M_done_13 rfl rfl ?_
  refine r_ialdN C dc_M_done_14 mh_23 (by omega) (by decide) ?_
  refine sb_at (P := fun v => Rw _ _ _ _ _ _ _ _ _ _ _ _ _ _ _ _ _ _ _ _ (.int v :: _)) hw0 ?_
  first | refine r_iaddN C dc_M_done_15 ?_ | refine r_iadd C dc_M_done_15 ?_
  refine r_istore_n C dc_M_done_16 rfl (by decide) (nw_of rfl) ?_
  first | refine r_aload_n C dc_M_done_17 rfl rfl ?_ | refine r_aload_nq C dc_M_done_17 rfl rfl ?_
  refine r_get C dc_M_done_18 fl_M_47 mh_0 rfl ?_
  refine r_iload_n C dc_M_done_21 rfl rfl ?_
  refine r_ialdN C dc_M_done_22 mh_13 (by omega) (by decide) ?_
  refine r_istore_n C dc_M_done_23 rfl (by decide) (nw_of rfl) ?_
  first | refine r_aload_n C dc_M_done_24 rfl rfl ?_ | refine r_aload_nq C dc_M_done_24 rfl rfl ?_
  refine r_get C dc_M_done_25 fl_M_74 mh_0 rfl ?_
  refine r_iload_n C dc_M_done_28 rfl rfl ?_
  refine r_ialdN C dc_M_done_29 mh_22 (by omega) (by decide) ?_
  refine r_iconst (v := nI 1) C dc_M_done_30 (by decide) ?_
  refine r_icmp_eq (tgt := 54) C dc_M_done_31 (by decide) (fun c31 => ?_) (fun c31 => ?_)
  ·
    first | refine r_aload_n C dc_M_done_54 rfl rfl ?_ | refine r_aload_nq C dc_M_done_54 rfl rfl ?_
    refine r_get C dc_M_done_55 fl_M_47 mh_0 rfl ?_
    refine r_iload_n C dc_M_done_58 rfl rfl ?_
    first | refine r_aload_n C dc_M_done_59 rfl rfl ?_ | refine r_aload_nq C dc_M_done_59 rfl rfl ?_
    refine r_get C dc_M_done_60 fl_M_83 mh_0 rfl ?_
    refine r_iload_n C dc_M_done_63 rfl rfl ?_
    refine r_ialdN C dc_M_done_64 mh_25 (by omega) (by decide) ?_
    refine r_iast C dc_M_done_65 mh_13 rfl (by omega) (by decide) ?_
    rw [ms_13]
    first | refine r_aload_n C dc_M_done_66 rfl rfl ?_ | refine r_aload_nq C dc_M_done_66 rfl rfl ?_
    refine r_get C dc_M_done_67 fl_M_74 mh_0 rfl ?_
    refine r_iload_n C dc_M_done_70 rfl rfl ?_
    refine r_ialdN C dc_M_done_71 mh_22 (by omega) (by decide) ?_
    refine r_iconst (v := nI 1) C dc_M_done_72 (by decide) ?_
    refine r_icmp_ne (tgt := 80) C dc_M_done_73 (by decide) (fun c73 => ?_) (fun c73 => ?_)
    ·
      refine r_iload_n C dc_M_done_80 rfl rfl ?_
      exact r_iret C dp hr dc_M_done_81 (Nat.le_refl _) ⟨by unfold mDone; rw [if_neg (show ¬ x 22 j = nI 1 from c73)], by unfold mDone; rw [if_pos (show (x 22 j = nI 1 ∨ (x 22 j = nI 2 ∧ x 13 (8 * t + wd) = x 24 j)) from Or.inl c31)], rfl⟩
    ·
      refine r_iconst (v := nI 0) C dc_M_done_76 (by decide) ?_
      refine r_goto (tgt := 81) C dc_M_done_77 (by decide) ?_
      exact r_iret C dp hr dc_M_done_81 (Nat.le_refl _) ⟨by unfold mDone; rw [if_pos (show x 22 j = nI 1 from c73)], by unfold mDone; rw [if_pos (show (x 22 j = nI 1 ∨ (x 22 j = nI 2 ∧ x 13 (8 * t + wd) = x 24 j)) from Or.inl c31)], rfl⟩
  ·
    first | refine r_aload_n C dc_M_done_34 rfl rfl ?_ | refine r_aload_nq C dc_M_done_34 rfl rfl ?_
    refine r_get C dc_M_done_35 fl_M_74 mh_0 rfl ?_
    refine r_iload_n C dc_M_done_38 rfl rfl ?_
    refine r_ialdN C dc_M_done_39 mh_22 (by omega) (by decide) ?_
    refine r_iconst (v := nI 2) C dc_M_done_40 (by decide) ?_
    refine r_icmp_ne (tgt := 66) C dc_M_done_41 (by decide) (fun c41 => ?_) (fun c41 => ?_)
    ·
      first | refine r_aload_n C dc_M_done_66 rfl rfl ?_ | refine r_aload_nq C dc_M_done_66 rfl rfl ?_
      refine r_get C dc_M_done_67 fl_M_74 mh_0 rfl ?_
      refine r_iload_n C dc_M_done_70 rfl rfl ?_
      refine r_ialdN C dc_M_done_71 mh_22 (by omega) (by decide) ?_
      refine r_iconst (v := nI 1) C dc_M_done_72 (by decide) ?_
      refine r_icmp_ne (tgt := 80) C dc_M_done_73 (by decide) (fun c73 => ?_) (fun c73 => ?_)
      ·
        refine r_iload_n C dc_M_done_80 rfl rfl ?_
        exact r_iret C dp hr dc_M_done_81 (Nat.le_refl _) ⟨by unfold mDone; rw [if_neg (show ¬ x 22 j = nI 1 from c73)], by unfold mDone; rw [if_neg (show ¬ (x 22 j = nI 1 ∨ (x 22 j = nI 2 ∧ x 13 (8 * t + wd) = x 24 j)) from fun z => z.elim c31 (fun z => c41 z.1))], rfl⟩
      ·
        refine r_iconst (v := nI 0) C dc_M_done_76 (by decide) ?_
        refine r_goto (tgt := 81) C dc_M_done_77 (by decide) ?_
        exact r_iret C dp hr dc_M_done_81 (Nat.le_refl _) ⟨by unfold mDone; rw [if_pos (show x 22 j = nI 1 from c73)], by unfold mDone; rw [if_neg (show ¬ (x 22 j = nI 1 ∨ (x 22 j = nI 2 ∧ x 13 (8 * t + wd) = x 24 j)) from fun z => z.elim c31 (fun z => c41 z.1))], rfl⟩
    ·
      refine r_iload_n C dc_M_done_44 rfl rfl ?_
      first | refine r_aload_n C dc_M_done_45 rfl rfl ?_ | refine r_aload_nq C dc_M_done_45 rfl rfl ?_
      refine r_get C dc_M_done_46 fl_M_80 mh_0 rfl ?_
      refine r_iload_n C dc_M_done_49 rfl rfl ?_
      refine r_ialdN C dc_M_done_50 mh_24 (by omega) (by decide) ?_
      refine r_icmp_ne (tgt := 66) C dc_M_done_51 (by decide) (fun c51 => ?_) (fun c51 => ?_)
      ·
        first | refine r_aload_n C dc_M_done_66 rfl rfl ?_ | refine r_aload_nq C dc_M_done_66 rfl rfl ?_
        refine r_get C dc_M_done_67 fl_M_74 mh_0 rfl ?_
        refine r_iload_n C dc_M_done_70 rfl rfl ?_
        refine r_ialdN C dc_M_done_71 mh_22 (by omega) (by decide) ?_
        refine r_iconst (v := nI 1) C dc_M_done_72 (by decide) ?_
        refine r_icmp_ne (tgt := 80) C dc_M_done_73 (by decide) (fun c73 => ?_) (fun c73 => ?_)
        ·
          refine r_iload_n C dc_M_done_80 rfl rfl ?_
          exact r_iret C dp hr dc_M_done_81 (Nat.le_refl _) ⟨by unfold mDone; rw [if_neg (show ¬ x 22 j = nI 1 from c73)], by unfold mDone; rw [if_neg (show ¬ (x 22 j = nI 1 ∨ (x 22 j = nI 2 ∧ x 13 (8 * t + wd) = x 24 j)) from fun z => z.elim c31 (fun z => c51 z.2))], rfl⟩
        ·
          refine r_iconst (v := nI 0) C dc_M_done_76 (by decide) ?_
          refine r_goto (tgt := 81) C dc_M_done_77 (by decide) ?_
          exact r_iret C dp hr dc_M_done_81 (Nat.le_refl _) ⟨by unfold mDone; rw [if_pos (show x 22 j = nI 1 from c73)], by unfold mDone; rw [if_neg (show ¬ (x 22 j = nI 1 ∨ (x 22 j = nI 2 ∧ x 13 (8 * t + wd) = x 24 j)) from fun z => z.elim c31 (fun z => c51 z.2))], rfl⟩
      ·
        first | refine r_aload_n C dc_M_done_54 rfl rfl ?_ | refine r_aload_nq C dc_M_done_54 rfl rfl ?_
        refine r_get C dc_M_done_55 fl_M_47 mh_0 rfl ?_
        refine r_iload_n C dc_M_done_58 rfl rfl ?_
        first | refine r_aload_n C dc_M_done_59 rfl rfl ?_ | refine r_aload_nq C dc_M_done_59 rfl rfl ?_
        refine r_get C dc_M_done_60 fl_M_83 mh_0 rfl ?_
        refine r_iload_n C dc_M_done_63 rfl rfl ?_
        refine r_ialdN C dc_M_done_64 mh_25 (by omega) (by decide) ?_
        refine r_iast C dc_M_done_65 mh_13 rfl (by omega) (by decide) ?_
        rw [ms_13]
        first | refine r_aload_n C dc_M_done_66 rfl rfl ?_ | refine r_aload_nq C dc_M_done_66 rfl rfl ?_
        refine r_get C dc_M_done_67 fl_M_74 mh_0 rfl ?_
        refine r_iload_n C dc_M_done_70 rfl rfl ?_
        refine r_ialdN C dc_M_done_71 mh_22 (by omega) (by decide) ?_
        refine r_iconst (v := nI 1) C dc_M_done_72 (by decide) ?_
        refine r_icmp_ne (tgt := 80) C dc_M_done_73 (by decide) (fun c73 => ?_) (fun c73 => ?_)
        ·
          refine r_iload_n C dc_M_done_80 rfl rfl ?_
          exact r_iret C dp hr dc_M_done_81 (Nat.le_refl _) ⟨by unfold mDone; rw [if_neg (show ¬ x 22 j = nI 1 from c73)], by unfold mDone; rw [if_pos (show (x 22 j = nI 1 ∨ (x 22 j = nI 2 ∧ x 13 (8 * t + wd) = x 24 j)) from Or.inr ⟨c41, c51⟩)], rfl⟩
        ·
          refine r_iconst (v := nI 0) C dc_M_done_76 (by decide) ?_
          refine r_goto (tgt := 81) C dc_M_done_77 (by decide) ?_
          exact r_iret C dp hr dc_M_done_81 (Nat.le_refl _) ⟨by unfold mDone; rw [if_pos (show x 22 j = nI 1 from c73)], by unfold mDone; rw [if_pos (show (x 22 j = nI 1 ∨ (x 22 j = nI 2 ∧ x 13 (8 * t + wd) = x 24 j)) from Or.inr ⟨c41, c51⟩)], rfl⟩
end Model3
end
section
theorem cnt_1 {P : Nat → Bool} {k : Nat} (q : P k = true) : cntT P (k + 1) = cntT P k + 1 := by
  show cntT P k + (bif P k then 1 else 0) = _
  rw [q]; rfl
theorem cnt_0 {P : Nat → Bool} {k : Nat} (q : P k = false) : cntT P (k + 1) = cntT P k := by
  show cntT P k + (bif P k then 1 else 0) = _
  rw [q]; rfl
/-- the first of d places from i on that has it -/
def fstF (P : Nat → Bool) : Nat → Nat → Option Nat
  | 0, _ => none
  | d + 1, i => bif P i then some i else fstF P d (i + 1)
theorem fst_1 {P : Nat → Bool} {N k : Nat} (hk : k < N) (q : P k = true) : fstF P (N - k) k = some k := by
  rw [show N - k = (N - k - 1) + 1 by omega]
  show (bif P k then some k else _) = _
  rw [q]; rfl
theorem fst_0 {P : Nat → Bool} {N k : Nat} (hk : k < N) (q : P k = false) : fstF P (N - k) k = fstF P (N - (k + 1)) (k + 1) := by
  rw [show N - k = (N - (k + 1)) + 1 by omega]
  show (bif P k then some k else fstF P (N - (k + 1)) (k + 1)) = _
  rw [q]; rfl
theorem fst_n {P : Nat → Bool} {N : Nat} : fstF P (N - N) N = none := by
  rw [Nat.sub_self]; rfl
section Model4
variable {l : Launch} {D : va_G} {A : Nat → ClassId} {G : Heap} {h : Hp} {n mm df : Nat} {x : Nat → Nat → Int32}
def cOf (ot : Nat → Option Nat) (x : Nat → Nat → Int32) (a k : Nat) : Bool := match ot (3 * a + k) with
  | none => false
  | some t => decide (x 14 (t / 3) = nI a)
set_option maxRecDepth 4000 in
theorem k_M_openAt (hl : l.stackTraces = false) {a : Nat} (ha : a < 12) : Ct l D A G my_M_openAt cd_M_openAt 4 (some (.int)) df 0 0 [.ref mm, .int (nI a)] (MH A mm x h) n (fun v h' n' => v = some (.int (nI (cntT (fun k => decide (¬ x 2 (3 * a + k) = 0)) 3))) ∧ h' = MH A mm x h ∧ n' = n) (fun _ _ _ => False) := by
  refine Ct.of (by decide) hl (Nat.le_of_ble_eq_true rfl) ?_
  intro p e s m args below meth c C hr hnm ht dp
  have loop : ∀ k, k ≤ 3 → Rw p l e (cR df 0 0) s m args below meth c (CQ D G n (fun v h' n' => v = some (.int (nI (cntT (fun k => decide (¬ x 2 (3 * a + k) = 0)) 3))) ∧ h' = MH A mm x h ∧ n' = n) (fun _ _ _ => False) below args s 0 0) D G 4 0 0 (MH A mm x h) n [(0, .ref mm), (1, .int (nI a)), (2, .int (nI (cntT (fun k => decide (¬ x 2 (3 * a + k) = 0)) k))), (3, .int (nI k))] 4 [] := by
    refine r_loop 3 _ ?_ ?_
    ·
      refine r_iload_n C dc_M_openAt_4 rfl rfl ?_
      refine r_iconst (v := nI 3) C dc_M_openAt_5 (by decide) ?_
      refine r_icmp_geN (tgt := 31) C dc_M_openAt_6 (by decide) (by omega) (by omega) (fun c6 => ?_) (fun c6 => ?_)
      ·
        refine r_iload_n C dc_M_openAt_31 rfl rfl ?_
        exact r_iret C dp hr dc_M_openAt_32 (Nat.le_refl _) ⟨rfl, rfl, rfl⟩
      · exact absurd c6 (by omega)
    ·
      intro k hk ih
      refine r_iload_n C dc_M_openAt_4 rfl rfl ?_
      refine r_iconst (v := nI 3) C dc_M_openAt_5 (by decide) ?_
      refine r_icmp_geN (tgt := 31) C dc_M_openAt_6 (by decide) (by omega) (by omega) (fun c6 => ?_) (fun c6 => ?_)
      · exact absurd c6 (by omega)
      ·
        first | refine r_aload_n C dc_M_openAt_9 rfl rfl ?_ | refine r_aload_nq C dc_M_openAt_9 rfl rfl ?_
        refine r_get C dc_M_openAt_10 fl_M_13 mh_0 rfl ?_
        refine r_iconst (v := nI 3) C dc_M_openAt_13 (by decide) ?_
        refine r_iload_n C dc_M_openAt_14 rfl rfl ?_
        first | refine r_imulN C dc_M_openAt_15 ?_ | refine r_imul C dc_M_openAt_15 ?_
        refine r_iload_n C dc_M_openAt_16 rfl rfl ?_
        first | refine r_iaddN C dc_M_openAt_17 ?_ | refine r_iadd C dc_M_openAt_17 ?_
        refine r_zaldN C dc_M_openAt_18 mh_2 (by omega) (by decide) ?_
        refine r_if_eq (tgt := 25) C dc_M_openAt_19 (by decide) (fun c19 => ?_) (fun c19 => ?_)
        ·
          have e9 := cnt_0 (P := (fun k => decide (¬ x 2 (3 * a + k) = 0))) (k := k) (decide_eq_false (fun z => z c19))
          first | refine r_iincN C dc_M_openAt_25 rfl (by decide) (nw_of rfl) ?_ | refine r_iinc C dc_M_openAt_25 rfl rfl (by decide) (nw_of rfl) ?_
          refine r_goto (tgt := 4) C dc_M_openAt_28 (by decide) ?_
          refine r_weak ?_ (ih)
          exact wl_c (rfl) (wl_c (rfl) (wl_c (by rw [e9]; rfl) (wl_c (rfl) (wl_n))))
        ·
          have e9 := cnt_1 (P := (fun k => decide (¬ x 2 (3 * a + k) = 0))) (k := k) (decide_eq_true c19)
          first | refine r_iincN C dc_M_openAt_22 rfl (by decide) (nw_of rfl) ?_ | refine r_iinc C dc_M_openAt_22 rfl rfl (by decide) (nw_of rfl) ?_
          first | refine r_iincN C dc_M_openAt_25 rfl (by decide) (nw_of rfl) ?_ | refine r_iinc C dc_M_openAt_25 rfl rfl (by decide) (nw_of rfl) ?_
          refine r_goto (tgt := 4) C dc_M_openAt_28 (by decide) ?_
          refine r_weak ?_ (ih)
          exact wl_c (rfl) (wl_c (rfl) (wl_c (by rw [e9]; rfl) (wl_c (rfl) (wl_n))))
  refine r_iconst (v := nI 0) C dc_M_openAt_0 (by decide) ?_
  refine r_istore_n C dc_M_openAt_1 rfl (by decide) (nw_of rfl) ?_
  refine r_iconst (v := nI 0) C dc_M_openAt_2 (by decide) ?_
  refine r_istore_n C dc_M_openAt_3 rfl (by decide) (nw_of rfl) ?_
  refine r_weak ?_ (loop 0 (by omega))
  exact wl_c (rfl) (wl_c (rfl) (wl_c (rfl) (wl_c (rfl) (wl_n))))
set_option maxRecDepth 4000 in
theorem k_M_waiting (hl : l.stackTraces = false) {a : Nat} (ha : a < 12) : Ct l D A G my_M_waiting cd_M_waiting 4 (some (.int)) df 0 0 [.ref mm, .int (nI a)] (MH A mm x h) n (fun v h' n' => v = some (.int (nI (cntT (fun k => decide (x 20 (4 * a + k) = -1)) 4))) ∧ h' = MH A mm x h ∧ n' = n) (fun _ _ _ => False) := by
  refine Ct.of (by decide) hl (Nat.le_of_ble_eq_true rfl) ?_
  intro p e s m args below meth c C hr hnm ht dp
  have loop : ∀ k, k ≤ 4 → Rw p l e (cR df 0 0) s m args below meth c (CQ D G n (fun v h' n' => v = some (.int (nI (cntT (fun k => decide (x 20 (4 * a + k) = -1)) 4))) ∧ h' = MH A mm x h ∧ n' = n) (fun _ _ _ => False) below args s 0 0) D G 4 0 0 (MH A mm x h) n [(0, .ref mm), (1, .int (nI a)), (2, .int (nI (cntT (fun k => decide (x 20 (4 * a + k) = -1)) k))), (3, .int (nI (4 * a + k)))] 6 [] := by
    refine r_loop 4 _ ?_ ?_
    ·
      refine r_iload_n C dc_M_waiting_6 rfl rfl ?_
      refine r_iconst (v := nI 4) C dc_M_waiting_7 (by decide) ?_
      refine r_iload_n C dc_M_waiting_8 rfl rfl ?_
      first | refine r_imulN C dc_M_waiting_9 ?_ | refine r_imul C dc_M_waiting_9 ?_
      refine r_iconst (v := nI 4) C dc_M_waiting_10 (by decide) ?_
      first | refine r_iaddN C dc_M_waiting_11 ?_ | refine r_iadd C dc_M_waiting_11 ?_
      refine r_icmp_geN (tgt := 34) C dc_M_waiting_12 (by decide) (by omega) (by omega) (fun c12 => ?_) (fun c12 => ?_)
      ·
        refine r_iload_n C dc_M_waiting_34 rfl rfl ?_
        exact r_iret C dp hr dc_M_waiting_35 (Nat.le_refl _) ⟨rfl, rfl, rfl⟩
      · exact absurd c12 (by omega)
    ·
      intro k hk ih
      refine r_iload_n C dc_M_waiting_6 rfl rfl ?_
      refine r_iconst (v := nI 4) C dc_M_waiting_7 (by decide) ?_
      refine r_iload_n C dc_M_waiting_8 rfl rfl ?_
      first | refine r_imulN C dc_M_waiting_9 ?_ | refine r_imul C dc_M_waiting_9 ?_
      refine r_iconst (v := nI 4) C dc_M_waiting_10 (by decide) ?_
      first | refine r_iaddN C dc_M_waiting_11 ?_ | refine r_iadd C dc_M_waiting_11 ?_
      refine r_icmp_geN (tgt := 34) C dc_M_waiting_12 (by decide) (by omega) (by omega) (fun c12 => ?_) (fun c12 => ?_)
      · exact absurd c12 (by omega)
      ·
        first | refine r_aload_n C dc_M_waiting_15 rfl rfl ?_ | refine r_aload_nq C dc_M_waiting_15 rfl rfl ?_
        refine r_get C dc_M_waiting_16 fl_M_68 mh_0 rfl ?_
        refine r_iload_n C dc_M_waiting_19 rfl rfl ?_
        refine r_ialdN C dc_M_waiting_20 mh_20 (by omega) (by decide) ?_
        refine r_iconst (v := -1) C dc_M_waiting_21 (by decide) ?_
        refine r_icmp_ne (tgt := 28) C dc_M_waiting_22 (by decide) (fun c22 => ?_) (fun c22 => ?_)
        ·
          have e9 := cnt_0 (P := (fun k => decide (x 20 (4 * a + k) = -1))) (k := k) (decide_eq_false c22)
          first | refine r_iincN C dc_M_waiting_28 rfl (by decide) (nw_of rfl) ?_ | refine r_iinc C dc_M_waiting_28 rfl rfl (by decide) (nw_of rfl) ?_
          refine r_goto (tgt := 6) C dc_M_waiting_31 (by decide) ?_
          refine r_weak ?_ (ih)
          exact wl_c (rfl) (wl_c (rfl) (wl_c (by rw [e9]; rfl) (wl_c (rfl) (wl_n))))
        ·
          have e9 := cnt_1 (P := (fun k => decide (x 20 (4 * a + k) = -1))) (k := k) (decide_eq_true c22)
          first | refine r_iincN C dc_M_waiting_25 rfl (by decide) (nw_of rfl) ?_ | refine r_iinc C dc_M_waiting_25 rfl rfl (by decide) (nw_of rfl) ?_
          first | refine r_iincN C dc_M_waiting_28 rfl (by decide) (nw_of rfl) ?_ | refine r_iinc C dc_M_waiting_28 rfl rfl (by decide) (nw_of rfl) ?_
          refine r_goto (tgt := 6) C dc_M_waiting_31 (by decide) ?_
          refine r_weak ?_ (ih)
          exact wl_c (rfl) (wl_c (rfl) (wl_c (by rw [e9]; rfl) (wl_c (rfl) (wl_n))))
  refine r_iconst (v := nI 0) C dc_M_waiting_0 (by decide) ?_
  refine r_istore_n C dc_M_waiting_1 rfl (by decide) (nw_of rfl) ?_
  refine r_iconst (v := nI 4) C dc_M_waiting_2 (by decide) ?_
  refine r_iload_n C dc_M_waiting_3 rfl rfl ?_
  first | refine r_imulN C dc_M_waiting_4 ?_ | refine r_imul C dc_M_waiting_4 ?_
  refine r_istore_n C dc_M_waiting_5 rfl (by decide) (nw_of rfl) ?_
  refine r_weak ?_ (loop 0 (by omega))
  exact wl_c (rfl) (wl_c (rfl) (wl_c (rfl) (wl_c (rfl) (wl_n))))
set_option maxRecDepth 4000 in
theorem k_M_numbered (hl : l.stackTraces = false) {v0 v1 : Int32} : Ct l D A G my_M_numbered cd_M_numbered 4 (some (.int)) df 0 0 [.ref mm, .int v0, .int v1] (MH A mm x h) n (fun v h' n' => v = some (.int (oi (fstF (fun k => decide (x 18 k = v0 ∧ x 15 k = v1)) 12 0))) ∧ h' = MH A mm x h ∧ n' = n) (fun _ _ _ => False) := by
  refine Ct.of (by decide) hl (Nat.le_of_ble_eq_true rfl) ?_
  intro p e s m args below meth c C hr hnm ht dp
  have loop : ∀ k, k ≤ 12 → fstF (fun k => decide (x 18 k = v0 ∧ x 15 k = v1)) 12 0 = fstF (fun k => decide (x 18 k = v0 ∧ x 15 k = v1)) (12 - k) k → Rw p l e (cR df 0 0) s m args below meth c (CQ D G n (fun v h' n' => v = some (.int (oi (fstF (fun k => decide (x 18 k = v0 ∧ x 15 k = v1)) 12 0))) ∧ h' = MH A mm x h ∧ n' = n) (fun _ _ _ => False) below args s 0 0) D G 4 0 0 (MH A mm x h) n [(0, .ref mm), (1, .int v0), (2, .int v1), (3, .int (nI k))] 2 [] := by
    refine r_loop 12 _ ?_ ?_
    ·
      intro hpre
      refine r_iload_n C dc_M_numbered_2 rfl rfl ?_
      refine r_bipush (v := nI 12) C dc_M_numbered_3 (by decide) ?_
      refine r_icmp_geN (tgt := 36) C dc_M_numbered_5 (by decide) (by omega) (by omega) (fun c5 => ?_) (fun c5 => ?_)
      ·
        have e9 := hpre.trans fst_n
        refine r_iconst (v := -1) C dc_M_numbered_36 (by decide) ?_
        exact r_iret C dp hr dc_M_numbered_37 (Nat.le_refl _) ⟨by rw [e9]; rfl, rfl, rfl⟩
      · exact absurd c5 (by omega)
    ·
      intro k hk ih hpre
      refine r_iload_n C dc_M_numbered_2 rfl rfl ?_
      refine r_bipush (v := nI 12) C dc_M_numbered_3 (by decide) ?_
      refine r_icmp_geN (tgt := 36) C dc_M_numbered_5 (by decide) (by omega) (by omega) (fun c5 => ?_) (fun c5 => ?_)
      · exact absurd c5 (by omega)
      ·
        first | refine r_aload_n C dc_M_numbered_8 rfl rfl ?_ | refine r_aload_nq C dc_M_numbered_8 rfl rfl ?_
        refine r_get C dc_M_numbered_9 fl_M_62 mh_0 rfl ?_
        refine r_iload_n C dc_M_numbered_12 rfl rfl ?_
        refine r_ialdN C dc_M_numbered_13 mh_18 (by omega) (by decide) ?_
        refine r_iload_n C dc_M_numbered_14 rfl rfl ?_
        refine r_icmp_ne (tgt := 30) C dc_M_numbered_15 (by decide) (fun c15 => ?_) (fun c15 => ?_)
        ·
          have e9 := fst_0 (P := (fun k => decide (x 18 k = v0 ∧ x 15 k = v1))) hk (decide_eq_false (fun z => c15 z.1))
          first | refine r_iincN C dc_M_numbered_30 rfl (by decide) (nw_of rfl) ?_ | refine r_iinc C dc_M_numbered_30 rfl rfl (by decide) (nw_of rfl) ?_
          refine r_goto (tgt := 2) C dc_M_numbered_33 (by decide) ?_
          refine r_weak ?_ (ih (hpre.trans e9))
          exact wl_c (rfl) (wl_c (rfl) (wl_c (rfl) (wl_c (rfl) (wl_n))))
        ·
          first | refine r_aload_n C dc_M_numbered_18 rfl rfl ?_ | refine r_aload_nq C dc_M_numbered_18 rfl rfl ?_
          refine r_get C dc_M_numbered_19 fl_M_53 mh_0 rfl ?_
          refine r_iload_n C dc_M_numbered_22 rfl rfl ?_
          refine r_ialdN C dc_M_numbered_23 mh_15 (by omega) (by decide) ?_
          refine r_iload_n C dc_M_numbered_24 rfl rfl ?_
          refine r_icmp_ne (tgt := 30) C dc_M_numbered_25 (by decide) (fun c25 => ?_) (fun c25 => ?_)
          ·
            have e9 := fst_0 (P := (fun k => decide (x 18 k = v0 ∧ x 15 k = v1))) hk (decide_eq_false (fun z => c25 z.2))
            first | refine r_iincN C dc_M_numbered_30 rfl (by decide) (nw_of rfl) ?_ | refine r_iinc C dc_M_numbered_30 rfl rfl (by decide) (nw_of rfl) ?_
            refine r_goto (tgt := 2) C dc_M_numbered_33 (by decide) ?_
            refine r_weak ?_ (ih (hpre.trans e9))
            exact wl_c (rfl) (wl_c (rfl) (wl_c (rfl) (wl_c (rfl) (wl_n))))
          ·
            have e9 := hpre.trans (fst_1 (P := (fun k => decide (x 18 k = v0 ∧ x 15 k = v1))) hk (decide_eq_true ⟨c15, c25⟩))
            refine r_iload_n C dc_M_numbered_28 rfl rfl ?_
            exact r_iret C dp hr dc_M_numbered_29 (Nat.le_refl _) ⟨by rw [e9]; rfl, rfl, rfl⟩
  refine r_iconst (v := nI 0) C dc_M_numbered_0 (by decide) ?_
  refine r_istore_n C dc_M_numbered_1 rfl (by decide) (nw_of rfl) ?_
  refine r_weak ?_ (loop 0 (by omega) rfl)
  exact wl_c (rfl) (wl_c (rfl) (wl_c (rfl) (wl_c (rfl) (wl_n))))

set_option maxRecDepth 4000 in
theorem k_M_child (hl : l.stackTraces = false) {a f0 : Nat} {ot : Nat → Option Nat} (ha : a < 12) (hf0 : f0 ≤ 3) (hot : ∀ k, k < 36 → x 1 k = oi (ot k)) (ht36 : ∀ k t, k < 36 → ot k = some t → t < 36) : Ct l D A G my_M_child cd_M_child 5 (some (.int)) df 0 0 [.ref mm, .int (nI a), .int (nI f0)] (MH A mm x h) n (fun v h' n' => v = some (.int (oi (fstF (cOf ot x a) (3 - f0) f0))) ∧ h' = MH A mm x h ∧ n' = n) (fun _ _ _ => False) := by
  refine Ct.of (by decide) hl (Nat.le_of_ble_eq_true rfl) ?_
  intro p e s m args below meth c C hr hnm ht dp
  have hlt : ∀ k t, k < 36 → ot k = some t → t < 36 := ht36
  have loop : ∀ k, k ≤ 3 → fstF (cOf ot x a) (3 - f0) f0 = fstF (cOf ot x a) (3 - k) k → Rw p l e (cR df 0 0) s m args below meth c (CQ D G n (fun v h' n' => v = some (.int (oi (fstF (cOf ot x a) (3 - f0) f0))) ∧ h' = MH A mm x h ∧ n' = n) (fun _ _ _ => False) below args s 0 0) D G 5 0 0 (MH A mm x h) n [(0, .ref mm), (1, .int (nI a)), (2, .int (nI f0)), (3, .int (nI k))] 2 [] := by
    refine r_loop 3 _ ?_ ?_
    ·
      intro hpre
      refine r_iload_n C dc_M_child_2 rfl rfl ?_
      refine r_iconst (v := nI 3) C dc_M_child_3 (by decide) ?_
      refine r_icmp_geN (tgt := 45) C dc_M_child_4 (by decide) (by omega) (by omega) (fun c4 => ?_) (fun c4 => ?_)
      ·
        have e9 := hpre.trans fst_n
        refine r_iconst (v := -1) C dc_M_child_45 (by decide) ?_
        exact r_iret C dp hr dc_M_child_46 (Nat.le_refl _) ⟨by rw [e9]; rfl, rfl, rfl⟩
      · exact absurd c4 (by omega)
    ·
      intro k hk ih hpre
      refine r_iload_n C dc_M_child_2 rfl rfl ?_
      refine r_iconst (v := nI 3) C dc_M_child_3 (by decide) ?_
      refine r_icmp_geN (tgt := 45) C dc_M_child_4 (by decide) (by omega) (by omega) (fun c4 => ?_) (fun c4 => ?_)
      · exact absurd c4 (by omega)
      ·
        first | refine r_aload_n C dc_M_child_7 rfl rfl ?_ | refine r_aload_nq C dc_M_child_7 rfl rfl ?_
        refine r_get C dc_M_child_8 fl_M_7 mh_0 rfl ?_
        refine r_iconst (v := nI 3) C dc_M_child_11 (by decide) ?_
        refine r_iload_n C dc_M_child_12 rfl rfl ?_
        first | refine r_imulN C dc_M_child_13 ?_ | refine r_imul C dc_M_child_13 ?_
        refine r_iload_n C dc_M_child_14 rfl rfl ?_
        first | refine r_iaddN C dc_M_child_15 ?_ | refine r_iadd C dc_M_child_15 ?_
        refine r_ialdN C dc_M_child_16 mh_1 (by omega) (by decide) ?_
        refine sb_at (P := fun v => Rw _ _ _ _ _ _ _ _ _ _ _ _ _ _ _ _ _ _ _ _ (.int v :: _)) (hot _ (by omega)) ?_
        cases eo : ot (3 * a + k) with
        | none =>
          have e9 := fst_0 (P := (cOf ot x a)) hk (by unfold cOf; rw [eo])
          refine r_istore C dc_M_child_17 (by decide) (nw_of rfl) ?_
          refine r_iload C dc_M_child_19 rfl ?_
          refine r_if_lt (tgt := 39) C dc_M_child_21 (by decide) (fun c21 => ?_) (fun c21 => ?_)
          ·
            first | refine r_iincN C dc_M_child_39 rfl (by decide) (nw_of rfl) ?_ | refine r_iinc C dc_M_child_39 rfl rfl (by decide) (nw_of rfl) ?_
            refine r_goto (tgt := 2) C dc_M_child_42 (by decide) ?_
            refine r_weak ?_ (ih (hpre.trans e9))
            exact wl_c (rfl) (wl_c (rfl) (wl_c (rfl) (wl_c (rfl) (wl_n))))
          · exact absurd m1_lt0 c21
        | some t =>
          have ht3 := hlt _ t (by omega) eo
          show Rw p l e (cR df 0 0) s m args below meth c (CQ D G n (fun v h' n' => v = some (.int (oi (fstF (cOf ot x a) (3 - f0) f0))) ∧ h' = MH A mm x h ∧ n' = n) (fun _ _ _ => False) below args s 0 0) D G 5 0 0 (MH A mm x h) n [(0, .ref mm), (1, .int (nI a)), (2, .int (nI f0)), (3, .int (nI k))] 17 (.int (nI t) :: [])
          refine r_istore C dc_M_child_17 (by decide) (nw_of rfl) ?_
          refine r_iload C dc_M_child_19 rfl ?_
          refine r_if_lt (tgt := 39) C dc_M_child_21 (by decide) (fun c21 => ?_) (fun c21 => ?_)
          · exact absurd c21 (nI_lt0 (by omega))
          ·
            first | refine r_aload_n C dc_M_child_24 rfl rfl ?_ | refine r_aload_nq C dc_M_child_24 rfl rfl ?_
            refine r_get C dc_M_child_25 fl_M_50 mh_0 rfl ?_
            refine r_iload C dc_M_child_28 rfl ?_
            refine r_iconst (v := nI 3) C dc_M_child_30 (by decide) ?_
            first | refine r_idivN C dc_M_child_31 (by omega) (by decide) (by decide) ?_ | refine r_idiv C dc_M_child_31 (by decide) ?_
            refine r_ialdN C dc_M_child_32 mh_14 (by omega) (by decide) ?_
            refine r_iload_n C dc_M_child_33 rfl rfl ?_
            refine r_icmp_ne (tgt := 39) C dc_M_child_34 (by decide) (fun c34 => ?_) (fun c34 => ?_)
            ·
              have e9 := fst_0 (P := (cOf ot x a)) hk (by unfold cOf; rw [eo]; exact decide_eq_false c34)
              first | refine r_iincN C dc_M_child_39 rfl (by decide) (nw_of rfl) ?_ | refine r_iinc C dc_M_child_39 rfl rfl (by decide) (nw_of rfl) ?_
              refine r_goto (tgt := 2) C dc_M_child_42 (by decide) ?_
              refine r_weak ?_ (ih (hpre.trans e9))
              exact wl_c (rfl) (wl_c (rfl) (wl_c (rfl) (wl_c (rfl) (wl_n))))
            ·
              have e9 := hpre.trans (fst_1 (P := (cOf ot x a)) hk (by unfold cOf; rw [eo]; exact decide_eq_true c34))
              refine r_iload_n C dc_M_child_37 rfl rfl ?_
              exact r_iret C dp hr dc_M_child_38 (Nat.le_refl _) ⟨by rw [e9]; rfl, rfl, rfl⟩
  refine r_iload_n C dc_M_child_0 rfl rfl ?_
  refine r_istore_n C dc_M_child_1 rfl (by decide) (nw_of rfl) ?_
  refine r_weak ?_ (loop f0 hf0 rfl)
  exact wl_c (rfl) (wl_c (rfl) (wl_c (rfl) (wl_c (rfl) (wl_n))))
end Model4
end
section
/-- a row with the places i .. k-1 taken one further on -/
def shR (f : Nat → Int32) (i k : Nat) : Nat → Int32 := fun j => if i ≤ j ∧ j < k then f (j + 1) else f j
theorem shR_0 (f : Nat → Int32) (i : Nat) : shR f i i = f := by
  funext j
  exact if_neg (by omega)
theorem shR_1 (f : Nat → Int32) {i k : Nat} (q : i ≤ k) : upd (shR f i k) k (shR f i k (k + 1)) = shR f i (k + 1) := by
  funext j
  unfold upd shR
  by_cases e1 : j = k
  · rw [if_pos e1, if_neg (by omega), if_pos (by omega), e1]
  · rw [if_neg e1]
    by_cases e2 : i ≤ j ∧ j < k
    · rw [if_pos e2, if_pos (by omega)]
    · rw [if_neg e2, if_neg (by omega)]
def mSh (x : Nat → Nat → Int32) (i k : Nat) : Nat → Nat → Int32 := fun j => if 30 ≤ j ∧ j ≤ 34 then shR (x j) i k else x j
theorem mSh_0 (x : Nat → Nat → Int32) (i : Nat) : mSh x i i = x := by
  funext j
  unfold mSh
  split
  · exact shR_0 _ _
  · rfl
theorem mSh_1 (x : Nat → Nat → Int32) {i k : Nat} (q : i ≤ k) : ur (ur (ur (ur (ur (mSh x i k) 30 (upd (mSh x i k 30) k (mSh x i k 30 (k + 1)))) 31 (upd (mSh x i k 31) k (mSh x i k 31 (k + 1)))) 32 (upd (mSh x i k 32) k (mSh x i k 32 (k + 1)))) 34 (upd (mSh x i k 34) k (mSh x i k 34 (k + 1)))) 33 (upd (mSh x i k 33) k (mSh x i k 33 (k + 1))) = mSh x i (k + 1) := by
  have e : ∀ j, 30 ≤ j ∧ j ≤ 34 → upd (mSh x i k j) k (mSh x i k j (k + 1)) = mSh x i (k + 1) j := by
    intro j hj
    unfold mSh
    rw [if_pos hj, if_pos hj]
    exact shR_1 _ q
  rw [e 30 (by decide), e 31 (by decide), e 32 (by decide), e 33 (by decide), e 34 (by decide)]
  funext j
  by_cases h3 : j = 33
  · rw [h3, ur_eq]
  rw [ur_ne h3]
  by_cases h4 : j = 34
  · rw [h4, ur_eq]
  rw [ur_ne h4]
  by_cases h2 : j = 32
  · rw [h2, ur_eq]
  rw [ur_ne h2]
  by_cases h1 : j = 31
  · rw [h1, ur_eq]
  rw [ur_ne h1]
  by_cases h0 : j = 30
  · rw [h0, ur_eq]
  rw [ur_ne h0]
  unfold mSh
  rw [if_neg (by omega), if_neg (by omega)]
/-- the packet at place pl of node a's queue of q goes -/
def mTake (x : Nat → Nat → Int32) (a pl q : Nat) : Nat → Nat → Int32 := mSh (ur x 35 (upd (x 35) a (nI (q - 1)))) (6 * a + pl) (6 * a + (q - 1))
theorem mDone_ne {x : Nat → Nat → Int32} {j t wd i : Nat} (q : i ≠ 13) : (mDone x j t wd).2 i = x i := by
  unfold mDone
  dsimp only
  split
  · exact ur_ne q
  · rfl
def mSReq (x : Nat → Nat → Int32) (a j : Nat) (s tm : Int32) (t wd kt ka : Nat) : Nat → Nat → Int32 :=
  if x 18 t = x 18 a then
    if kt < 6 then mPut (mDone x j t wd).2 t kt (nI j) s (nI 0) true (mDone x j t wd).1
    else if tm = nI 4 then ur x 20 (upd (x 20) j (nI 2)) else mPut x a ka (nI j) s tm false (nI 0)
  else ur x 20 (upd (x 20) j (nI 3))
section Model5
variable {l : Launch} {D : va_G} {A : Nat → ClassId} {G : Heap} {h : Hp} {n mm df : Nat} {x : Nat → Nat → Int32}
theorem rw_h {p : Program} {e : Env} {R : Room} {s : State} {m : MethodId} {args : Array Value} {below : List Frame} {meth : Method} {c : Code} {Q : State → Prop} {nL bc bs : Nat} {lo : List (Nat × Value)} {pc : Nat} {st : List Value} {y y' : Nat → Nat → Int32} (q : y = y') (k : Rw p l e R s m args below meth c Q D G nL bc bs (MH A mm y' h) n lo pc st) : Rw p l e R s m args below meth c Q D G nL bc bs (MH A mm y h) n lo pc st := by
  rw [q]; exact k
set_option maxRecDepth 4000 in
theorem k_M_take (hl : l.stackTraces = false) {a pl q : Nat} (ha : a < 12) (hq : x 35 a = nI q) (hq6 : q ≤ 6) (hpl : pl < q) (hz : ∀ k, k < 72 → x 34 k = 0 ∨ x 34 k = 1) : Ct l D A G my_M_take cd_M_take 4 none df 0 0 [.ref mm, .int (nI a), .int (nI pl)] (MH A mm x h) n (fun v h' n' => v = none ∧ h' = MH A mm (mTake x a pl q) h ∧ n' = n) (fun _ _ _ => False) := by
  refine Ct.of (by decide) hl (Nat.le_of_ble_eq_true rfl) ?_
  intro p e s m args below meth c C hr hnm ht dp
  have h34 : ∀ k, k + 1 < 72 → (mSh (ur x 35 (upd (x 35) a (nI (q - 1)))) (6 * a + pl) k) 34 (k + 1) = 0 ∨ (mSh (ur x 35 (upd (x 35) a (nI (q - 1)))) (6 * a + pl) k) 34 (k + 1) = 1 := fun k hk => by
    show shR (x 34) (6 * a + pl) k (k + 1) = 0 ∨ shR (x 34) (6 * a + pl) k (k + 1) = 1
    unfold shR
    rw [if_neg (by omega)]
    exact hz _ hk
  have h35 : ∀ k, (mSh (ur x 35 (upd (x 35) a (nI (q - 1)))) (6 * a + pl) k) 35 a = nI (q - 1) := fun k => by
    show upd (x 35) a (nI (q - 1)) a = nI (q - 1)
    exact if_pos rfl
  have loop : ∀ k, k ≤ (6 * a + (q - 1)) → 6 * a + pl ≤ k → Rw p l e (cR df 0 0) s m args below meth c (CQ D G n (fun v h' n' => v = none ∧ h' = MH A mm (mTake x a pl q) h ∧ n' = n) (fun _ _ _ => False) below args s 0 0) D G 4 0 0 (MH A mm (mSh (ur x 35 (upd (x 35) a (nI (q - 1)))) (6 * a + pl) k) h) n [(0, .ref mm), (1, .int (nI a)), (2, .int (nI pl)), (3, .int (nI k))] 17 [] := by
    refine r_loop (6 * a + (q - 1)) _ ?_ ?_
    ·
      intro hpre
      refine r_iload_n C dc_M_take_17 rfl rfl ?_
      refine r_bipush (v := nI 6) C dc_M_take_18 (by decide) ?_
      refine r_iload_n C dc_M_take_20 rfl rfl ?_
      first | refine r_imulN C dc_M_take_21 ?_ | refine r_imul C dc_M_take_21 ?_
      first | refine r_aload_n C dc_M_take_22 rfl rfl ?_ | refine r_aload_nq C dc_M_take_22 rfl rfl ?_
      refine r_get C dc_M_take_23 fl_M_110 mh_0 rfl ?_
      refine r_iload_n C dc_M_take_26 rfl rfl ?_
      refine r_ialdN C dc_M_take_27 mh_35 (by omega) (by decide) ?_
      refine sb_at (P := fun v => Rw _ _ _ _ _ _ _ _ _ _ _ _ _ _ _ _ _ _ _ _ (.int v :: _)) (h35 _) ?_
      first | refine r_iaddN C dc_M_take_28 ?_ | refine r_iadd C dc_M_take_28 ?_
      refine r_icmp_geN (tgt := 108) C dc_M_take_29 (by decide) (by omega) (by omega) (fun c29 => ?_) (fun c29 => ?_)
      ·
        exact r_vret C dp hr dc_M_take_108 (Nat.le_refl _) ⟨rfl, rfl, rfl⟩
      · exact absurd c29 (by omega)
    ·
      intro k hk ih hpre
      refine r_iload_n C dc_M_take_17 rfl rfl ?_
      refine r_bipush (v := nI 6) C dc_M_take_18 (by decide) ?_
      refine r_iload_n C dc_M_take_20 rfl rfl ?_
      first | refine r_imulN C dc_M_take_21 ?_ | refine r_imul C dc_M_take_21 ?_
      first | refine r_aload_n C dc_M_take_22 rfl rfl ?_ | refine r_aload_nq C dc_M_take_22 rfl rfl ?_
      refine r_get C dc_M_take_23 fl_M_110 mh_0 rfl ?_
      refine r_iload_n C dc_M_take_26 rfl rfl ?_
      refine r_ialdN C dc_M_take_27 mh_35 (by omega) (by decide) ?_
      refine sb_at (P := fun v => Rw _ _ _ _ _ _ _ _ _ _ _ _ _ _ _ _ _ _ _ _ (.int v :: _)) (h35 _) ?_
      first | refine r_iaddN C dc_M_take_28 ?_ | refine r_iadd C dc_M_take_28 ?_
      refine r_icmp_geN (tgt := 108) C dc_M_take_29 (by decide) (by omega) (by omega) (fun c29 => ?_) (fun c29 => ?_)
      · exact absurd c29 (by omega)
      ·
        first | refine r_aload_n C dc_M_take_32 rfl rfl ?_ | refine r_aload_nq C dc_M_take_32 rfl rfl ?_
        refine r_get C dc_M_take_33 fl_M_95 mh_0 rfl ?_
        refine r_iload_n C dc_M_take_36 rfl rfl ?_
        first | refine r_aload_n C dc_M_take_37 rfl rfl ?_ | refine r_aload_nq C dc_M_take_37 rfl rfl ?_
        refine r_get C dc_M_take_38 fl_M_95 mh_0 rfl ?_
        refine r_iload_n C dc_M_take_41 rfl rfl ?_
        refine r_iconst (v := nI 1) C dc_M_take_42 (by decide) ?_
        first | refine r_iaddN C dc_M_take_43 ?_ | refine r_iadd C dc_M_take_43 ?_
        refine r_ialdN C dc_M_take_44 mh_30 (by omega) (by decide) ?_
        refine r_iast C dc_M_take_45 mh_30 rfl (by omega) (by decide) ?_
        rw [ms_30]
        first | refine r_aload_n C dc_M_take_46 rfl rfl ?_ | refine r_aload_nq C dc_M_take_46 rfl rfl ?_
        refine r_get C dc_M_take_47 fl_M_98 mh_0 rfl ?_
        refine r_iload_n C dc_M_take_50 rfl rfl ?_
        first | refine r_aload_n C dc_M_take_51 rfl rfl ?_ | refine r_aload_nq C dc_M_take_51 rfl rfl ?_
        refine r_get C dc_M_take_52 fl_M_98 mh_0 rfl ?_
        refine r_iload_n C dc_M_take_55 rfl rfl ?_
        refine r_iconst (v := nI 1) C dc_M_take_56 (by decide) ?_
        first | refine r_iaddN C dc_M_take_57 ?_ | refine r_iadd C dc_M_take_57 ?_
        refine r_ialdN C dc_M_take_58 mh_31 (by omega) (by decide) ?_
        refine r_iast C dc_M_take_59 mh_31 rfl (by omega) (by decide) ?_
        rw [ms_31]
        first | refine r_aload_n C dc_M_take_60 rfl rfl ?_ | refine r_aload_nq C dc_M_take_60 rfl rfl ?_
        refine r_get C dc_M_take_61 fl_M_101 mh_0 rfl ?_
        refine r_iload_n C dc_M_take_64 rfl rfl ?_
        first | refine r_aload_n C dc_M_take_65 rfl rfl ?_ | refine r_aload_nq C dc_M_take_65 rfl rfl ?_
        refine r_get C dc_M_take_66 fl_M_101 mh_0 rfl ?_
        refine r_iload_n C dc_M_take_69 rfl rfl ?_
        refine r_iconst (v := nI 1) C dc_M_take_70 (by decide) ?_
        first | refine r_iaddN C dc_M_take_71 ?_ | refine r_iadd C dc_M_take_71 ?_
        refine r_ialdN C dc_M_take_72 mh_32 (by omega) (by decide) ?_
        refine r_iast C dc_M_take_73 mh_32 rfl (by omega) (by decide) ?_
        rw [ms_32]
        first | refine r_aload_n C dc_M_take_74 rfl rfl ?_ | refine r_aload_nq C dc_M_take_74 rfl rfl ?_
        refine r_get C dc_M_take_75 fl_M_107 mh_0 rfl ?_
        refine r_iload_n C dc_M_take_78 rfl rfl ?_
        first | refine r_aload_n C dc_M_take_79 rfl rfl ?_ | refine r_aload_nq C dc_M_take_79 rfl rfl ?_
        refine r_get C dc_M_take_80 fl_M_107 mh_0 rfl ?_
        refine r_iload_n C dc_M_take_83 rfl rfl ?_
        refine r_iconst (v := nI 1) C dc_M_take_84 (by decide) ?_
        first | refine r_iaddN C dc_M_take_85 ?_ | refine r_iadd C dc_M_take_85 ?_
        refine r_zaldN C dc_M_take_86 mh_34 (by omega) (by decide) ?_
        refine r_zast C dc_M_take_87 mh_34 rfl (by omega) (by decide) (h34 k (by omega)) ?_
        rw [ms_34]
        first | refine r_aload_n C dc_M_take_88 rfl rfl ?_ | refine r_aload_nq C dc_M_take_88 rfl rfl ?_
        refine r_get C dc_M_take_89 fl_M_104 mh_0 rfl ?_
        refine r_iload_n C dc_M_take_92 rfl rfl ?_
        first | refine r_aload_n C dc_M_take_93 rfl rfl ?_ | refine r_aload_nq C dc_M_take_93 rfl rfl ?_
        refine r_get C dc_M_take_94 fl_M_104 mh_0 rfl ?_
        refine r_iload_n C dc_M_take_97 rfl rfl ?_
        refine r_iconst (v := nI 1) C dc_M_take_98 (by decide) ?_
        first | refine r_iaddN C dc_M_take_99 ?_ | refine r_iadd C dc_M_take_99 ?_
        refine r_ialdN C dc_M_take_100 mh_33 (by omega) (by decide) ?_
        refine r_iast C dc_M_take_101 mh_33 rfl (by omega) (by decide) ?_
        rw [ms_33]
        refine rw_h (mSh_1 (k := k) (ur x 35 (upd (x 35) a (nI (q - 1)))) (show 6 * a + pl ≤ k from hpre)) ?_
        first | refine r_iincN C dc_M_take_102 rfl (by decide) (nw_of rfl) ?_ | refine r_iinc C dc_M_take_102 rfl rfl (by decide) (nw_of rfl) ?_
        refine r_goto (tgt := 17) C dc_M_take_105 (by decide) ?_
        refine r_weak ?_ (ih (by omega))
        exact wl_c (rfl) (wl_c (rfl) (wl_c (rfl) (wl_c (rfl) (wl_n))))
  first | refine r_aload_n C dc_M_take_0 rfl rfl ?_ | refine r_aload_nq C dc_M_take_0 rfl rfl ?_
  refine r_get C dc_M_take_1 fl_M_110 mh_0 rfl ?_
  refine r_iload_n C dc_M_take_4 rfl rfl ?_
  refine r_dup2 C dc_M_take_5 rfl rfl ?_
  refine r_ialdN C dc_M_take_6 mh_35 (by omega) (by decide) ?_
  refine sb_at (P := fun v => Rw _ _ _ _ _ _ _ _ _ _ _ _ _ _ _ _ _ _ _ _ (.int v :: _)) hq ?_
  refine r_iconst (v := nI 1) C dc_M_take_7 (by decide) ?_
  first | refine r_isubN C dc_M_take_8 (by omega) ?_ | refine r_isub C dc_M_take_8 ?_
  refine r_iast C dc_M_take_9 mh_35 rfl (by omega) (by decide) ?_
  rw [ms_35]
  refine r_bipush (v := nI 6) C dc_M_take_10 (by decide) ?_
  refine r_iload_n C dc_M_take_12 rfl rfl ?_
  first | refine r_imulN C dc_M_take_13 ?_ | refine r_imul C dc_M_take_13 ?_
  refine r_iload_n C dc_M_take_14 rfl rfl ?_
  first | refine r_iaddN C dc_M_take_15 ?_ | refine r_iadd C dc_M_take_15 ?_
  refine r_istore_n C dc_M_take_16 rfl (by decide) (nw_of rfl) ?_
  refine rw_h (mSh_0 (ur x 35 (upd (x 35) a (nI (q - 1)))) (6 * a + pl)).symm ?_
  refine r_weak ?_ (loop (6 * a + pl) (by omega) (Nat.le_refl _))
  exact wl_c (rfl) (wl_c (rfl) (wl_c (rfl) (wl_c (rfl) (wl_n))))
set_option maxRecDepth 4000 in
theorem k_M_sendRequest (hl : l.stackTraces = false) {a j t wd kt ka : Nat} {s9 tm : Int32} (ha : a < 12) (hj : j < 48) (ht0 : x 21 j = nI t) (ht1 : t < 12) (hw0 : x 23 j = nI wd) (hw1 : wd < 8) (hkt : x 35 t = nI kt) (hkt6 : kt ≤ 6) (hka : x 35 a = nI ka) (hka6 : ka < 6) : Ct l D A G my_M_sendRequest cd_M_sendRequest 6 none (df + 1) 0 0 [.ref mm, .int (nI a), .int (nI j), .int s9, .int tm] (MH A mm x h) n (fun v h' n' => v = none ∧ h' = MH A mm (mSReq x a j s9 tm t wd kt ka) h ∧ n' = n) (fun _ _ _ => False) := by
  refine Ct.of (by decide) hl (Nat.le_of_ble_eq_true rfl) ?_
  intro p e s m args below meth c C hr hnm ht dp
  first | refine r_aload_n C dc_M_sendRequest_0 rfl rfl ?_ | refine r_aload_nq C dc_M_sendRequest_0 rfl rfl ?_
  refine r_get C dc_M_sendRequest_1 fl_M_71 mh_0 rfl ?_
  refine r_iload_n C dc_M_sendRequest_4 rfl rfl ?_
  refine r_ialdN C dc_M_sendRequest_5 mh_21 (by omega) (by decide) ?_
  refine sb_at (P := fun v => Rw _ _ _ _ _ _ _ _ _ _ _ _ _ _ _ _ _ _ _ _ (.int v :: _)) ht0 ?_
  refine r_istore C dc_M_sendRequest_6 (by decide) (nw_of rfl) ?_
  first | refine r_aload_n C dc_M_sendRequest_8 rfl rfl ?_ | refine r_aload_nq C dc_M_sendRequest_8 rfl rfl ?_
  refine r_get C dc_M_sendRequest_9 fl_M_62 mh_0 rfl ?_
  refine r_iload C dc_M_sendRequest_12 rfl ?_
  refine r_ialdN C dc_M_sendRequest_14 mh_18 (by omega) (by decide) ?_
  first | refine r_aload_n C dc_M_sendRequest_15 rfl rfl ?_ | refine r_aload_nq C dc_M_sendRequest_15 rfl rfl ?_
  refine r_get C dc_M_sendRequest_16 fl_M_62 mh_0 rfl ?_
  refine r_iload_n C dc_M_sendRequest_19 rfl rfl ?_
  refine r_ialdN C dc_M_sendRequest_20 mh_18 (by omega) (by decide) ?_
  refine r_icmp_eq (tgt := 34) C dc_M_sendRequest_21 (by decide) (fun c21 => ?_) (fun c21 => ?_)
  ·
    first | refine r_aload_n C dc_M_sendRequest_34 rfl rfl ?_ | refine r_aload_nq C dc_M_sendRequest_34 rfl rfl ?_
    refine r_get C dc_M_sendRequest_35 fl_M_110 mh_0 rfl ?_
    refine r_iload C dc_M_sendRequest_38 rfl ?_
    refine r_ialdN C dc_M_sendRequest_40 mh_35 (by omega) (by decide) ?_
    refine sb_at (P := fun v => Rw _ _ _ _ _ _ _ _ _ _ _ _ _ _ _ _ _ _ _ _ (.int v :: _)) hkt ?_
    refine r_bipush (v := nI 6) C dc_M_sendRequest_41 (by decide) ?_
    refine r_icmp_geN (tgt := 64) C dc_M_sendRequest_43 (by decide) (by omega) (by omega) (fun c43 => ?_) (fun c43 => ?_)
    ·
      refine r_iload C dc_M_sendRequest_64 rfl ?_
      refine r_iconst (v := nI 4) C dc_M_sendRequest_66 (by decide) ?_
      refine r_icmp_ne (tgt := 80) C dc_M_sendRequest_67 (by decide) (fun c67 => ?_) (fun c67 => ?_)
      ·
        first | refine r_aload_n C dc_M_sendRequest_80 rfl rfl ?_ | refine r_aload_nq C dc_M_sendRequest_80 rfl rfl ?_
        refine r_iload_n C dc_M_sendRequest_81 rfl rfl ?_
        refine r_iload_n C dc_M_sendRequest_82 rfl rfl ?_
        refine r_iload_n C dc_M_sendRequest_83 rfl rfl ?_
        refine r_iload C dc_M_sendRequest_84 rfl ?_
        refine r_iconst (v := nI 0) C dc_M_sendRequest_86 (by decide) ?_
        refine r_iconst (v := nI 0) C dc_M_sendRequest_87 (by decide) ?_
        refine r_callV C dp dc_M_sendRequest_88 cw_M_139 cm_M_put cv_M_put rfl (mh_0) (k_M_put (an := false) hl ha hka hka6) (Nat.lt_succ_self _) rfl rfl (Nat.le_of_ble_eq_true rfl) (fun v88 h88 n88 q88 z88 => ?_) (fun _ _ _ _ z => z.elim)
        obtain ⟨y88, y88h, y88n⟩ := z88
        rw [y88, y88h, y88n]
        exact r_vret C dp hr dc_M_sendRequest_91 (Nat.le_refl _) ⟨rfl, by unfold mSReq; rw [if_pos c21, if_neg (show ¬ kt < 6 by omega), if_neg c67], rfl⟩
      ·
        first | refine r_aload_n C dc_M_sendRequest_70 rfl rfl ?_ | refine r_aload_nq C dc_M_sendRequest_70 rfl rfl ?_
        refine r_get C dc_M_sendRequest_71 fl_M_68 mh_0 rfl ?_
        refine r_iload_n C dc_M_sendRequest_74 rfl rfl ?_
        refine r_iconst (v := nI 2) C dc_M_sendRequest_75 (by decide) ?_
        refine r_iast C dc_M_sendRequest_76 mh_20 rfl (by omega) (by decide) ?_
        rw [ms_20]
        refine r_goto (tgt := 91) C dc_M_sendRequest_77 (by decide) ?_
        exact r_vret C dp hr dc_M_sendRequest_91 (Nat.le_refl _) ⟨rfl, by unfold mSReq; rw [if_pos c21, if_neg (show ¬ kt < 6 by omega), if_pos c67], rfl⟩
    ·
      first | refine r_aload_n C dc_M_sendRequest_46 rfl rfl ?_ | refine r_aload_nq C dc_M_sendRequest_46 rfl rfl ?_
      refine r_iload C dc_M_sendRequest_47 rfl ?_
      refine r_iload_n C dc_M_sendRequest_49 rfl rfl ?_
      refine r_iload_n C dc_M_sendRequest_50 rfl rfl ?_
      refine r_iconst (v := nI 0) C dc_M_sendRequest_51 (by decide) ?_
      refine r_iconst (v := nI 1) C dc_M_sendRequest_52 (by decide) ?_
      first | refine r_aload_n C dc_M_sendRequest_53 rfl rfl ?_ | refine r_aload_nq C dc_M_sendRequest_53 rfl rfl ?_
      refine r_iload_n C dc_M_sendRequest_54 rfl rfl ?_
      refine r_callV C dp dc_M_sendRequest_55 cw_M_143 cm_M_done cv_M_done rfl (mh_0) (k_M_done hl hj ht0 ht1 hw0 hw1) (Nat.lt_succ_self _) rfl rfl (Nat.le_of_ble_eq_true rfl) (fun v55 h55 n55 q55 z55 => ?_) (fun _ _ _ _ z => z.elim)
      obtain ⟨y55, y55h, y55n⟩ := z55
      rw [y55, y55h, y55n]
      refine r_callV C dp dc_M_sendRequest_58 cw_M_139 cm_M_put cv_M_put rfl (mh_0) (k_M_put (an := true) hl ht1 (show (mDone x j t wd).2 35 t = nI kt by rw [mDone_ne (by decide)]; exact hkt) c43) (Nat.lt_succ_self _) rfl rfl (Nat.le_of_ble_eq_true rfl) (fun v58 h58 n58 q58 z58 => ?_) (fun _ _ _ _ z => z.elim)
      obtain ⟨y58, y58h, y58n⟩ := z58
      rw [y58, y58h, y58n]
      refine r_goto (tgt := 91) C dc_M_sendRequest_61 (by decide) ?_
      exact r_vret C dp hr dc_M_sendRequest_91 (Nat.le_refl _) ⟨rfl, by unfold mSReq; rw [if_pos c21, if_pos c43], rfl⟩
  ·
    first | refine r_aload_n C dc_M_sendRequest_24 rfl rfl ?_ | refine r_aload_nq C dc_M_sendRequest_24 rfl rfl ?_
    refine r_get C dc_M_sendRequest_25 fl_M_68 mh_0 rfl ?_
    refine r_iload_n C dc_M_sendRequest_28 rfl rfl ?_
    refine r_iconst (v := nI 3) C dc_M_sendRequest_29 (by decide) ?_
    refine r_iast C dc_M_sendRequest_30 mh_20 rfl (by omega) (by decide) ?_
    rw [ms_20]
    refine r_goto (tgt := 91) C dc_M_sendRequest_31 (by decide) ?_
    exact r_vret C dp hr dc_M_sendRequest_91 (Nat.le_refl _) ⟨rfl, by unfold mSReq; rw [if_neg c21], rfl⟩
end Model5
end
section
theorem mSh_ne {x : Nat → Nat → Int32} {i k j : Nat} (q : ¬ (30 ≤ j ∧ j ≤ 34)) : mSh x i k j = x j := if_neg q
theorem mTake_ne {x : Nat → Nat → Int32} {a pl q j : Nat} (z : ¬ (30 ≤ j ∧ j ≤ 35)) : mTake x a pl q j = x j := by
  unfold mTake
  rw [mSh_ne (by omega), ur_ne (by omega)]
theorem mTake_35 {x : Nat → Nat → Int32} {a pl q : Nat} : mTake x a pl q 35 = upd (x 35) a (nI (q - 1)) := rfl
/-- node a sends the first of its q packets: a packet of label j, to node t, of word wd; kt: the packets of t, a's first taken off -/
def mSend (x : Nat → Nat → Int32) (a q j t wd kt : Nat) : Nat → Nat → Int32 :=
  if x 34 (6 * a) = 0 then mSReq (ur (mTake x a 0 q) 39 (fun _ => x 39 0 + nI 1)) a j (x 31 (6 * a)) (x 32 (6 * a) + nI 1) t wd kt (q - 1)
  else if x 20 j = -1 then
    if x 28 j = x 31 (6 * a) then ur (ur (ur (mTake x a 0 q) 39 (fun _ => x 39 0 + nI 1)) 20 (upd (x 20) j (nI 0))) 26 (upd (x 26) j (x 33 (6 * a)))
    else ur (mTake x a 0 q) 39 (fun _ => x 39 0 + nI 1)
  else ur (mTake x a 0 q) 39 (fun _ => x 39 0 + nI 1)
/-- of those below k that have E, the one with the greatest number, the first of such -/
def bstT (E : Nat → Bool) (nu : Nat → Int32) : Nat → Option Nat
  | 0 => none
  | k + 1 => bif E k then (match bstT E nu k with
    | none => some k
    | some j => if nu k ≤ nu j then some j else some k) else bstT E nu k
theorem bst_lt {E : Nat → Bool} {nu : Nat → Int32} : ∀ {k j : Nat}, bstT E nu k = some j → j < k := by
  intro k
  induction k with
  | zero => intro j q; cases q
  | succ k ih =>
    intro j q
    unfold bstT at q
    cases e : E k with
    | false =>
      rw [e] at q
      exact Nat.lt_succ_of_lt (ih q)
    | true =>
      rw [e] at q
      simp only [cond_true] at q
      cases eb : bstT E nu k with
      | none => rw [eb] at q; cases q; exact Nat.lt_succ_self _
      | some i =>
        rw [eb] at q
        have hi := ih eb
        dsimp only at q
        split at q
        · cases q; omega
        · cases q; omega
theorem bst_0 {E : Nat → Bool} {nu : Nat → Int32} {k : Nat} (q : E k = false) : bstT E nu (k + 1) = bstT E nu k := by
  show (bif E k then _ else _) = _
  rw [q]; rfl
theorem bst_1 {E : Nat → Bool} {nu : Nat → Int32} {k : Nat} (q : E k = true) (e : bstT E nu k = none) : bstT E nu (k + 1) = some k := by
  show (bif E k then _ else _) = _
  rw [q, e]; rfl
theorem bst_2 {E : Nat → Bool} {nu : Nat → Int32} {k j : Nat} (q : E k = true) (e : bstT E nu k = some j) (z : nu k ≤ nu j) : bstT E nu (k + 1) = some j := by
  show (bif E k then _ else _) = _
  rw [q, e]
  exact if_pos z
theorem bst_3 {E : Nat → Bool} {nu : Nat → Int32} {k j : Nat} (q : E k = true) (e : bstT E nu k = some j) (z : ¬ nu k ≤ nu j) : bstT E nu (k + 1) = some k := by
  show (bif E k then _ else _) = _
  rw [q, e]
  exact if_neg z
section Model6
variable {l : Launch} {D : va_G} {A : Nat → ClassId} {G : Heap} {h : Hp} {n mm df : Nat} {x : Nat → Nat → Int32}
set_option maxRecDepth 4000 in
theorem k_M_send (hl : l.stackTraces = false) {a q j t wd kt : Nat} (ha : a < 12) (hq : x 35 a = nI q) (hq6 : q ≤ 6) (hq0 : 0 < q) (hz : ∀ k, k < 72 → x 34 k = 0 ∨ x 34 k = 1) (hlb : x 30 (6 * a) = nI j) (hj : j < 48) (ht0 : x 21 j = nI t) (ht1 : t < 12) (hw0 : x 23 j = nI wd) (hw1 : wd < 8) (hkt : upd (x 35) a (nI (q - 1)) t = nI kt) (hkt6 : kt ≤ 6) : Ct l D A G my_M_send cd_M_send 8 none (df + 2) 0 0 [.ref mm, .int (nI a)] (MH A mm x h) n (fun v h' n' => v = none ∧ h' = MH A mm (mSend x a q j t wd kt) h ∧ n' = n) (fun _ _ _ => False) := by
  refine Ct.of (by decide) hl (Nat.le_of_ble_eq_true rfl) ?_
  intro p e s m args below meth c C hr hnm ht dp
  refine r_bipush (v := nI 6) C dc_M_send_0 (by decide) ?_
  refine r_iload_n C dc_M_send_2 rfl rfl ?_
  first | refine r_imulN C dc_M_send_3 ?_ | refine r_imul C dc_M_send_3 ?_
  refine r_istore_n C dc_M_send_4 rfl (by decide) (nw_of rfl) ?_
  first | refine r_aload_n C dc_M_send_5 rfl rfl ?_ | refine r_aload_nq C dc_M_send_5 rfl rfl ?_
  refine r_get C dc_M_send_6 fl_M_95 mh_0 rfl ?_
  refine r_iload_n C dc_M_send_9 rfl rfl ?_
  refine r_ialdN C dc_M_send_10 mh_30 (by omega) (by decide) ?_
  refine sb_at (P := fun v => Rw _ _ _ _ _ _ _ _ _ _ _ _ _ _ _ _ _ _ _ _ (.int v :: _)) hlb ?_
  refine r_istore_n C dc_M_send_11 rfl (by decide) (nw_of rfl) ?_
  first | refine r_aload_n C dc_M_send_12 rfl rfl ?_ | refine r_aload_nq C dc_M_send_12 rfl rfl ?_
  refine r_get C dc_M_send_13 fl_M_98 mh_0 rfl ?_
  refine r_iload_n C dc_M_send_16 rfl rfl ?_
  refine r_ialdN C dc_M_send_17 mh_31 (by omega) (by decide) ?_
  refine r_istore C dc_M_send_18 (by decide) (nw_of rfl) ?_
  first | refine r_aload_n C dc_M_send_20 rfl rfl ?_ | refine r_aload_nq C dc_M_send_20 rfl rfl ?_
  refine r_get C dc_M_send_21 fl_M_101 mh_0 rfl ?_
  refine r_iload_n C dc_M_send_24 rfl rfl ?_
  refine r_ialdN C dc_M_send_25 mh_32 (by omega) (by decide) ?_
  refine r_iconst (v := nI 1) C dc_M_send_26 (by decide) ?_
  first | refine r_iaddN C dc_M_send_27 ?_ | refine r_iadd C dc_M_send_27 ?_
  refine r_istore C dc_M_send_28 (by decide) (nw_of rfl) ?_
  first | refine r_aload_n C dc_M_send_30 rfl rfl ?_ | refine r_aload_nq C dc_M_send_30 rfl rfl ?_
  refine r_get C dc_M_send_31 fl_M_104 mh_0 rfl ?_
  refine r_iload_n C dc_M_send_34 rfl rfl ?_
  refine r_ialdN C dc_M_send_35 mh_33 (by omega) (by decide) ?_
  refine r_istore C dc_M_send_36 (by decide) (nw_of rfl) ?_
  first | refine r_aload_n C dc_M_send_38 rfl rfl ?_ | refine r_aload_nq C dc_M_send_38 rfl rfl ?_
  refine r_get C dc_M_send_39 fl_M_107 mh_0 rfl ?_
  refine r_iload_n C dc_M_send_42 rfl rfl ?_
  refine r_zaldN C dc_M_send_43 mh_34 (by omega) (by decide) ?_
  refine r_istore C dc_M_send_44 (by decide) (nw_of rfl) ?_
  first | refine r_aload_n C dc_M_send_46 rfl rfl ?_ | refine r_aload_nq C dc_M_send_46 rfl rfl ?_
  refine r_iload_n C dc_M_send_47 rfl rfl ?_
  refine r_iconst (v := nI 0) C dc_M_send_48 (by decide) ?_
  refine r_callV C dp dc_M_send_49 cw_M_146 cm_M_take cv_M_take rfl (mh_0) (k_M_take hl ha hq hq6 hq0 hz) (Nat.lt_succ_of_lt (Nat.lt_succ_self _)) rfl rfl (Nat.le_of_ble_eq_true rfl) (fun v49 h49 n49 q49 z49 => ?_) (fun _ _ _ _ z => z.elim)
  obtain ⟨y49, y49h, y49n⟩ := z49
  rw [y49, y49h, y49n]
  first | refine r_aload_n C dc_M_send_52 rfl rfl ?_ | refine r_aload_nq C dc_M_send_52 rfl rfl ?_
  refine r_dup C dc_M_send_53 rfl ?_
  refine r_get C dc_M_send_54 fl_M_150 mh_0 rfl ?_
  refine r_iconst (v := nI 1) C dc_M_send_57 (by decide) ?_
  first | refine r_iaddN C dc_M_send_58 ?_ | refine r_iadd C dc_M_send_58 ?_
  refine r_put C dc_M_send_59 fl_M_150 mh_0 rfl rfl (Nat.le_of_ble_eq_true rfl) ?_
  rw [mp_39]
  refine r_iload C dc_M_send_62 rfl ?_
  refine r_if_ne (tgt := 80) C dc_M_send_64 (by decide) (fun c64 => ?_) (fun c64 => ?_)
  ·
    first | refine r_aload_n C dc_M_send_80 rfl rfl ?_ | refine r_aload_nq C dc_M_send_80 rfl rfl ?_
    refine r_get C dc_M_send_81 fl_M_68 mh_0 rfl ?_
    refine r_iload_n C dc_M_send_84 rfl rfl ?_
    refine r_ialdN C dc_M_send_85 mh_20 (by omega) (by decide) ?_
    refine r_iconst (v := -1) C dc_M_send_86 (by decide) ?_
    refine r_icmp_ne (tgt := 116) C dc_M_send_87 (by decide) (fun c87 => ?_) (fun c87 => ?_)
    ·
      exact r_vret C dp hr dc_M_send_116 (Nat.le_refl _) ⟨rfl, by unfold mSend; rw [if_neg c64, if_neg (show ¬ x 20 j = -1 from c87)] <;> rfl, rfl⟩
    ·
      first | refine r_aload_n C dc_M_send_90 rfl rfl ?_ | refine r_aload_nq C dc_M_send_90 rfl rfl ?_
      refine r_get C dc_M_send_91 fl_M_92 mh_0 rfl ?_
      refine r_iload_n C dc_M_send_94 rfl rfl ?_
      refine r_ialdN C dc_M_send_95 mh_28 (by omega) (by decide) ?_
      refine r_iload C dc_M_send_96 rfl ?_
      refine r_icmp_ne (tgt := 116) C dc_M_send_98 (by decide) (fun c98 => ?_) (fun c98 => ?_)
      ·
        exact r_vret C dp hr dc_M_send_116 (Nat.le_refl _) ⟨rfl, by unfold mSend; rw [if_neg c64, if_pos (show x 20 j = -1 from c87), if_neg (show ¬ x 28 j = x 31 (6 * a) from c98)] <;> rfl, rfl⟩
      ·
        first | refine r_aload_n C dc_M_send_101 rfl rfl ?_ | refine r_aload_nq C dc_M_send_101 rfl rfl ?_
        refine r_get C dc_M_send_102 fl_M_68 mh_0 rfl ?_
        refine r_iload_n C dc_M_send_105 rfl rfl ?_
        refine r_iconst (v := nI 0) C dc_M_send_106 (by decide) ?_
        refine r_iast C dc_M_send_107 mh_20 rfl (by omega) (by decide) ?_
        rw [ms_20]
        first | refine r_aload_n C dc_M_send_108 rfl rfl ?_ | refine r_aload_nq C dc_M_send_108 rfl rfl ?_
        refine r_get C dc_M_send_109 fl_M_86 mh_0 rfl ?_
        refine r_iload_n C dc_M_send_112 rfl rfl ?_
        refine r_iload C dc_M_send_113 rfl ?_
        refine r_iast C dc_M_send_115 mh_26 rfl (by omega) (by decide) ?_
        rw [ms_26]
        exact r_vret C dp hr dc_M_send_116 (Nat.le_refl _) ⟨rfl, by unfold mSend; rw [if_neg c64, if_pos (show x 20 j = -1 from c87), if_pos (show x 28 j = x 31 (6 * a) from c98)] <;> rfl, rfl⟩
  ·
    first | refine r_aload_n C dc_M_send_67 rfl rfl ?_ | refine r_aload_nq C dc_M_send_67 rfl rfl ?_
    refine r_iload_n C dc_M_send_68 rfl rfl ?_
    refine r_iload_n C dc_M_send_69 rfl rfl ?_
    refine r_iload C dc_M_send_70 rfl ?_
    refine r_iload C dc_M_send_72 rfl ?_
    refine r_callV C dp dc_M_send_74 cw_M_153 cm_M_sendRequest cv_M_sendRequest rfl (mh_0) (k_M_sendRequest (x := ur (mTake x a 0 q) 39 (fun _ => mTake x a 0 q 39 0 + nI 1)) (ka := q - 1) hl ha hj (show _ = nI t from ht0) ht1 (show _ = nI wd from hw0) hw1 (show _ = nI kt from hkt) hkt6 (show _ = nI (q - 1) from if_pos rfl) (by omega)) (Nat.lt_succ_self _) rfl rfl (Nat.le_of_ble_eq_true rfl) (fun v74 h74 n74 q74 z74 => ?_) (fun _ _ _ _ z => z.elim)
    obtain ⟨y74, y74h, y74n⟩ := z74
    rw [y74, y74h, y74n]
    refine r_goto (tgt := 116) C dc_M_send_77 (by decide) ?_
    exact r_vret C dp hr dc_M_send_116 (Nat.le_refl _) ⟨rfl, by unfold mSend; rw [if_pos c64] <;> rfl, rfl⟩
set_option maxRecDepth 4000 in
theorem k_M_sender (hl : l.stackTraces = false) {v0 : Int32} {fr : Bool} : Ct l D A G my_M_sender cd_M_sender 5 (some (.int)) df 0 0 [.ref mm, .int v0, .int (zi fr)] (MH A mm x h) n (fun v h' n' => v = some (.int (oi (bstT (fun k => decide (x 18 k = v0 ∧ ¬ x 35 k = 0 ∧ ¬ (fr = true ∧ ¬ x 10 k = 0))) (x 15) 12))) ∧ h' = MH A mm x h ∧ n' = n) (fun _ _ _ => False) := by
  refine Ct.of (by decide) hl (Nat.le_of_ble_eq_true rfl) ?_
  intro p e s m args below meth c C hr hnm ht dp
  have loop : ∀ k, k ≤ 12 → Rw p l e (cR df 0 0) s m args below meth c (CQ D G n (fun v h' n' => v = some (.int (oi (bstT (fun k => decide (x 18 k = v0 ∧ ¬ x 35 k = 0 ∧ ¬ (fr = true ∧ ¬ x 10 k = 0))) (x 15) 12))) ∧ h' = MH A mm x h ∧ n' = n) (fun _ _ _ => False) below args s 0 0) D G 5 0 0 (MH A mm x h) n [(0, .ref mm), (1, .int v0), (2, .int (zi fr)), (3, .int (oi (bstT (fun k => decide (x 18 k = v0 ∧ ¬ x 35 k = 0 ∧ ¬ (fr = true ∧ ¬ x 10 k = 0))) (x 15) k))), (4, .int (nI k))] 5 [] := by
    refine r_loop 12 _ ?_ ?_
    ·
      refine r_iload C dc_M_sender_5 rfl ?_
      refine r_bipush (v := nI 12) C dc_M_sender_7 (by decide) ?_
      refine r_icmp_geN (tgt := 79) C dc_M_sender_9 (by decide) (by omega) (by omega) (fun c9 => ?_) (fun c9 => ?_)
      ·
        refine r_iload_n C dc_M_sender_79 rfl rfl ?_
        exact r_iret C dp hr dc_M_sender_80 (Nat.le_refl _) ⟨rfl, rfl, rfl⟩
      · exact absurd c9 (by omega)
    ·
      intro k hk ih
      refine r_iload C dc_M_sender_5 rfl ?_
      refine r_bipush (v := nI 12) C dc_M_sender_7 (by decide) ?_
      refine r_icmp_geN (tgt := 79) C dc_M_sender_9 (by decide) (by omega) (by omega) (fun c9 => ?_) (fun c9 => ?_)
      · exact absurd c9 (by omega)
      ·
        first | refine r_aload_n C dc_M_sender_12 rfl rfl ?_ | refine r_aload_nq C dc_M_sender_12 rfl rfl ?_
        refine r_get C dc_M_sender_13 fl_M_62 mh_0 rfl ?_
        refine r_iload C dc_M_sender_16 rfl ?_
        refine r_ialdN C dc_M_sender_18 mh_18 (by omega) (by decide) ?_
        refine r_iload_n C dc_M_sender_19 rfl rfl ?_
        refine r_icmp_ne (tgt := 73) C dc_M_sender_20 (by decide) (fun c20 => ?_) (fun c20 => ?_)
        ·
          have e9 := bst_0 (E := (fun k => decide (x 18 k = v0 ∧ ¬ x 35 k = 0 ∧ ¬ (fr = true ∧ ¬ x 10 k = 0)))) (nu := x 15) (k := k) (decide_eq_false (fun z => c20 z.1))
          first | refine r_iincN C dc_M_sender_73 rfl (by decide) (nw_of rfl) ?_ | refine r_iinc C dc_M_sender_73 rfl rfl (by decide) (nw_of rfl) ?_
          refine r_goto (tgt := 5) C dc_M_sender_76 (by decide) ?_
          refine r_weak ?_ (ih)
          exact wl_c (rfl) (wl_c (rfl) (wl_c (rfl) (wl_c (by rw [e9]; rfl) (wl_c (rfl) (wl_n)))))
        ·
          first | refine r_aload_n C dc_M_sender_23 rfl rfl ?_ | refine r_aload_nq C dc_M_sender_23 rfl rfl ?_
          refine r_get C dc_M_sender_24 fl_M_110 mh_0 rfl ?_
          refine r_iload C dc_M_sender_27 rfl ?_
          refine r_ialdN C dc_M_sender_29 mh_35 (by omega) (by decide) ?_
          refine r_if_eq (tgt := 73) C dc_M_sender_30 (by decide) (fun c30 => ?_) (fun c30 => ?_)
          ·
            have e9 := bst_0 (E := (fun k => decide (x 18 k = v0 ∧ ¬ x 35 k = 0 ∧ ¬ (fr = true ∧ ¬ x 10 k = 0)))) (nu := x 15) (k := k) (decide_eq_false (fun z => z.2.1 c30))
            first | refine r_iincN C dc_M_sender_73 rfl (by decide) (nw_of rfl) ?_ | refine r_iinc C dc_M_sender_73 rfl rfl (by decide) (nw_of rfl) ?_
            refine r_goto (tgt := 5) C dc_M_sender_76 (by decide) ?_
            refine r_weak ?_ (ih)
            exact wl_c (rfl) (wl_c (rfl) (wl_c (rfl) (wl_c (by rw [e9]; rfl) (wl_c (rfl) (wl_n)))))
          ·
            refine r_iload_n C dc_M_sender_33 rfl rfl ?_
            refine r_if_eqZ (tgt := 50) C dc_M_sender_34 (by decide) (fun c34 => ?_) (fun c34 => ?_)
            ·
              have eE : (fun k => decide (x 18 k = v0 ∧ ¬ x 35 k = 0 ∧ ¬ (fr = true ∧ ¬ x 10 k = 0))) k = true := decide_eq_true ⟨c20, c30, fun z => by rw [c34] at z; exact Bool.false_ne_true z.1⟩
              cases eb : bstT (fun k => decide (x 18 k = v0 ∧ ¬ x 35 k = 0 ∧ ¬ (fr = true ∧ ¬ x 10 k = 0))) (x 15) k with
              | none =>
                have e9 := bst_1 (nu := x 15) eE eb
                refine r_weak (lo' := [(0, .ref mm), (1, .int v0), (2, .int (zi fr)), (3, .int (oi none)), (4, .int (nI k))]) ?_ ?_
                · exact wl_c (rfl) (wl_c (rfl) (wl_c (rfl) (wl_c (by rw [← eb]; rfl) (wl_c (rfl) (wl_n)))))
                refine r_iload_n C dc_M_sender_50 rfl rfl ?_
                refine r_if_lt (tgt := 70) C dc_M_sender_51 (by decide) (fun c51 => ?_) (fun c51 => ?_)
                ·
                  refine r_iload C dc_M_sender_70 rfl ?_
                  refine r_istore_n C dc_M_sender_72 rfl (by decide) (nw_of rfl) ?_
                  first | refine r_iincN C dc_M_sender_73 rfl (by decide) (nw_of rfl) ?_ | refine r_iinc C dc_M_sender_73 rfl rfl (by decide) (nw_of rfl) ?_
                  refine r_goto (tgt := 5) C dc_M_sender_76 (by decide) ?_
                  refine r_weak ?_ (ih)
                  exact wl_c (rfl) (wl_c (rfl) (wl_c (rfl) (wl_c (by rw [e9]; rfl) (wl_c (rfl) (wl_n)))))
                · exact absurd m1_lt0 c51
              | some j =>
                have hj := bst_lt eb
                refine r_weak (lo' := [(0, .ref mm), (1, .int v0), (2, .int (zi fr)), (3, .int (nI j)), (4, .int (nI k))]) ?_ ?_
                · exact wl_c (rfl) (wl_c (rfl) (wl_c (rfl) (wl_c (rfl) (wl_c (rfl) (wl_n)))))
                refine r_iload_n C dc_M_sender_50 rfl rfl ?_
                refine r_if_lt (tgt := 70) C dc_M_sender_51 (by decide) (fun c51 => ?_) (fun c51 => ?_)
                · exact absurd c51 (nI_lt0 (by omega))
                ·
                  first | refine r_aload_n C dc_M_sender_54 rfl rfl ?_ | refine r_aload_nq C dc_M_sender_54 rfl rfl ?_
                  refine r_get C dc_M_sender_55 fl_M_53 mh_0 rfl ?_
                  refine r_iload C dc_M_sender_58 rfl ?_
                  refine r_ialdN C dc_M_sender_60 mh_15 (by omega) (by decide) ?_
                  first | refine r_aload_n C dc_M_sender_61 rfl rfl ?_ | refine r_aload_nq C dc_M_sender_61 rfl rfl ?_
                  refine r_get C dc_M_sender_62 fl_M_53 mh_0 rfl ?_
                  refine r_iload_n C dc_M_sender_65 rfl rfl ?_
                  refine r_ialdN C dc_M_sender_66 mh_15 (by omega) (by decide) ?_
                  refine r_icmp_le (tgt := 73) C dc_M_sender_67 (by decide) (fun c67 => ?_) (fun c67 => ?_)
                  ·
                    have e9 := bst_2 (nu := x 15) eE eb c67
                    first | refine r_iincN C dc_M_sender_73 rfl (by decide) (nw_of rfl) ?_ | refine r_iinc C dc_M_sender_73 rfl rfl (by decide) (nw_of rfl) ?_
                    refine r_goto (tgt := 5) C dc_M_sender_76 (by decide) ?_
                    refine r_weak ?_ (ih)
                    exact wl_c (rfl) (wl_c (rfl) (wl_c (rfl) (wl_c (by rw [e9]; rfl) (wl_c (rfl) (wl_n)))))
                  ·
                    have e9 := bst_3 (nu := x 15) eE eb c67
                    refine r_iload C dc_M_sender_70 rfl ?_
                    refine r_istore_n C dc_M_sender_72 rfl (by decide) (nw_of rfl) ?_
                    first | refine r_iincN C dc_M_sender_73 rfl (by decide) (nw_of rfl) ?_ | refine r_iinc C dc_M_sender_73 rfl rfl (by decide) (nw_of rfl) ?_
                    refine r_goto (tgt := 5) C dc_M_sender_76 (by decide) ?_
                    refine r_weak ?_ (ih)
                    exact wl_c (rfl) (wl_c (rfl) (wl_c (rfl) (wl_c (by rw [e9]; rfl) (wl_c (rfl) (wl_n)))))
            ·
              first | refine r_aload_n C dc_M_sender_37 rfl rfl ?_ | refine r_aload_nq C dc_M_sender_37 rfl rfl ?_
              refine r_get C dc_M_sender_38 fl_M_38 mh_0 rfl ?_
              refine r_iload C dc_M_sender_41 rfl ?_
              refine r_zaldN C dc_M_sender_43 mh_10 (by omega) (by decide) ?_
              refine r_if_eq (tgt := 50) C dc_M_sender_44 (by decide) (fun c44 => ?_) (fun c44 => ?_)
              ·
                have eE : (fun k => decide (x 18 k = v0 ∧ ¬ x 35 k = 0 ∧ ¬ (fr = true ∧ ¬ x 10 k = 0))) k = true := decide_eq_true ⟨c20, c30, fun z => z.2 c44⟩
                cases eb : bstT (fun k => decide (x 18 k = v0 ∧ ¬ x 35 k = 0 ∧ ¬ (fr = true ∧ ¬ x 10 k = 0))) (x 15) k with
                | none =>
                  have e9 := bst_1 (nu := x 15) eE eb
                  refine r_weak (lo' := [(0, .ref mm), (1, .int v0), (2, .int (zi fr)), (3, .int (oi none)), (4, .int (nI k))]) ?_ ?_
                  · exact wl_c (rfl) (wl_c (rfl) (wl_c (rfl) (wl_c (by rw [← eb]; rfl) (wl_c (rfl) (wl_n)))))
                  refine r_iload_n C dc_M_sender_50 rfl rfl ?_
                  refine r_if_lt (tgt := 70) C dc_M_sender_51 (by decide) (fun c51 => ?_) (fun c51 => ?_)
                  ·
                    refine r_iload C dc_M_sender_70 rfl ?_
                    refine r_istore_n C dc_M_sender_72 rfl (by decide) (nw_of rfl) ?_
                    first | refine r_iincN C dc_M_sender_73 rfl (by decide) (nw_of rfl) ?_ | refine r_iinc C dc_M_sender_73 rfl rfl (by decide) (nw_of rfl) ?_
                    refine r_goto (tgt := 5) C dc_M_sender_76 (by decide) ?_
                    refine r_weak ?_ (ih)
                    exact wl_c (rfl) (wl_c (rfl) (wl_c (rfl) (wl_c (by rw [e9]; rfl) (wl_c (rfl) (wl_n)))))
                  · exact absurd m1_lt0 c51
                | some j =>
                  have hj := bst_lt eb
                  refine r_weak (lo' := [(0, .ref mm), (1, .int v0), (2, .int (zi fr)), (3, .int (nI j)), (4, .int (nI k))]) ?_ ?_
                  · exact wl_c (rfl) (wl_c (rfl) (wl_c (rfl) (wl_c (rfl) (wl_c (rfl) (wl_n)))))
                  refine r_iload_n C dc_M_sender_50 rfl rfl ?_
                  refine r_if_lt (tgt := 70) C dc_M_sender_51 (by decide) (fun c51 => ?_) (fun c51 => ?_)
                  · exact absurd c51 (nI_lt0 (by omega))
                  ·
                    first | refine r_aload_n C dc_M_sender_54 rfl rfl ?_ | refine r_aload_nq C dc_M_sender_54 rfl rfl ?_
                    refine r_get C dc_M_sender_55 fl_M_53 mh_0 rfl ?_
                    refine r_iload C dc_M_sender_58 rfl ?_
                    refine r_ialdN C dc_M_sender_60 mh_15 (by omega) (by decide) ?_
                    first | refine r_aload_n C dc_M_sender_61 rfl rfl ?_ | refine r_aload_nq C dc_M_sender_61 rfl rfl ?_
                    refine r_get C dc_M_sender_62 fl_M_53 mh_0 rfl ?_
                    refine r_iload_n C dc_M_sender_65 rfl rfl ?_
                    refine r_ialdN C dc_M_sender_66 mh_15 (by omega) (by decide) ?_
                    refine r_icmp_le (tgt := 73) C dc_M_sender_67 (by decide) (fun c67 => ?_) (fun c67 => ?_)
                    ·
                      have e9 := bst_2 (nu := x 15) eE eb c67
                      first | refine r_iincN C dc_M_sender_73 rfl (by decide) (nw_of rfl) ?_ | refine r_iinc C dc_M_sender_73 rfl rfl (by decide) (nw_of rfl) ?_
                      refine r_goto (tgt := 5) C dc_M_sender_76 (by decide) ?_
                      refine r_weak ?_ (ih)
                      exact wl_c (rfl) (wl_c (rfl) (wl_c (rfl) (wl_c (by rw [e9]; rfl) (wl_c (rfl) (wl_n)))))
                    ·
                      have e9 := bst_3 (nu := x 15) eE eb c67
                      refine r_iload C dc_M_sender_70 rfl ?_
                      refine r_istore_n C dc_M_sender_72 rfl (by decide) (nw_of rfl) ?_
                      first | refine r_iincN C dc_M_sender_73 rfl (by decide) (nw_of rfl) ?_ | refine r_iinc C dc_M_sender_73 rfl rfl (by decide) (nw_of rfl) ?_
                      refine r_goto (tgt := 5) C dc_M_sender_76 (by decide) ?_
                      refine r_weak ?_ (ih)
                      exact wl_c (rfl) (wl_c (rfl) (wl_c (rfl) (wl_c (by rw [e9]; rfl) (wl_c (rfl) (wl_n)))))
              ·
                have e9 := bst_0 (E := (fun k => decide (x 18 k = v0 ∧ ¬ x 35 k = 0 ∧ ¬ (fr = true ∧ ¬ x 10 k = 0)))) (nu := x 15) (k := k) (decide_eq_false (fun z => z.2.2 ⟨c34, c44⟩))
                refine r_goto (tgt := 73) C dc_M_sender_47 (by decide) ?_
                first | refine r_iincN C dc_M_sender_73 rfl (by decide) (nw_of rfl) ?_ | refine r_iinc C dc_M_sender_73 rfl rfl (by decide) (nw_of rfl) ?_
                refine r_goto (tgt := 5) C dc_M_sender_76 (by decide) ?_
                refine r_weak ?_ (ih)
                exact wl_c (rfl) (wl_c (rfl) (wl_c (rfl) (wl_c (by rw [e9]; rfl) (wl_c (rfl) (wl_n)))))
  refine r_iconst (v := -1) C dc_M_sender_0 (by decide) ?_
  refine r_istore_n C dc_M_sender_1 rfl (by decide) (nw_of rfl) ?_
  refine r_iconst (v := nI 0) C dc_M_sender_2 (by decide) ?_
  refine r_istore C dc_M_sender_3 (by decide) (nw_of rfl) ?_
  refine r_weak ?_ (loop 0 (by omega))
  exact wl_c (rfl) (wl_c (rfl) (wl_c (rfl) (wl_c (rfl) (wl_c (rfl) (wl_n)))))
def mUnplug (ot : Nat → Option Nat) (x : Nat → Nat → Int32) (a p0 : Int32) : Int32 × (Nat → Nat → Int32) := if ou a 12 then (nI 0, th x 1) else if ou p0 3 then (nI 0, th x 2) else match ot (3 * cl a + cl p0) with
  | none => (nI 0, th x 3)
  | some t => (nI (t / 3), ur (ur (ur (ur (th x 0) 1 (upd (x 1) t (-1))) 1 (upd (upd (x 1) t (-1)) (3 * cl a + cl p0) (-1))) 11 (upd (x 11) (t / 3) (nI 1))) 11 (upd (upd (x 11) (t / 3) (nI 1)) (cl a) (nI 1)))
set_option maxRecDepth 4000 in
theorem k_M_unplug (hl : l.stackTraces = false) {v0 v1 : Int32} {ot : Nat → Option Nat} (hot : ∀ k, k < 36 → x 1 k = oi (ot k)) (ht36 : ∀ k t, k < 36 → ot k = some t → t < 36) : Ct l D A G my_M_unplug cd_M_unplug 4 (some (.int)) (df + 1) 0 0 [.ref mm, .int v0, .int v1] (MH A mm x h) n (fun v h' n' => v = some (.int (mUnplug ot x v0 v1).1) ∧ h' = MH A mm ((mUnplug ot x v0 v1).2) h ∧ n' = n) (fun _ _ _ => False) := by
  refine Ct.of (by decide) hl (Nat.le_of_ble_eq_true rfl) ?_
  intro p e s m args below meth c C hr hnm ht dp
  first | refine r_aload_n C dc_M_unplug_0 rfl rfl ?_ | refine r_aload_nq C dc_M_unplug_0 rfl rfl ?_
  refine r_iconst (v := nI 0) C dc_M_unplug_1 (by decide) ?_
  refine r_put C dc_M_unplug_2 fl_M_117 mh_0 rfl rfl (Nat.le_of_ble_eq_true rfl) ?_
  rw [mp_0]
  refine r_iload_n C dc_M_unplug_5 rfl rfl ?_
  refine r_bipush (v := nI 12) C dc_M_unplug_6 (by decide) ?_
  refine r_callS C dp dc_M_unplug_8 cw_M_120 cs_M_out (k_M_out hl) (Nat.lt_succ_self _) rfl rfl (Nat.le_of_ble_eq_true rfl) (fun v8 h8 n8 q8 z8 => ?_) (fun _ _ _ _ z => z.elim)
  obtain ⟨y8, y8h, y8n⟩ := z8
  rw [y8, y8h, y8n]
  refine r_if_eqZ (tgt := 20) C dc_M_unplug_11 (by decide) (fun c11 => ?_) (fun c11 => ?_)
  ·
    refine r_iload_n C dc_M_unplug_20 rfl rfl ?_
    refine r_iconst (v := nI 3) C dc_M_unplug_21 (by decide) ?_
    refine r_callS C dp dc_M_unplug_22 cw_M_120 cs_M_out (k_M_out hl) (Nat.lt_succ_self _) rfl rfl (Nat.le_of_ble_eq_true rfl) (fun v22 h22 n22 q22 z22 => ?_) (fun _ _ _ _ z => z.elim)
    obtain ⟨y22, y22h, y22n⟩ := z22
    rw [y22, y22h, y22n]
    refine r_if_eqZ (tgt := 34) C dc_M_unplug_25 (by decide) (fun c25 => ?_) (fun c25 => ?_)
    ·
      obtain ⟨a, ha, rfl⟩ := nd_of (of_decide_eq_false c11)
      obtain ⟨j, hj, rfl⟩ := nd_of (of_decide_eq_false c25)
      first | refine r_aload_n C dc_M_unplug_34 rfl rfl ?_ | refine r_aload_nq C dc_M_unplug_34 rfl rfl ?_
      refine r_get C dc_M_unplug_35 fl_M_7 mh_0 rfl ?_
      refine r_iconst (v := nI 3) C dc_M_unplug_38 (by decide) ?_
      refine r_iload_n C dc_M_unplug_39 rfl rfl ?_
      first | refine r_imulN C dc_M_unplug_40 ?_ | refine r_imul C dc_M_unplug_40 ?_
      refine r_iload_n C dc_M_unplug_41 rfl rfl ?_
      first | refine r_iaddN C dc_M_unplug_42 ?_ | refine r_iadd C dc_M_unplug_42 ?_
      refine r_ialdN C dc_M_unplug_43 mh_1 (by omega) (by decide) ?_
      refine sb_at (P := fun v => Rw _ _ _ _ _ _ _ _ _ _ _ _ _ _ _ _ _ _ _ _ (.int v :: _)) (show _ = oi (ot (3 * a + j)) from hot _ (by omega)) ?_
      cases eo : ot (3 * a + j) with
      | none =>
        refine r_istore_n C dc_M_unplug_44 rfl (by decide) (nw_of rfl) ?_
        refine r_iload_n C dc_M_unplug_45 rfl rfl ?_
        refine r_if_ge (tgt := 55) C dc_M_unplug_46 (by decide) (fun c46 => ?_) (fun c46 => ?_)
        · exact absurd m1_lt0 (Int32.not_lt.mpr c46)
        ·
          first | refine r_aload_n C dc_M_unplug_49 rfl rfl ?_ | refine r_aload_nq C dc_M_unplug_49 rfl rfl ?_
          refine r_iconst (v := nI 3) C dc_M_unplug_50 (by decide) ?_
          refine r_callV C dp dc_M_unplug_51 cw_M_124 cm_M_fail cv_M_fail rfl (mh_0) (k_M_fail hl) (Nat.lt_succ_self _) rfl rfl (Nat.le_of_ble_eq_true rfl) (fun v51 h51 n51 q51 z51 => ?_) (fun _ _ _ _ z => z.elim)
          obtain ⟨y51, y51h, y51n⟩ := z51
          rw [y51, y51h, y51n]
          exact r_iret C dp hr dc_M_unplug_54 (Nat.le_refl _) ⟨by unfold mUnplug; rw [if_neg (of_decide_eq_false c11), if_neg (of_decide_eq_false c25), cl_nI (k := a) (by omega), cl_nI (k := j) (by omega), eo] <;> (first | rfl | (simp only [ur_ur]; done) | (simp only [ur_ur]; rfl)), by unfold mUnplug; rw [if_neg (of_decide_eq_false c11), if_neg (of_decide_eq_false c25), cl_nI (k := a) (by omega), cl_nI (k := j) (by omega), eo] <;> (first | rfl | (simp only [ur_ur]; done) | (simp only [ur_ur]; rfl)), rfl⟩
      | some t =>
        have ht3 := ht36 _ t (by omega) eo
        refine sb_at (P := fun v => Rw _ _ _ _ _ _ _ _ _ _ _ _ _ _ _ _ _ _ _ _ (.int v :: _)) (show oi (some t) = nI t from rfl) ?_
        refine r_istore_n C dc_M_unplug_44 rfl (by decide) (nw_of rfl) ?_
        refine r_iload_n C dc_M_unplug_45 rfl rfl ?_
        refine r_if_ge (tgt := 55) C dc_M_unplug_46 (by decide) (fun c46 => ?_) (fun c46 => ?_)
        ·
          first | refine r_aload_n C dc_M_unplug_55 rfl rfl ?_ | refine r_aload_nq C dc_M_unplug_55 rfl rfl ?_
          refine r_get C dc_M_unplug_56 fl_M_7 mh_0 rfl ?_
          refine r_iconst (v := nI 3) C dc_M_unplug_59 (by decide) ?_
          refine r_iload_n C dc_M_unplug_60 rfl rfl ?_
          first | refine r_imulN C dc_M_unplug_61 ?_ | refine r_imul C dc_M_unplug_61 ?_
          refine r_iload_n C dc_M_unplug_62 rfl rfl ?_
          first | refine r_iaddN C dc_M_unplug_63 ?_ | refine r_iadd C dc_M_unplug_63 ?_
          first | refine r_aload_n C dc_M_unplug_64 rfl rfl ?_ | refine r_aload_nq C dc_M_unplug_64 rfl rfl ?_
          refine r_get C dc_M_unplug_65 fl_M_7 mh_0 rfl ?_
          refine r_iload_n C dc_M_unplug_68 rfl rfl ?_
          refine r_iconst (v := -1) C dc_M_unplug_69 (by decide) ?_
          refine r_dup_x2 C dc_M_unplug_70 rfl rfl rfl ?_
          refine r_iast C dc_M_unplug_71 mh_1 rfl (by omega) (by decide) ?_
          rw [ms_1]
          refine r_iast C dc_M_unplug_72 mh_1 rfl (by omega) (by decide) ?_
          rw [ms_1]
          first | refine r_aload_n C dc_M_unplug_73 rfl rfl ?_ | refine r_aload_nq C dc_M_unplug_73 rfl rfl ?_
          refine r_get C dc_M_unplug_74 fl_M_41 mh_0 rfl ?_
          refine r_iload_n C dc_M_unplug_77 rfl rfl ?_
          first | refine r_aload_n C dc_M_unplug_78 rfl rfl ?_ | refine r_aload_nq C dc_M_unplug_78 rfl rfl ?_
          refine r_get C dc_M_unplug_79 fl_M_41 mh_0 rfl ?_
          refine r_iload_n C dc_M_unplug_82 rfl rfl ?_
          refine r_iconst (v := nI 3) C dc_M_unplug_83 (by decide) ?_
          first | refine r_idivN C dc_M_unplug_84 (by omega) (by decide) (by decide) ?_ | refine r_idiv C dc_M_unplug_84 (by decide) ?_
          refine r_iconst (v := nI 1) C dc_M_unplug_85 (by decide) ?_
          refine r_dup_x2 C dc_M_unplug_86 rfl rfl rfl ?_
          refine r_zast C dc_M_unplug_87 mh_11 rfl (by omega) (by decide) (by first | exact zi_01 _ | exact zv_0 | exact zv_1 | assumption | decide) ?_
          rw [ms_11]
          refine r_zast C dc_M_unplug_88 mh_11 rfl (by omega) (by decide) (by first | exact zi_01 _ | exact zv_0 | exact zv_1 | assumption | decide) ?_
          rw [ms_11]
          refine r_iload_n C dc_M_unplug_89 rfl rfl ?_
          refine r_iconst (v := nI 3) C dc_M_unplug_90 (by decide) ?_
          first | refine r_idivN C dc_M_unplug_91 (by omega) (by decide) (by decide) ?_ | refine r_idiv C dc_M_unplug_91 (by decide) ?_
          exact r_iret C dp hr dc_M_unplug_92 (Nat.le_refl _) ⟨by unfold mUnplug; rw [if_neg (of_decide_eq_false c11), if_neg (of_decide_eq_false c25), cl_nI (k := a) (by omega), cl_nI (k := j) (by omega), eo] <;> (first | rfl | (simp only [ur_ur]; done) | (simp only [ur_ur]; rfl)), by unfold mUnplug; rw [if_neg (of_decide_eq_false c11), if_neg (of_decide_eq_false c25), cl_nI (k := a) (by omega), cl_nI (k := j) (by omega), eo] <;> (first | rfl | (simp only [ur_ur]; done) | (simp only [ur_ur]; rfl)), rfl⟩
        · exact absurd (nI_pos' (by omega)) c46
    ·
      first | refine r_aload_n C dc_M_unplug_28 rfl rfl ?_ | refine r_aload_nq C dc_M_unplug_28 rfl rfl ?_
      refine r_iconst (v := nI 2) C dc_M_unplug_29 (by decide) ?_
      refine r_callV C dp dc_M_unplug_30 cw_M_124 cm_M_fail cv_M_fail rfl (mh_0) (k_M_fail hl) (Nat.lt_succ_self _) rfl rfl (Nat.le_of_ble_eq_true rfl) (fun v30 h30 n30 q30 z30 => ?_) (fun _ _ _ _ z => z.elim)
      obtain ⟨y30, y30h, y30n⟩ := z30
      rw [y30, y30h, y30n]
      exact r_iret C dp hr dc_M_unplug_33 (Nat.le_refl _) ⟨by unfold mUnplug; rw [if_neg (of_decide_eq_false c11), if_pos (of_decide_eq_true c25)] <;> (first | rfl | (simp only [ur_ur]; done) | (simp only [ur_ur]; rfl)), by unfold mUnplug; rw [if_neg (of_decide_eq_false c11), if_pos (of_decide_eq_true c25)] <;> (first | rfl | (simp only [ur_ur]; done) | (simp only [ur_ur]; rfl)), rfl⟩
  ·
    first | refine r_aload_n C dc_M_unplug_14 rfl rfl ?_ | refine r_aload_nq C dc_M_unplug_14 rfl rfl ?_
    refine r_iconst (v := nI 1) C dc_M_unplug_15 (by decide) ?_
    refine r_callV C dp dc_M_unplug_16 cw_M_124 cm_M_fail cv_M_fail rfl (mh_0) (k_M_fail hl) (Nat.lt_succ_self _) rfl rfl (Nat.le_of_ble_eq_true rfl) (fun v16 h16 n16 q16 z16 => ?_) (fun _ _ _ _ z => z.elim)
    obtain ⟨y16, y16h, y16n⟩ := z16
    rw [y16, y16h, y16n]
    exact r_iret C dp hr dc_M_unplug_19 (Nat.le_refl _) ⟨by unfold mUnplug; rw [if_pos (of_decide_eq_true c11)] <;> (first | rfl | (simp only [ur_ur]; done) | (simp only [ur_ur]; rfl)), by unfold mUnplug; rw [if_pos (of_decide_eq_true c11)] <;> (first | rfl | (simp only [ur_ur]; done) | (simp only [ur_ur]; rfl)), rfl⟩
end Model6
end
