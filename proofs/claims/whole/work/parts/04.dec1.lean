theorem dc_N_init_0 : decode cd_N_init 0 = .ok (.aload_n 0, 1) := by decide +kernel
theorem dc_N_init_1 : decode cd_N_init 1 = .ok (.invokespecial 3, 3) := by decide +kernel
theorem dc_N_init_4 : decode cd_N_init 4 = .ok (.aload_n 0, 1) := by decide +kernel
theorem dc_N_init_5 : decode cd_N_init 5 = .ok (.bipush 8, 2) := by decide +kernel
theorem dc_N_init_7 : decode cd_N_init 7 = .ok (.newarray .int, 2) := by decide +kernel
theorem dc_N_init_9 : decode cd_N_init 9 = .ok (.putfield 9, 3) := by decide +kernel
theorem dc_N_init_12 : decode cd_N_init 12 = .ok (.aload_n 0, 1) := by decide +kernel
theorem dc_N_init_13 : decode cd_N_init 13 = .ok (.new 15, 3) := by decide +kernel
theorem dc_N_init_16 : decode cd_N_init 16 = .ok (.dup, 1) := by decide +kernel
theorem dc_N_init_17 : decode cd_N_init 17 = .ok (.invokespecial 17, 3) := by decide +kernel
theorem dc_N_init_20 : decode cd_N_init 20 = .ok (.putfield 18, 3) := by decide +kernel
theorem dc_N_init_23 : decode cd_N_init 23 = .ok (.aload_n 0, 1) := by decide +kernel
theorem dc_N_init_24 : decode cd_N_init 24 = .ok (.iconst 4, 1) := by decide +kernel
theorem dc_N_init_25 : decode cd_N_init 25 = .ok (.anewarray 22, 3) := by decide +kernel
theorem dc_N_init_28 : decode cd_N_init 28 = .ok (.putfield 24, 3) := by decide +kernel
theorem dc_N_init_31 : decode cd_N_init 31 = .ok (.aload_n 0, 1) := by decide +kernel
theorem dc_N_init_32 : decode cd_N_init 32 = .ok (.iconst 1, 1) := by decide +kernel
theorem dc_N_init_33 : decode cd_N_init 33 = .ok (.putfield 28, 3) := by decide +kernel
theorem dc_N_init_36 : decode cd_N_init 36 = .ok (.aload_n 0, 1) := by decide +kernel
theorem dc_N_init_37 : decode cd_N_init 37 = .ok (.iconst (-1), 1) := by decide +kernel
theorem dc_N_init_38 : decode cd_N_init 38 = .ok (.putfield 32, 3) := by decide +kernel
theorem dc_N_init_41 : decode cd_N_init 41 = .ok (.aload_n 0, 1) := by decide +kernel
theorem dc_N_init_42 : decode cd_N_init 42 = .ok (.iconst (-1), 1) := by decide +kernel
theorem dc_N_init_43 : decode cd_N_init 43 = .ok (.putfield 36, 3) := by decide +kernel
theorem dc_N_init_46 : decode cd_N_init 46 = .ok (.aload_n 0, 1) := by decide +kernel
theorem dc_N_init_47 : decode cd_N_init 47 = .ok (.iconst (-1), 1) := by decide +kernel
theorem dc_N_init_48 : decode cd_N_init 48 = .ok (.putfield 39, 3) := by decide +kernel
theorem dc_N_init_51 : decode cd_N_init 51 = .ok (.aload_n 0, 1) := by decide +kernel
theorem dc_N_init_52 : decode cd_N_init 52 = .ok (.iconst (-1), 1) := by decide +kernel
theorem dc_N_init_53 : decode cd_N_init 53 = .ok (.putfield 42, 3) := by decide +kernel
theorem dc_N_init_56 : decode cd_N_init 56 = .ok (.aload_n 0, 1) := by decide +kernel
theorem dc_N_init_57 : decode cd_N_init 57 = .ok (.getfield 9, 3) := by decide +kernel
theorem dc_N_init_60 : decode cd_N_init 60 = .ok (.bipush 6, 2) := by decide +kernel
theorem dc_N_init_62 : decode cd_N_init 62 = .ok (.bipush 100, 2) := by decide +kernel
theorem dc_N_init_64 : decode cd_N_init 64 = .ok (.iastore, 1) := by decide +kernel
theorem dc_N_init_65 : decode cd_N_init 65 = .ok (.aload_n 0, 1) := by decide +kernel
theorem dc_N_init_66 : decode cd_N_init 66 = .ok (.getfield 9, 3) := by decide +kernel
theorem dc_N_init_69 : decode cd_N_init 69 = .ok (.bipush 7, 2) := by decide +kernel
theorem dc_N_init_71 : decode cd_N_init 71 = .ok (.iconst (-1), 1) := by decide +kernel
theorem dc_N_init_72 : decode cd_N_init 72 = .ok (.iastore, 1) := by decide +kernel
theorem dc_N_init_73 : decode cd_N_init 73 = .ok (.return_, 1) := by decide +kernel
theorem dc_N_startAnew_0 : decode cd_N_startAnew 0 = .ok (.iconst 0, 1) := by decide +kernel
theorem dc_N_startAnew_1 : decode cd_N_startAnew 1 = .ok (.istore_n 1, 1) := by decide +kernel
theorem dc_N_startAnew_2 : decode cd_N_startAnew 2 = .ok (.iload_n 1, 1) := by decide +kernel
theorem dc_N_startAnew_3 : decode cd_N_startAnew 3 = .ok (.iconst 4, 1) := by decide +kernel
theorem dc_N_startAnew_4 : decode cd_N_startAnew 4 = .ok (.if_icmp .ge 28, 3) := by decide +kernel
theorem dc_N_startAnew_7 : decode cd_N_startAnew 7 = .ok (.aload_n 0, 1) := by decide +kernel
theorem dc_N_startAnew_8 : decode cd_N_startAnew 8 = .ok (.getfield 24, 3) := by decide +kernel
theorem dc_N_startAnew_11 : decode cd_N_startAnew 11 = .ok (.iload_n 1, 1) := by decide +kernel
theorem dc_N_startAnew_12 : decode cd_N_startAnew 12 = .ok (.aaload, 1) := by decide +kernel
theorem dc_N_startAnew_13 : decode cd_N_startAnew 13 = .ok (.ifnull 13, 3) := by decide +kernel
theorem dc_N_startAnew_16 : decode cd_N_startAnew 16 = .ok (.aload_n 0, 1) := by decide +kernel
theorem dc_N_startAnew_17 : decode cd_N_startAnew 17 = .ok (.getfield 24, 3) := by decide +kernel
theorem dc_N_startAnew_20 : decode cd_N_startAnew 20 = .ok (.iload_n 1, 1) := by decide +kernel
theorem dc_N_startAnew_21 : decode cd_N_startAnew 21 = .ok (.aaload, 1) := by decide +kernel
theorem dc_N_startAnew_22 : decode cd_N_startAnew 22 = .ok (.iconst 1, 1) := by decide +kernel
theorem dc_N_startAnew_23 : decode cd_N_startAnew 23 = .ok (.invokevirtual 45, 3) := by decide +kernel
theorem dc_N_startAnew_26 : decode cd_N_startAnew 26 = .ok (.iinc 1 1, 3) := by decide +kernel
theorem dc_N_startAnew_29 : decode cd_N_startAnew 29 = .ok (.goto (-27), 3) := by decide +kernel
theorem dc_N_startAnew_32 : decode cd_N_startAnew 32 = .ok (.aload_n 0, 1) := by decide +kernel
theorem dc_N_startAnew_33 : decode cd_N_startAnew 33 = .ok (.getfield 18, 3) := by decide +kernel
theorem dc_N_startAnew_36 : decode cd_N_startAnew 36 = .ok (.invokevirtual 49, 3) := by decide +kernel
theorem dc_N_startAnew_39 : decode cd_N_startAnew 39 = .ok (.aload_n 0, 1) := by decide +kernel
theorem dc_N_startAnew_40 : decode cd_N_startAnew 40 = .ok (.iconst 0, 1) := by decide +kernel
theorem dc_N_startAnew_41 : decode cd_N_startAnew 41 = .ok (.putfield 52, 3) := by decide +kernel
theorem dc_N_startAnew_44 : decode cd_N_startAnew 44 = .ok (.aload_n 0, 1) := by decide +kernel
theorem dc_N_startAnew_45 : decode cd_N_startAnew 45 = .ok (.getfield 9, 3) := by decide +kernel
theorem dc_N_startAnew_48 : decode cd_N_startAnew 48 = .ok (.bipush 6, 2) := by decide +kernel
theorem dc_N_startAnew_50 : decode cd_N_startAnew 50 = .ok (.bipush 100, 2) := by decide +kernel
theorem dc_N_startAnew_52 : decode cd_N_startAnew 52 = .ok (.iastore, 1) := by decide +kernel
theorem dc_N_startAnew_53 : decode cd_N_startAnew 53 = .ok (.aload_n 0, 1) := by decide +kernel
theorem dc_N_startAnew_54 : decode cd_N_startAnew 54 = .ok (.getfield 9, 3) := by decide +kernel
theorem dc_N_startAnew_57 : decode cd_N_startAnew 57 = .ok (.bipush 7, 2) := by decide +kernel
theorem dc_N_startAnew_59 : decode cd_N_startAnew 59 = .ok (.iconst (-1), 1) := by decide +kernel
theorem dc_N_startAnew_60 : decode cd_N_startAnew 60 = .ok (.iastore, 1) := by decide +kernel
theorem dc_N_startAnew_61 : decode cd_N_startAnew 61 = .ok (.aload_n 0, 1) := by decide +kernel
theorem dc_N_startAnew_62 : decode cd_N_startAnew 62 = .ok (.iconst (-1), 1) := by decide +kernel
theorem dc_N_startAnew_63 : decode cd_N_startAnew 63 = .ok (.putfield 32, 3) := by decide +kernel
theorem dc_N_startAnew_66 : decode cd_N_startAnew 66 = .ok (.aload_n 0, 1) := by decide +kernel
theorem dc_N_startAnew_67 : decode cd_N_startAnew 67 = .ok (.iconst (-1), 1) := by decide +kernel
theorem dc_N_startAnew_68 : decode cd_N_startAnew 68 = .ok (.putfield 36, 3) := by decide +kernel
theorem dc_N_startAnew_71 : decode cd_N_startAnew 71 = .ok (.aload_n 0, 1) := by decide +kernel
theorem dc_N_startAnew_72 : decode cd_N_startAnew 72 = .ok (.iconst 0, 1) := by decide +kernel
theorem dc_N_startAnew_73 : decode cd_N_startAnew 73 = .ok (.putfield 28, 3) := by decide +kernel
theorem dc_N_startAnew_76 : decode cd_N_startAnew 76 = .ok (.return_, 1) := by decide +kernel
theorem dc_N_learn_0 : decode cd_N_learn 0 = .ok (.aload_n 0, 1) := by decide +kernel
theorem dc_N_learn_1 : decode cd_N_learn 1 = .ok (.iload_n 1, 1) := by decide +kernel
theorem dc_N_learn_2 : decode cd_N_learn 2 = .ok (.putfield 55, 3) := by decide +kernel
theorem dc_N_learn_5 : decode cd_N_learn 5 = .ok (.aload_n 0, 1) := by decide +kernel
theorem dc_N_learn_6 : decode cd_N_learn 6 = .ok (.iload_n 2, 1) := by decide +kernel
theorem dc_N_learn_7 : decode cd_N_learn 7 = .ok (.putfield 39, 3) := by decide +kernel
theorem dc_N_learn_10 : decode cd_N_learn 10 = .ok (.aload_n 0, 1) := by decide +kernel
theorem dc_N_learn_11 : decode cd_N_learn 11 = .ok (.iload_n 3, 1) := by decide +kernel
theorem dc_N_learn_12 : decode cd_N_learn 12 = .ok (.putfield 42, 3) := by decide +kernel
theorem dc_N_learn_15 : decode cd_N_learn 15 = .ok (.iload_n 1, 1) := by decide +kernel
theorem dc_N_learn_16 : decode cd_N_learn 16 = .ok (.ifCond .eq 8, 3) := by decide +kernel
theorem dc_N_learn_19 : decode cd_N_learn 19 = .ok (.aload_n 0, 1) := by decide +kernel
theorem dc_N_learn_20 : decode cd_N_learn 20 = .ok (.iconst (-1), 1) := by decide +kernel
theorem dc_N_learn_21 : decode cd_N_learn 21 = .ok (.putfield 36, 3) := by decide +kernel
theorem dc_N_learn_24 : decode cd_N_learn 24 = .ok (.return_, 1) := by decide +kernel
theorem dc_N_takeBit_0 : decode cd_N_takeBit 0 = .ok (.aload_n 0, 1) := by decide +kernel
theorem dc_N_takeBit_1 : decode cd_N_takeBit 1 = .ok (.getfield 58, 3) := by decide +kernel
theorem dc_N_takeBit_4 : decode cd_N_takeBit 4 = .ok (.aload_n 0, 1) := by decide +kernel
theorem dc_N_takeBit_5 : decode cd_N_takeBit 5 = .ok (.getfield 61, 3) := by decide +kernel
theorem dc_N_takeBit_8 : decode cd_N_takeBit 8 = .ok (.ishr, 1) := by decide +kernel
theorem dc_N_takeBit_9 : decode cd_N_takeBit 9 = .ok (.iconst 1, 1) := by decide +kernel
theorem dc_N_takeBit_10 : decode cd_N_takeBit 10 = .ok (.iand, 1) := by decide +kernel
theorem dc_N_takeBit_11 : decode cd_N_takeBit 11 = .ok (.istore_n 1, 1) := by decide +kernel
theorem dc_N_takeBit_12 : decode cd_N_takeBit 12 = .ok (.aload_n 0, 1) := by decide +kernel
theorem dc_N_takeBit_13 : decode cd_N_takeBit 13 = .ok (.aload_n 0, 1) := by decide +kernel
theorem dc_N_takeBit_14 : decode cd_N_takeBit 14 = .ok (.getfield 61, 3) := by decide +kernel
theorem dc_N_takeBit_17 : decode cd_N_takeBit 17 = .ok (.iconst 1, 1) := by decide +kernel
theorem dc_N_takeBit_18 : decode cd_N_takeBit 18 = .ok (.iadd, 1) := by decide +kernel
theorem dc_N_takeBit_19 : decode cd_N_takeBit 19 = .ok (.bipush 16, 2) := by decide +kernel
theorem dc_N_takeBit_21 : decode cd_N_takeBit 21 = .ok (.irem, 1) := by decide +kernel
theorem dc_N_takeBit_22 : decode cd_N_takeBit 22 = .ok (.putfield 61, 3) := by decide +kernel
theorem dc_N_takeBit_25 : decode cd_N_takeBit 25 = .ok (.iload_n 1, 1) := by decide +kernel
theorem dc_N_takeBit_26 : decode cd_N_takeBit 26 = .ok (.ireturn, 1) := by decide +kernel
theorem dc_N_leastLabelThatDoesNotWait_0 : decode cd_N_leastLabelThatDoesNotWait 0 = .ok (.iconst 0, 1) := by decide +kernel
theorem dc_N_leastLabelThatDoesNotWait_1 : decode cd_N_leastLabelThatDoesNotWait 1 = .ok (.istore_n 1, 1) := by decide +kernel
theorem dc_N_leastLabelThatDoesNotWait_2 : decode cd_N_leastLabelThatDoesNotWait 2 = .ok (.iload_n 1, 1) := by decide +kernel
theorem dc_N_leastLabelThatDoesNotWait_3 : decode cd_N_leastLabelThatDoesNotWait 3 = .ok (.iconst 4, 1) := by decide +kernel
theorem dc_N_leastLabelThatDoesNotWait_4 : decode cd_N_leastLabelThatDoesNotWait 4 = .ok (.if_icmp .ge 19, 3) := by decide +kernel
theorem dc_N_leastLabelThatDoesNotWait_7 : decode cd_N_leastLabelThatDoesNotWait 7 = .ok (.aload_n 0, 1) := by decide +kernel
theorem dc_N_leastLabelThatDoesNotWait_8 : decode cd_N_leastLabelThatDoesNotWait 8 = .ok (.iload_n 1, 1) := by decide +kernel
theorem dc_N_leastLabelThatDoesNotWait_9 : decode cd_N_leastLabelThatDoesNotWait 9 = .ok (.invokevirtual 64, 3) := by decide +kernel
theorem dc_N_leastLabelThatDoesNotWait_12 : decode cd_N_leastLabelThatDoesNotWait 12 = .ok (.ifCond .ne 5, 3) := by decide +kernel
theorem dc_N_leastLabelThatDoesNotWait_15 : decode cd_N_leastLabelThatDoesNotWait 15 = .ok (.iload_n 1, 1) := by decide +kernel
theorem dc_N_leastLabelThatDoesNotWait_16 : decode cd_N_leastLabelThatDoesNotWait 16 = .ok (.ireturn, 1) := by decide +kernel
theorem dc_N_leastLabelThatDoesNotWait_17 : decode cd_N_leastLabelThatDoesNotWait 17 = .ok (.iinc 1 1, 3) := by decide +kernel
theorem dc_N_leastLabelThatDoesNotWait_20 : decode cd_N_leastLabelThatDoesNotWait 20 = .ok (.goto (-18), 3) := by decide +kernel
theorem dc_N_leastLabelThatDoesNotWait_23 : decode cd_N_leastLabelThatDoesNotWait 23 = .ok (.iconst (-1), 1) := by decide +kernel
theorem dc_N_leastLabelThatDoesNotWait_24 : decode cd_N_leastLabelThatDoesNotWait 24 = .ok (.ireturn, 1) := by decide +kernel
theorem dc_N_waitingRequests_0 : decode cd_N_waitingRequests 0 = .ok (.iconst 0, 1) := by decide +kernel
theorem dc_N_waitingRequests_1 : decode cd_N_waitingRequests 1 = .ok (.istore_n 1, 1) := by decide +kernel
theorem dc_N_waitingRequests_2 : decode cd_N_waitingRequests 2 = .ok (.iconst 0, 1) := by decide +kernel
theorem dc_N_waitingRequests_3 : decode cd_N_waitingRequests 3 = .ok (.istore_n 2, 1) := by decide +kernel
theorem dc_N_waitingRequests_4 : decode cd_N_waitingRequests 4 = .ok (.iload_n 2, 1) := by decide +kernel
theorem dc_N_waitingRequests_5 : decode cd_N_waitingRequests 5 = .ok (.iconst 4, 1) := by decide +kernel
theorem dc_N_waitingRequests_6 : decode cd_N_waitingRequests 6 = .ok (.if_icmp .ge 20, 3) := by decide +kernel
theorem dc_N_waitingRequests_9 : decode cd_N_waitingRequests 9 = .ok (.aload_n 0, 1) := by decide +kernel
theorem dc_N_waitingRequests_10 : decode cd_N_waitingRequests 10 = .ok (.iload_n 2, 1) := by decide +kernel
theorem dc_N_waitingRequests_11 : decode cd_N_waitingRequests 11 = .ok (.invokevirtual 64, 3) := by decide +kernel
theorem dc_N_waitingRequests_14 : decode cd_N_waitingRequests 14 = .ok (.ifCond .eq 6, 3) := by decide +kernel
theorem dc_N_waitingRequests_17 : decode cd_N_waitingRequests 17 = .ok (.iinc 1 1, 3) := by decide +kernel
theorem dc_N_waitingRequests_20 : decode cd_N_waitingRequests 20 = .ok (.iinc 2 1, 3) := by decide +kernel
theorem dc_N_waitingRequests_23 : decode cd_N_waitingRequests 23 = .ok (.goto (-19), 3) := by decide +kernel
theorem dc_N_waitingRequests_26 : decode cd_N_waitingRequests 26 = .ok (.iload_n 1, 1) := by decide +kernel
theorem dc_N_waitingRequests_27 : decode cd_N_waitingRequests 27 = .ok (.ireturn, 1) := by decide +kernel
theorem dc_N_endLateRequests_0 : decode cd_N_endLateRequests 0 = .ok (.iconst 0, 1) := by decide +kernel
theorem dc_N_endLateRequests_1 : decode cd_N_endLateRequests 1 = .ok (.istore_n 2, 1) := by decide +kernel
theorem dc_N_endLateRequests_2 : decode cd_N_endLateRequests 2 = .ok (.iload_n 2, 1) := by decide +kernel
theorem dc_N_endLateRequests_3 : decode cd_N_endLateRequests 3 = .ok (.iconst 4, 1) := by decide +kernel
theorem dc_N_endLateRequests_4 : decode cd_N_endLateRequests 4 = .ok (.if_icmp .ge 56, 3) := by decide +kernel
theorem dc_N_endLateRequests_7 : decode cd_N_endLateRequests 7 = .ok (.aload_n 0, 1) := by decide +kernel
theorem dc_N_endLateRequests_8 : decode cd_N_endLateRequests 8 = .ok (.getfield 24, 3) := by decide +kernel
theorem dc_N_endLateRequests_11 : decode cd_N_endLateRequests 11 = .ok (.iload_n 2, 1) := by decide +kernel
theorem dc_N_endLateRequests_12 : decode cd_N_endLateRequests 12 = .ok (.aaload, 1) := by decide +kernel
theorem dc_N_endLateRequests_13 : decode cd_N_endLateRequests 13 = .ok (.astore_n 3, 1) := by decide +kernel
theorem dc_N_endLateRequests_14 : decode cd_N_endLateRequests 14 = .ok (.aload_n 3, 1) := by decide +kernel
theorem dc_N_endLateRequests_15 : decode cd_N_endLateRequests 15 = .ok (.ifnull 39, 3) := by decide +kernel
theorem dc_N_endLateRequests_18 : decode cd_N_endLateRequests 18 = .ok (.aload_n 3, 1) := by decide +kernel
theorem dc_N_endLateRequests_19 : decode cd_N_endLateRequests 19 = .ok (.getfield 68, 3) := by decide +kernel
theorem dc_N_endLateRequests_22 : decode cd_N_endLateRequests 22 = .ok (.iconst (-1), 1) := by decide +kernel
theorem dc_N_endLateRequests_23 : decode cd_N_endLateRequests 23 = .ok (.if_icmp .ne 31, 3) := by decide +kernel
theorem dc_N_endLateRequests_26 : decode cd_N_endLateRequests 26 = .ok (.aload_n 3, 1) := by decide +kernel
theorem dc_N_endLateRequests_27 : decode cd_N_endLateRequests 27 = .ok (.getfield 71, 3) := by decide +kernel
theorem dc_N_endLateRequests_30 : decode cd_N_endLateRequests 30 = .ok (.iload_n 1, 1) := by decide +kernel
theorem dc_N_endLateRequests_31 : decode cd_N_endLateRequests 31 = .ok (.if_icmp .gt 23, 3) := by decide +kernel
theorem dc_N_endLateRequests_34 : decode cd_N_endLateRequests 34 = .ok (.aload_n 3, 1) := by decide +kernel
theorem dc_N_endLateRequests_35 : decode cd_N_endLateRequests 35 = .ok (.iconst 4, 1) := by decide +kernel
theorem dc_N_endLateRequests_36 : decode cd_N_endLateRequests 36 = .ok (.invokevirtual 45, 3) := by decide +kernel
theorem dc_N_endLateRequests_39 : decode cd_N_endLateRequests 39 = .ok (.aload_n 3, 1) := by decide +kernel
theorem dc_N_endLateRequests_40 : decode cd_N_endLateRequests 40 = .ok (.getfield 74, 3) := by decide +kernel
theorem dc_N_endLateRequests_43 : decode cd_N_endLateRequests 43 = .ok (.ifCond .ne 11, 3) := by decide +kernel
theorem dc_N_endLateRequests_46 : decode cd_N_endLateRequests 46 = .ok (.aload_n 0, 1) := by decide +kernel
theorem dc_N_endLateRequests_47 : decode cd_N_endLateRequests 47 = .ok (.getfield 18, 3) := by decide +kernel
theorem dc_N_endLateRequests_50 : decode cd_N_endLateRequests 50 = .ok (.aload_n 3, 1) := by decide +kernel
theorem dc_N_endLateRequests_51 : decode cd_N_endLateRequests 51 = .ok (.invokevirtual 77, 3) := by decide +kernel
theorem dc_N_endLateRequests_54 : decode cd_N_endLateRequests 54 = .ok (.iinc 2 1, 3) := by decide +kernel
theorem dc_N_endLateRequests_57 : decode cd_N_endLateRequests 57 = .ok (.goto (-55), 3) := by decide +kernel
theorem dc_N_endLateRequests_60 : decode cd_N_endLateRequests 60 = .ok (.return_, 1) := by decide +kernel
theorem dc_N_waits_0 : decode cd_N_waits 0 = .ok (.aload_n 0, 1) := by decide +kernel
theorem dc_N_waits_1 : decode cd_N_waits 1 = .ok (.getfield 24, 3) := by decide +kernel
theorem dc_N_waits_4 : decode cd_N_waits 4 = .ok (.iload_n 1, 1) := by decide +kernel
theorem dc_N_waits_5 : decode cd_N_waits 5 = .ok (.aaload, 1) := by decide +kernel
theorem dc_N_waits_6 : decode cd_N_waits 6 = .ok (.ifnull 20, 3) := by decide +kernel
theorem dc_N_waits_9 : decode cd_N_waits 9 = .ok (.aload_n 0, 1) := by decide +kernel
theorem dc_N_waits_10 : decode cd_N_waits 10 = .ok (.getfield 24, 3) := by decide +kernel
theorem dc_N_waits_13 : decode cd_N_waits 13 = .ok (.iload_n 1, 1) := by decide +kernel
theorem dc_N_waits_14 : decode cd_N_waits 14 = .ok (.aaload, 1) := by decide +kernel
theorem dc_N_waits_15 : decode cd_N_waits 15 = .ok (.getfield 68, 3) := by decide +kernel
theorem dc_N_waits_18 : decode cd_N_waits 18 = .ok (.iconst (-1), 1) := by decide +kernel
theorem dc_N_waits_19 : decode cd_N_waits 19 = .ok (.if_icmp .ne 7, 3) := by decide +kernel
theorem dc_N_waits_22 : decode cd_N_waits 22 = .ok (.iconst 1, 1) := by decide +kernel
theorem dc_N_waits_23 : decode cd_N_waits 23 = .ok (.goto 4, 3) := by decide +kernel
theorem dc_N_waits_26 : decode cd_N_waits 26 = .ok (.iconst 0, 1) := by decide +kernel
theorem dc_N_waits_27 : decode cd_N_waits 27 = .ok (.ireturn, 1) := by decide +kernel
theorem dc_Q_init_0 : decode cd_Q_init 0 = .ok (.aload_n 0, 1) := by decide +kernel
theorem dc_Q_init_1 : decode cd_Q_init 1 = .ok (.invokespecial 3, 3) := by decide +kernel
theorem dc_Q_init_4 : decode cd_Q_init 4 = .ok (.aload_n 0, 1) := by decide +kernel
theorem dc_Q_init_5 : decode cd_Q_init 5 = .ok (.bipush 6, 2) := by decide +kernel
theorem dc_Q_init_7 : decode cd_Q_init 7 = .ok (.anewarray 9, 3) := by decide +kernel
theorem dc_Q_init_10 : decode cd_Q_init 10 = .ok (.putfield 11, 3) := by decide +kernel
theorem dc_Q_init_13 : decode cd_Q_init 13 = .ok (.return_, 1) := by decide +kernel
theorem dc_Q_isEmpty_0 : decode cd_Q_isEmpty 0 = .ok (.aload_n 0, 1) := by decide +kernel
theorem dc_Q_isEmpty_1 : decode cd_Q_isEmpty 1 = .ok (.getfield 17, 3) := by decide +kernel
theorem dc_Q_isEmpty_4 : decode cd_Q_isEmpty 4 = .ok (.ifCond .ne 7, 3) := by decide +kernel
theorem dc_Q_isEmpty_7 : decode cd_Q_isEmpty 7 = .ok (.iconst 1, 1) := by decide +kernel
theorem dc_Q_isEmpty_8 : decode cd_Q_isEmpty 8 = .ok (.goto 4, 3) := by decide +kernel
theorem dc_Q_isEmpty_11 : decode cd_Q_isEmpty 11 = .ok (.iconst 0, 1) := by decide +kernel
theorem dc_Q_isEmpty_12 : decode cd_Q_isEmpty 12 = .ok (.ireturn, 1) := by decide +kernel
theorem dc_Q_isFull_0 : decode cd_Q_isFull 0 = .ok (.aload_n 0, 1) := by decide +kernel
theorem dc_Q_isFull_1 : decode cd_Q_isFull 1 = .ok (.getfield 17, 3) := by decide +kernel
theorem dc_Q_isFull_4 : decode cd_Q_isFull 4 = .ok (.bipush 6, 2) := by decide +kernel
theorem dc_Q_isFull_6 : decode cd_Q_isFull 6 = .ok (.if_icmp .lt 7, 3) := by decide +kernel
theorem dc_Q_isFull_9 : decode cd_Q_isFull 9 = .ok (.iconst 1, 1) := by decide +kernel
theorem dc_Q_isFull_10 : decode cd_Q_isFull 10 = .ok (.goto 4, 3) := by decide +kernel
theorem dc_Q_isFull_13 : decode cd_Q_isFull 13 = .ok (.iconst 0, 1) := by decide +kernel
theorem dc_Q_isFull_14 : decode cd_Q_isFull 14 = .ok (.ireturn, 1) := by decide +kernel
theorem dc_Q_append_0 : decode cd_Q_append 0 = .ok (.aload_n 0, 1) := by decide +kernel
theorem dc_Q_append_1 : decode cd_Q_append 1 = .ok (.invokevirtual 21, 3) := by decide +kernel
theorem dc_Q_append_4 : decode cd_Q_append 4 = .ok (.ifCond .ne 23, 3) := by decide +kernel
theorem dc_Q_append_7 : decode cd_Q_append 7 = .ok (.aload_n 0, 1) := by decide +kernel
theorem dc_Q_append_8 : decode cd_Q_append 8 = .ok (.getfield 11, 3) := by decide +kernel
theorem dc_Q_append_11 : decode cd_Q_append 11 = .ok (.aload_n 0, 1) := by decide +kernel
theorem dc_Q_append_12 : decode cd_Q_append 12 = .ok (.getfield 17, 3) := by decide +kernel
theorem dc_Q_append_15 : decode cd_Q_append 15 = .ok (.aload_n 1, 1) := by decide +kernel
theorem dc_Q_append_16 : decode cd_Q_append 16 = .ok (.aastore, 1) := by decide +kernel
theorem dc_Q_append_17 : decode cd_Q_append 17 = .ok (.aload_n 0, 1) := by decide +kernel
theorem dc_Q_append_18 : decode cd_Q_append 18 = .ok (.dup, 1) := by decide +kernel
theorem dc_Q_append_19 : decode cd_Q_append 19 = .ok (.getfield 17, 3) := by decide +kernel
theorem dc_Q_append_22 : decode cd_Q_append 22 = .ok (.iconst 1, 1) := by decide +kernel
theorem dc_Q_append_23 : decode cd_Q_append 23 = .ok (.iadd, 1) := by decide +kernel
theorem dc_Q_append_24 : decode cd_Q_append 24 = .ok (.putfield 17, 3) := by decide +kernel
theorem dc_Q_append_27 : decode cd_Q_append 27 = .ok (.return_, 1) := by decide +kernel
theorem dc_Q_takeFirst_0 : decode cd_Q_takeFirst 0 = .ok (.aload_n 0, 1) := by decide +kernel
theorem dc_Q_takeFirst_1 : decode cd_Q_takeFirst 1 = .ok (.invokevirtual 25, 3) := by decide +kernel
theorem dc_Q_takeFirst_4 : decode cd_Q_takeFirst 4 = .ok (.ifCond .eq 5, 3) := by decide +kernel
theorem dc_Q_takeFirst_7 : decode cd_Q_takeFirst 7 = .ok (.aconst_null, 1) := by decide +kernel
theorem dc_Q_takeFirst_8 : decode cd_Q_takeFirst 8 = .ok (.areturn, 1) := by decide +kernel
theorem dc_Q_takeFirst_9 : decode cd_Q_takeFirst 9 = .ok (.aload_n 0, 1) := by decide +kernel
theorem dc_Q_takeFirst_10 : decode cd_Q_takeFirst 10 = .ok (.getfield 11, 3) := by decide +kernel
theorem dc_Q_takeFirst_13 : decode cd_Q_takeFirst 13 = .ok (.iconst 0, 1) := by decide +kernel
theorem dc_Q_takeFirst_14 : decode cd_Q_takeFirst 14 = .ok (.aaload, 1) := by decide +kernel
theorem dc_Q_takeFirst_15 : decode cd_Q_takeFirst 15 = .ok (.astore_n 1, 1) := by decide +kernel
theorem dc_Q_takeFirst_16 : decode cd_Q_takeFirst 16 = .ok (.aload_n 0, 1) := by decide +kernel
theorem dc_Q_takeFirst_17 : decode cd_Q_takeFirst 17 = .ok (.iconst 0, 1) := by decide +kernel
theorem dc_Q_takeFirst_18 : decode cd_Q_takeFirst 18 = .ok (.invokevirtual 28, 3) := by decide +kernel
theorem dc_Q_takeFirst_21 : decode cd_Q_takeFirst 21 = .ok (.aload_n 1, 1) := by decide +kernel
theorem dc_Q_takeFirst_22 : decode cd_Q_takeFirst 22 = .ok (.areturn, 1) := by decide +kernel
theorem dc_Q_drop_0 : decode cd_Q_drop 0 = .ok (.iconst 0, 1) := by decide +kernel
theorem dc_Q_drop_1 : decode cd_Q_drop 1 = .ok (.istore_n 2, 1) := by decide +kernel
theorem dc_Q_drop_2 : decode cd_Q_drop 2 = .ok (.iload_n 2, 1) := by decide +kernel
theorem dc_Q_drop_3 : decode cd_Q_drop 3 = .ok (.aload_n 0, 1) := by decide +kernel
theorem dc_Q_drop_4 : decode cd_Q_drop 4 = .ok (.getfield 17, 3) := by decide +kernel
theorem dc_Q_drop_7 : decode cd_Q_drop 7 = .ok (.if_icmp .ge 25, 3) := by decide +kernel
theorem dc_Q_drop_10 : decode cd_Q_drop 10 = .ok (.aload_n 0, 1) := by decide +kernel
theorem dc_Q_drop_11 : decode cd_Q_drop 11 = .ok (.getfield 11, 3) := by decide +kernel
theorem dc_Q_drop_14 : decode cd_Q_drop 14 = .ok (.iload_n 2, 1) := by decide +kernel
theorem dc_Q_drop_15 : decode cd_Q_drop 15 = .ok (.aaload, 1) := by decide +kernel
theorem dc_Q_drop_16 : decode cd_Q_drop 16 = .ok (.aload_n 1, 1) := by decide +kernel
theorem dc_Q_drop_17 : decode cd_Q_drop 17 = .ok (.if_acmp .ne 9, 3) := by decide +kernel
theorem dc_Q_drop_20 : decode cd_Q_drop 20 = .ok (.aload_n 0, 1) := by decide +kernel
theorem dc_Q_drop_21 : decode cd_Q_drop 21 = .ok (.iload_n 2, 1) := by decide +kernel
theorem dc_Q_drop_22 : decode cd_Q_drop 22 = .ok (.invokevirtual 28, 3) := by decide +kernel
theorem dc_Q_drop_25 : decode cd_Q_drop 25 = .ok (.return_, 1) := by decide +kernel
theorem dc_Q_drop_26 : decode cd_Q_drop 26 = .ok (.iinc 2 1, 3) := by decide +kernel
theorem dc_Q_drop_29 : decode cd_Q_drop 29 = .ok (.goto (-27), 3) := by decide +kernel
theorem dc_Q_drop_32 : decode cd_Q_drop 32 = .ok (.return_, 1) := by decide +kernel
theorem dc_Q_empty_0 : decode cd_Q_empty 0 = .ok (.iconst 0, 1) := by decide +kernel
theorem dc_Q_empty_1 : decode cd_Q_empty 1 = .ok (.istore_n 1, 1) := by decide +kernel
theorem dc_Q_empty_2 : decode cd_Q_empty 2 = .ok (.iload_n 1, 1) := by decide +kernel
theorem dc_Q_empty_3 : decode cd_Q_empty 3 = .ok (.bipush 6, 2) := by decide +kernel
theorem dc_Q_empty_5 : decode cd_Q_empty 5 = .ok (.if_icmp .ge 16, 3) := by decide +kernel
theorem dc_Q_empty_8 : decode cd_Q_empty 8 = .ok (.aload_n 0, 1) := by decide +kernel
theorem dc_Q_empty_9 : decode cd_Q_empty 9 = .ok (.getfield 11, 3) := by decide +kernel
theorem dc_Q_empty_12 : decode cd_Q_empty 12 = .ok (.iload_n 1, 1) := by decide +kernel
theorem dc_Q_empty_13 : decode cd_Q_empty 13 = .ok (.aconst_null, 1) := by decide +kernel
theorem dc_Q_empty_14 : decode cd_Q_empty 14 = .ok (.aastore, 1) := by decide +kernel
theorem dc_Q_empty_15 : decode cd_Q_empty 15 = .ok (.iinc 1 1, 3) := by decide +kernel
theorem dc_Q_empty_18 : decode cd_Q_empty 18 = .ok (.goto (-16), 3) := by decide +kernel
theorem dc_Q_empty_21 : decode cd_Q_empty 21 = .ok (.aload_n 0, 1) := by decide +kernel
theorem dc_Q_empty_22 : decode cd_Q_empty 22 = .ok (.iconst 0, 1) := by decide +kernel
theorem dc_Q_empty_23 : decode cd_Q_empty 23 = .ok (.putfield 17, 3) := by decide +kernel
theorem dc_Q_empty_26 : decode cd_Q_empty 26 = .ok (.return_, 1) := by decide +kernel
theorem dc_Q_removeAt_0 : decode cd_Q_removeAt 0 = .ok (.iload_n 1, 1) := by decide +kernel
theorem dc_Q_removeAt_1 : decode cd_Q_removeAt 1 = .ok (.istore_n 2, 1) := by decide +kernel
theorem dc_Q_removeAt_2 : decode cd_Q_removeAt 2 = .ok (.iload_n 2, 1) := by decide +kernel
theorem dc_Q_removeAt_3 : decode cd_Q_removeAt 3 = .ok (.iconst 1, 1) := by decide +kernel
theorem dc_Q_removeAt_4 : decode cd_Q_removeAt 4 = .ok (.iadd, 1) := by decide +kernel
theorem dc_Q_removeAt_5 : decode cd_Q_removeAt 5 = .ok (.aload_n 0, 1) := by decide +kernel
theorem dc_Q_removeAt_6 : decode cd_Q_removeAt 6 = .ok (.getfield 17, 3) := by decide +kernel
theorem dc_Q_removeAt_9 : decode cd_Q_removeAt 9 = .ok (.if_icmp .ge 23, 3) := by decide +kernel
theorem dc_Q_removeAt_12 : decode cd_Q_removeAt 12 = .ok (.aload_n 0, 1) := by decide +kernel
theorem dc_Q_removeAt_13 : decode cd_Q_removeAt 13 = .ok (.getfield 11, 3) := by decide +kernel
theorem dc_Q_removeAt_16 : decode cd_Q_removeAt 16 = .ok (.iload_n 2, 1) := by decide +kernel
theorem dc_Q_removeAt_17 : decode cd_Q_removeAt 17 = .ok (.aload_n 0, 1) := by decide +kernel
theorem dc_Q_removeAt_18 : decode cd_Q_removeAt 18 = .ok (.getfield 11, 3) := by decide +kernel
theorem dc_Q_removeAt_21 : decode cd_Q_removeAt 21 = .ok (.iload_n 2, 1) := by decide +kernel
theorem dc_Q_removeAt_22 : decode cd_Q_removeAt 22 = .ok (.iconst 1, 1) := by decide +kernel
theorem dc_Q_removeAt_23 : decode cd_Q_removeAt 23 = .ok (.iadd, 1) := by decide +kernel
theorem dc_Q_removeAt_24 : decode cd_Q_removeAt 24 = .ok (.aaload, 1) := by decide +kernel
theorem dc_Q_removeAt_25 : decode cd_Q_removeAt 25 = .ok (.aastore, 1) := by decide +kernel
theorem dc_Q_removeAt_26 : decode cd_Q_removeAt 26 = .ok (.iinc 2 1, 3) := by decide +kernel
theorem dc_Q_removeAt_29 : decode cd_Q_removeAt 29 = .ok (.goto (-27), 3) := by decide +kernel
theorem dc_Q_removeAt_32 : decode cd_Q_removeAt 32 = .ok (.aload_n 0, 1) := by decide +kernel
theorem dc_Q_removeAt_33 : decode cd_Q_removeAt 33 = .ok (.dup, 1) := by decide +kernel
theorem dc_Q_removeAt_34 : decode cd_Q_removeAt 34 = .ok (.getfield 17, 3) := by decide +kernel
theorem dc_Q_removeAt_37 : decode cd_Q_removeAt 37 = .ok (.iconst 1, 1) := by decide +kernel
theorem dc_Q_removeAt_38 : decode cd_Q_removeAt 38 = .ok (.isub, 1) := by decide +kernel
theorem dc_Q_removeAt_39 : decode cd_Q_removeAt 39 = .ok (.putfield 17, 3) := by decide +kernel
theorem dc_Q_removeAt_42 : decode cd_Q_removeAt 42 = .ok (.aload_n 0, 1) := by decide +kernel
theorem dc_Q_removeAt_43 : decode cd_Q_removeAt 43 = .ok (.getfield 11, 3) := by decide +kernel
theorem dc_Q_removeAt_46 : decode cd_Q_removeAt 46 = .ok (.aload_n 0, 1) := by decide +kernel
theorem dc_Q_removeAt_47 : decode cd_Q_removeAt 47 = .ok (.getfield 17, 3) := by decide +kernel
theorem dc_Q_removeAt_50 : decode cd_Q_removeAt 50 = .ok (.aconst_null, 1) := by decide +kernel
theorem dc_Q_removeAt_51 : decode cd_Q_removeAt 51 = .ok (.aastore, 1) := by decide +kernel
theorem dc_Q_removeAt_52 : decode cd_Q_removeAt 52 = .ok (.return_, 1) := by decide +kernel
theorem dc_R_init_0 : decode cd_R_init 0 = .ok (.aload_n 0, 1) := by decide +kernel
theorem dc_R_init_1 : decode cd_R_init 1 = .ok (.invokespecial 3, 3) := by decide +kernel
theorem dc_R_init_4 : decode cd_R_init 4 = .ok (.aload_n 0, 1) := by decide +kernel
theorem dc_R_init_5 : decode cd_R_init 5 = .ok (.iconst (-1), 1) := by decide +kernel
theorem dc_R_init_6 : decode cd_R_init 6 = .ok (.putfield 9, 3) := by decide +kernel
theorem dc_R_init_9 : decode cd_R_init 9 = .ok (.aload_n 0, 1) := by decide +kernel
theorem dc_R_init_10 : decode cd_R_init 10 = .ok (.iload_n 1, 1) := by decide +kernel
theorem dc_R_init_11 : decode cd_R_init 11 = .ok (.putfield 15, 3) := by decide +kernel
theorem dc_R_init_14 : decode cd_R_init 14 = .ok (.aload_n 0, 1) := by decide +kernel
theorem dc_R_init_15 : decode cd_R_init 15 = .ok (.iload_n 2, 1) := by decide +kernel
theorem dc_R_init_16 : decode cd_R_init 16 = .ok (.putfield 18, 3) := by decide +kernel
theorem dc_R_init_19 : decode cd_R_init 19 = .ok (.aload_n 0, 1) := by decide +kernel
theorem dc_R_init_20 : decode cd_R_init 20 = .ok (.iload_n 3, 1) := by decide +kernel
theorem dc_R_init_21 : decode cd_R_init 21 = .ok (.putfield 21, 3) := by decide +kernel
theorem dc_R_init_24 : decode cd_R_init 24 = .ok (.aload_n 0, 1) := by decide +kernel
theorem dc_R_init_25 : decode cd_R_init 25 = .ok (.iload 4, 2) := by decide +kernel
theorem dc_R_init_27 : decode cd_R_init 27 = .ok (.putfield 24, 3) := by decide +kernel
theorem dc_R_init_30 : decode cd_R_init 30 = .ok (.aload_n 0, 1) := by decide +kernel
theorem dc_R_init_31 : decode cd_R_init 31 = .ok (.iload 5, 2) := by decide +kernel
theorem dc_R_init_33 : decode cd_R_init 33 = .ok (.putfield 27, 3) := by decide +kernel
theorem dc_R_init_36 : decode cd_R_init 36 = .ok (.aload_n 0, 1) := by decide +kernel
theorem dc_R_init_37 : decode cd_R_init 37 = .ok (.iload 6, 2) := by decide +kernel
theorem dc_R_init_39 : decode cd_R_init 39 = .ok (.putfield 30, 3) := by decide +kernel
theorem dc_R_init_42 : decode cd_R_init 42 = .ok (.return_, 1) := by decide +kernel
theorem dc_R_endIfItWaits_0 : decode cd_R_endIfItWaits 0 = .ok (.aload_n 0, 1) := by decide +kernel
theorem dc_R_endIfItWaits_1 : decode cd_R_endIfItWaits 1 = .ok (.getfield 9, 3) := by decide +kernel
theorem dc_R_endIfItWaits_4 : decode cd_R_endIfItWaits 4 = .ok (.iconst (-1), 1) := by decide +kernel
theorem dc_R_endIfItWaits_5 : decode cd_R_endIfItWaits 5 = .ok (.if_icmp .ne 8, 3) := by decide +kernel
theorem dc_R_endIfItWaits_8 : decode cd_R_endIfItWaits 8 = .ok (.aload_n 0, 1) := by decide +kernel
theorem dc_R_endIfItWaits_9 : decode cd_R_endIfItWaits 9 = .ok (.iload_n 1, 1) := by decide +kernel
theorem dc_R_endIfItWaits_10 : decode cd_R_endIfItWaits 10 = .ok (.putfield 9, 3) := by decide +kernel
theorem dc_R_endIfItWaits_13 : decode cd_R_endIfItWaits 13 = .ok (.return_, 1) := by decide +kernel
theorem dc_R_workOn_0 : decode cd_R_workOn 0 = .ok (.aload_n 1, 1) := by decide +kernel
theorem dc_R_workOn_1 : decode cd_R_workOn 1 = .ok (.aload_n 0, 1) := by decide +kernel
theorem dc_R_workOn_2 : decode cd_R_workOn 2 = .ok (.getfield 21, 3) := by decide +kernel
theorem dc_R_workOn_5 : decode cd_R_workOn 5 = .ok (.iaload, 1) := by decide +kernel
theorem dc_R_workOn_6 : decode cd_R_workOn 6 = .ok (.istore_n 2, 1) := by decide +kernel
theorem dc_R_workOn_7 : decode cd_R_workOn 7 = .ok (.aload_n 0, 1) := by decide +kernel
theorem dc_R_workOn_8 : decode cd_R_workOn 8 = .ok (.aload_n 0, 1) := by decide +kernel
theorem dc_R_workOn_9 : decode cd_R_workOn 9 = .ok (.getfield 18, 3) := by decide +kernel
theorem dc_R_workOn_12 : decode cd_R_workOn 12 = .ok (.iconst 1, 1) := by decide +kernel
theorem dc_R_workOn_13 : decode cd_R_workOn 13 = .ok (.if_icmp .ne 7, 3) := by decide +kernel
theorem dc_R_workOn_16 : decode cd_R_workOn 16 = .ok (.iconst 0, 1) := by decide +kernel
theorem dc_R_workOn_17 : decode cd_R_workOn 17 = .ok (.goto 4, 3) := by decide +kernel
theorem dc_R_workOn_20 : decode cd_R_workOn 20 = .ok (.iload_n 2, 1) := by decide +kernel
theorem dc_R_workOn_21 : decode cd_R_workOn 21 = .ok (.putfield 33, 3) := by decide +kernel
theorem dc_R_workOn_24 : decode cd_R_workOn 24 = .ok (.aload_n 0, 1) := by decide +kernel
theorem dc_R_workOn_25 : decode cd_R_workOn 25 = .ok (.getfield 18, 3) := by decide +kernel
theorem dc_R_workOn_28 : decode cd_R_workOn 28 = .ok (.iconst 1, 1) := by decide +kernel
theorem dc_R_workOn_29 : decode cd_R_workOn 29 = .ok (.if_icmp .eq 19, 3) := by decide +kernel
theorem dc_R_workOn_32 : decode cd_R_workOn 32 = .ok (.aload_n 0, 1) := by decide +kernel
theorem dc_R_workOn_33 : decode cd_R_workOn 33 = .ok (.getfield 18, 3) := by decide +kernel
theorem dc_R_workOn_36 : decode cd_R_workOn 36 = .ok (.iconst 2, 1) := by decide +kernel
theorem dc_R_workOn_37 : decode cd_R_workOn 37 = .ok (.if_icmp .ne 21, 3) := by decide +kernel
theorem dc_R_workOn_40 : decode cd_R_workOn 40 = .ok (.iload_n 2, 1) := by decide +kernel
theorem dc_R_workOn_41 : decode cd_R_workOn 41 = .ok (.aload_n 0, 1) := by decide +kernel
theorem dc_R_workOn_42 : decode cd_R_workOn 42 = .ok (.getfield 24, 3) := by decide +kernel
theorem dc_R_workOn_45 : decode cd_R_workOn 45 = .ok (.if_icmp .ne 13, 3) := by decide +kernel
theorem dc_R_workOn_48 : decode cd_R_workOn 48 = .ok (.aload_n 1, 1) := by decide +kernel
theorem dc_R_workOn_49 : decode cd_R_workOn 49 = .ok (.aload_n 0, 1) := by decide +kernel
theorem dc_R_workOn_50 : decode cd_R_workOn 50 = .ok (.getfield 21, 3) := by decide +kernel
theorem dc_R_workOn_53 : decode cd_R_workOn 53 = .ok (.aload_n 0, 1) := by decide +kernel
theorem dc_R_workOn_54 : decode cd_R_workOn 54 = .ok (.getfield 27, 3) := by decide +kernel
theorem dc_R_workOn_57 : decode cd_R_workOn 57 = .ok (.iastore, 1) := by decide +kernel
theorem dc_R_workOn_58 : decode cd_R_workOn 58 = .ok (.aload_n 0, 1) := by decide +kernel
theorem dc_R_workOn_59 : decode cd_R_workOn 59 = .ok (.iconst 1, 1) := by decide +kernel
theorem dc_R_workOn_60 : decode cd_R_workOn 60 = .ok (.putfield 36, 3) := by decide +kernel
theorem dc_R_workOn_63 : decode cd_R_workOn 63 = .ok (.return_, 1) := by decide +kernel
