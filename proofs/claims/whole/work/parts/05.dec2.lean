theorem dc_T_init_0 : decode cd_T_init 0 = .ok (.aload_n 0, 1) := by decide +kernel
theorem dc_T_init_1 : decode cd_T_init 1 = .ok (.invokespecial 3, 3) := by decide +kernel
theorem dc_T_init_4 : decode cd_T_init 4 = .ok (.aload_n 0, 1) := by decide +kernel
theorem dc_T_init_5 : decode cd_T_init 5 = .ok (.bipush 36, 2) := by decide +kernel
theorem dc_T_init_7 : decode cd_T_init 7 = .ok (.newarray .boolean, 2) := by decide +kernel
theorem dc_T_init_9 : decode cd_T_init 9 = .ok (.putfield 9, 3) := by decide +kernel
theorem dc_T_init_12 : decode cd_T_init 12 = .ok (.aload_n 0, 1) := by decide +kernel
theorem dc_T_init_13 : decode cd_T_init 13 = .ok (.bipush 12, 2) := by decide +kernel
theorem dc_T_init_15 : decode cd_T_init 15 = .ok (.newarray .int, 2) := by decide +kernel
theorem dc_T_init_17 : decode cd_T_init 17 = .ok (.putfield 15, 3) := by decide +kernel
theorem dc_T_init_20 : decode cd_T_init 20 = .ok (.return_, 1) := by decide +kernel
theorem dc_T_findParents_0 : decode cd_T_findParents 0 = .ok (.aload_n 0, 1) := by decide +kernel
theorem dc_T_findParents_1 : decode cd_T_findParents 1 = .ok (.aload_n 1, 1) := by decide +kernel
theorem dc_T_findParents_2 : decode cd_T_findParents 2 = .ok (.iload_n 3, 1) := by decide +kernel
theorem dc_T_findParents_3 : decode cd_T_findParents 3 = .ok (.invokevirtual 19, 3) := by decide +kernel
theorem dc_T_findParents_6 : decode cd_T_findParents 6 = .ok (.iconst 1, 1) := by decide +kernel
theorem dc_T_findParents_7 : decode cd_T_findParents 7 = .ok (.istore 4, 2) := by decide +kernel
theorem dc_T_findParents_9 : decode cd_T_findParents 9 = .ok (.iload 4, 2) := by decide +kernel
theorem dc_T_findParents_11 : decode cd_T_findParents 11 = .ok (.bipush 24, 2) := by decide +kernel
theorem dc_T_findParents_13 : decode cd_T_findParents 13 = .ok (.if_icmp .gt 29, 3) := by decide +kernel
theorem dc_T_findParents_16 : decode cd_T_findParents 16 = .ok (.aload_n 0, 1) := by decide +kernel
theorem dc_T_findParents_17 : decode cd_T_findParents 17 = .ok (.invokevirtual 23, 3) := by decide +kernel
theorem dc_T_findParents_20 : decode cd_T_findParents 20 = .ok (.ifCond .eq 22, 3) := by decide +kernel
theorem dc_T_findParents_23 : decode cd_T_findParents 23 = .ok (.aload_n 0, 1) := by decide +kernel
theorem dc_T_findParents_24 : decode cd_T_findParents 24 = .ok (.aload_n 2, 1) := by decide +kernel
theorem dc_T_findParents_25 : decode cd_T_findParents 25 = .ok (.iload 4, 2) := by decide +kernel
theorem dc_T_findParents_27 : decode cd_T_findParents 27 = .ok (.invokevirtual 27, 3) := by decide +kernel
theorem dc_T_findParents_30 : decode cd_T_findParents 30 = .ok (.aload_n 0, 1) := by decide +kernel
theorem dc_T_findParents_31 : decode cd_T_findParents 31 = .ok (.aload_n 1, 1) := by decide +kernel
theorem dc_T_findParents_32 : decode cd_T_findParents 32 = .ok (.aload_n 2, 1) := by decide +kernel
theorem dc_T_findParents_33 : decode cd_T_findParents 33 = .ok (.invokevirtual 31, 3) := by decide +kernel
theorem dc_T_findParents_36 : decode cd_T_findParents 36 = .ok (.iinc 4 1, 3) := by decide +kernel
theorem dc_T_findParents_39 : decode cd_T_findParents 39 = .ok (.goto (-30), 3) := by decide +kernel
theorem dc_T_findParents_42 : decode cd_T_findParents 42 = .ok (.aload_n 0, 1) := by decide +kernel
theorem dc_T_findParents_43 : decode cd_T_findParents 43 = .ok (.invokevirtual 23, 3) := by decide +kernel
theorem dc_T_findParents_46 : decode cd_T_findParents 46 = .ok (.ifCond .ne 7, 3) := by decide +kernel
theorem dc_T_findParents_49 : decode cd_T_findParents 49 = .ok (.iconst 1, 1) := by decide +kernel
theorem dc_T_findParents_50 : decode cd_T_findParents 50 = .ok (.goto 4, 3) := by decide +kernel
theorem dc_T_findParents_53 : decode cd_T_findParents 53 = .ok (.iconst 0, 1) := by decide +kernel
theorem dc_T_findParents_54 : decode cd_T_findParents 54 = .ok (.ireturn, 1) := by decide +kernel
theorem dc_T_settle_0 : decode cd_T_settle 0 = .ok (.iconst (-1), 1) := by decide +kernel
theorem dc_T_settle_1 : decode cd_T_settle 1 = .ok (.istore 5, 2) := by decide +kernel
theorem dc_T_settle_3 : decode cd_T_settle 3 = .ok (.iconst (-1), 1) := by decide +kernel
theorem dc_T_settle_4 : decode cd_T_settle 4 = .ok (.istore 6, 2) := by decide +kernel
theorem dc_T_settle_6 : decode cd_T_settle 6 = .ok (.iload 4, 2) := by decide +kernel
theorem dc_T_settle_8 : decode cd_T_settle 8 = .ok (.ifCond .ne 32, 3) := by decide +kernel
theorem dc_T_settle_11 : decode cd_T_settle 11 = .ok (.aload_n 0, 1) := by decide +kernel
theorem dc_T_settle_12 : decode cd_T_settle 12 = .ok (.aload_n 1, 1) := by decide +kernel
theorem dc_T_settle_13 : decode cd_T_settle 13 = .ok (.aload_n 2, 1) := by decide +kernel
theorem dc_T_settle_14 : decode cd_T_settle 14 = .ok (.iload_n 3, 1) := by decide +kernel
theorem dc_T_settle_15 : decode cd_T_settle 15 = .ok (.invokevirtual 35, 3) := by decide +kernel
theorem dc_T_settle_18 : decode cd_T_settle 18 = .ok (.istore 5, 2) := by decide +kernel
theorem dc_T_settle_20 : decode cd_T_settle 20 = .ok (.aload_n 0, 1) := by decide +kernel
theorem dc_T_settle_21 : decode cd_T_settle 21 = .ok (.aload_n 1, 1) := by decide +kernel
theorem dc_T_settle_22 : decode cd_T_settle 22 = .ok (.aload_n 2, 1) := by decide +kernel
theorem dc_T_settle_23 : decode cd_T_settle 23 = .ok (.iload 5, 2) := by decide +kernel
theorem dc_T_settle_25 : decode cd_T_settle 25 = .ok (.iconst 0, 1) := by decide +kernel
theorem dc_T_settle_26 : decode cd_T_settle 26 = .ok (.iconst 0, 1) := by decide +kernel
theorem dc_T_settle_27 : decode cd_T_settle 27 = .ok (.invokevirtual 39, 3) := by decide +kernel
theorem dc_T_settle_30 : decode cd_T_settle 30 = .ok (.pop, 1) := by decide +kernel
theorem dc_T_settle_31 : decode cd_T_settle 31 = .ok (.aload_n 0, 1) := by decide +kernel
theorem dc_T_settle_32 : decode cd_T_settle 32 = .ok (.aload_n 1, 1) := by decide +kernel
theorem dc_T_settle_33 : decode cd_T_settle 33 = .ok (.aload_n 2, 1) := by decide +kernel
theorem dc_T_settle_34 : decode cd_T_settle 34 = .ok (.iload_n 3, 1) := by decide +kernel
theorem dc_T_settle_35 : decode cd_T_settle 35 = .ok (.invokevirtual 43, 3) := by decide +kernel
theorem dc_T_settle_38 : decode cd_T_settle 38 = .ok (.istore 6, 2) := by decide +kernel
theorem dc_T_settle_40 : decode cd_T_settle 40 = .ok (.iconst 0, 1) := by decide +kernel
theorem dc_T_settle_41 : decode cd_T_settle 41 = .ok (.istore 7, 2) := by decide +kernel
theorem dc_T_settle_43 : decode cd_T_settle 43 = .ok (.iload 7, 2) := by decide +kernel
theorem dc_T_settle_45 : decode cd_T_settle 45 = .ok (.bipush 12, 2) := by decide +kernel
theorem dc_T_settle_47 : decode cd_T_settle 47 = .ok (.if_icmp .ge 32, 3) := by decide +kernel
theorem dc_T_settle_50 : decode cd_T_settle 50 = .ok (.aload_n 1, 1) := by decide +kernel
theorem dc_T_settle_51 : decode cd_T_settle 51 = .ok (.iload 7, 2) := by decide +kernel
theorem dc_T_settle_53 : decode cd_T_settle 53 = .ok (.invokevirtual 46, 3) := by decide +kernel
theorem dc_T_settle_56 : decode cd_T_settle 56 = .ok (.iload_n 3, 1) := by decide +kernel
theorem dc_T_settle_57 : decode cd_T_settle 57 = .ok (.if_icmp .ne 16, 3) := by decide +kernel
theorem dc_T_settle_60 : decode cd_T_settle 60 = .ok (.aload_n 2, 1) := by decide +kernel
theorem dc_T_settle_61 : decode cd_T_settle 61 = .ok (.iload 7, 2) := by decide +kernel
theorem dc_T_settle_63 : decode cd_T_settle 63 = .ok (.aaload, 1) := by decide +kernel
theorem dc_T_settle_64 : decode cd_T_settle 64 = .ok (.iload 4, 2) := by decide +kernel
theorem dc_T_settle_66 : decode cd_T_settle 66 = .ok (.iload 5, 2) := by decide +kernel
theorem dc_T_settle_68 : decode cd_T_settle 68 = .ok (.iload 6, 2) := by decide +kernel
theorem dc_T_settle_70 : decode cd_T_settle 70 = .ok (.invokevirtual 52, 3) := by decide +kernel
theorem dc_T_settle_73 : decode cd_T_settle 73 = .ok (.iinc 7 1, 3) := by decide +kernel
theorem dc_T_settle_76 : decode cd_T_settle 76 = .ok (.goto (-33), 3) := by decide +kernel
theorem dc_T_settle_79 : decode cd_T_settle 79 = .ok (.return_, 1) := by decide +kernel
theorem dc_T_openCables_0 : decode cd_T_openCables 0 = .ok (.iconst 0, 1) := by decide +kernel
theorem dc_T_openCables_1 : decode cd_T_openCables 1 = .ok (.istore_n 3, 1) := by decide +kernel
theorem dc_T_openCables_2 : decode cd_T_openCables 2 = .ok (.iload_n 3, 1) := by decide +kernel
theorem dc_T_openCables_3 : decode cd_T_openCables 3 = .ok (.bipush 36, 2) := by decide +kernel
theorem dc_T_openCables_5 : decode cd_T_openCables 5 = .ok (.if_icmp .ge 53, 3) := by decide +kernel
theorem dc_T_openCables_8 : decode cd_T_openCables 8 = .ok (.aload_n 1, 1) := by decide +kernel
theorem dc_T_openCables_9 : decode cd_T_openCables 9 = .ok (.iload_n 3, 1) := by decide +kernel
theorem dc_T_openCables_10 : decode cd_T_openCables 10 = .ok (.iconst 3, 1) := by decide +kernel
theorem dc_T_openCables_11 : decode cd_T_openCables 11 = .ok (.idiv, 1) := by decide +kernel
theorem dc_T_openCables_12 : decode cd_T_openCables 12 = .ok (.invokevirtual 46, 3) := by decide +kernel
theorem dc_T_openCables_15 : decode cd_T_openCables 15 = .ok (.iload_n 2, 1) := by decide +kernel
theorem dc_T_openCables_16 : decode cd_T_openCables 16 = .ok (.if_icmp .ne 7, 3) := by decide +kernel
theorem dc_T_openCables_19 : decode cd_T_openCables 19 = .ok (.iconst 1, 1) := by decide +kernel
theorem dc_T_openCables_20 : decode cd_T_openCables 20 = .ok (.goto 4, 3) := by decide +kernel
theorem dc_T_openCables_23 : decode cd_T_openCables 23 = .ok (.iconst 0, 1) := by decide +kernel
theorem dc_T_openCables_24 : decode cd_T_openCables 24 = .ok (.istore 4, 2) := by decide +kernel
theorem dc_T_openCables_26 : decode cd_T_openCables 26 = .ok (.aload_n 0, 1) := by decide +kernel
theorem dc_T_openCables_27 : decode cd_T_openCables 27 = .ok (.getfield 9, 3) := by decide +kernel
theorem dc_T_openCables_30 : decode cd_T_openCables 30 = .ok (.iload_n 3, 1) := by decide +kernel
theorem dc_T_openCables_31 : decode cd_T_openCables 31 = .ok (.iload 4, 2) := by decide +kernel
theorem dc_T_openCables_33 : decode cd_T_openCables 33 = .ok (.ifCond .eq 17, 3) := by decide +kernel
theorem dc_T_openCables_36 : decode cd_T_openCables 36 = .ok (.aload_n 1, 1) := by decide +kernel
theorem dc_T_openCables_37 : decode cd_T_openCables 37 = .ok (.getfield 58, 3) := by decide +kernel
theorem dc_T_openCables_40 : decode cd_T_openCables 40 = .ok (.iload_n 3, 1) := by decide +kernel
theorem dc_T_openCables_41 : decode cd_T_openCables 41 = .ok (.iaload, 1) := by decide +kernel
theorem dc_T_openCables_42 : decode cd_T_openCables 42 = .ok (.iconst (-1), 1) := by decide +kernel
theorem dc_T_openCables_43 : decode cd_T_openCables 43 = .ok (.if_icmp .eq 7, 3) := by decide +kernel
theorem dc_T_openCables_46 : decode cd_T_openCables 46 = .ok (.iconst 1, 1) := by decide +kernel
theorem dc_T_openCables_47 : decode cd_T_openCables 47 = .ok (.goto 4, 3) := by decide +kernel
theorem dc_T_openCables_50 : decode cd_T_openCables 50 = .ok (.iconst 0, 1) := by decide +kernel
theorem dc_T_openCables_51 : decode cd_T_openCables 51 = .ok (.bastore, 1) := by decide +kernel
theorem dc_T_openCables_52 : decode cd_T_openCables 52 = .ok (.iinc 3 1, 3) := by decide +kernel
theorem dc_T_openCables_55 : decode cd_T_openCables 55 = .ok (.goto (-53), 3) := by decide +kernel
theorem dc_T_openCables_58 : decode cd_T_openCables 58 = .ok (.return_, 1) := by decide +kernel
theorem dc_T_someCableIsOpen_0 : decode cd_T_someCableIsOpen 0 = .ok (.iconst 0, 1) := by decide +kernel
theorem dc_T_someCableIsOpen_1 : decode cd_T_someCableIsOpen 1 = .ok (.istore_n 1, 1) := by decide +kernel
theorem dc_T_someCableIsOpen_2 : decode cd_T_someCableIsOpen 2 = .ok (.iload_n 1, 1) := by decide +kernel
theorem dc_T_someCableIsOpen_3 : decode cd_T_someCableIsOpen 3 = .ok (.bipush 36, 2) := by decide +kernel
theorem dc_T_someCableIsOpen_5 : decode cd_T_someCableIsOpen 5 = .ok (.if_icmp .ge 20, 3) := by decide +kernel
theorem dc_T_someCableIsOpen_8 : decode cd_T_someCableIsOpen 8 = .ok (.aload_n 0, 1) := by decide +kernel
theorem dc_T_someCableIsOpen_9 : decode cd_T_someCableIsOpen 9 = .ok (.getfield 9, 3) := by decide +kernel
theorem dc_T_someCableIsOpen_12 : decode cd_T_someCableIsOpen 12 = .ok (.iload_n 1, 1) := by decide +kernel
theorem dc_T_someCableIsOpen_13 : decode cd_T_someCableIsOpen 13 = .ok (.baload, 1) := by decide +kernel
theorem dc_T_someCableIsOpen_14 : decode cd_T_someCableIsOpen 14 = .ok (.ifCond .eq 5, 3) := by decide +kernel
theorem dc_T_someCableIsOpen_17 : decode cd_T_someCableIsOpen 17 = .ok (.iconst 1, 1) := by decide +kernel
theorem dc_T_someCableIsOpen_18 : decode cd_T_someCableIsOpen 18 = .ok (.ireturn, 1) := by decide +kernel
theorem dc_T_someCableIsOpen_19 : decode cd_T_someCableIsOpen 19 = .ok (.iinc 1 1, 3) := by decide +kernel
theorem dc_T_someCableIsOpen_22 : decode cd_T_someCableIsOpen 22 = .ok (.goto (-20), 3) := by decide +kernel
theorem dc_T_someCableIsOpen_25 : decode cd_T_someCableIsOpen 25 = .ok (.iconst 0, 1) := by decide +kernel
theorem dc_T_someCableIsOpen_26 : decode cd_T_someCableIsOpen 26 = .ok (.ireturn, 1) := by decide +kernel
theorem dc_T_chooseAskers_0 : decode cd_T_chooseAskers 0 = .ok (.iconst 0, 1) := by decide +kernel
theorem dc_T_chooseAskers_1 : decode cd_T_chooseAskers 1 = .ok (.istore_n 3, 1) := by decide +kernel
theorem dc_T_chooseAskers_2 : decode cd_T_chooseAskers 2 = .ok (.iload_n 3, 1) := by decide +kernel
theorem dc_T_chooseAskers_3 : decode cd_T_chooseAskers 3 = .ok (.bipush 12, 2) := by decide +kernel
theorem dc_T_chooseAskers_5 : decode cd_T_chooseAskers 5 = .ok (.if_icmp .ge 50, 3) := by decide +kernel
theorem dc_T_chooseAskers_8 : decode cd_T_chooseAskers 8 = .ok (.aload_n 1, 1) := by decide +kernel
theorem dc_T_chooseAskers_9 : decode cd_T_chooseAskers 9 = .ok (.iload_n 3, 1) := by decide +kernel
theorem dc_T_chooseAskers_10 : decode cd_T_chooseAskers 10 = .ok (.aaload, 1) := by decide +kernel
theorem dc_T_chooseAskers_11 : decode cd_T_chooseAskers 11 = .ok (.getfield 61, 3) := by decide +kernel
theorem dc_T_chooseAskers_14 : decode cd_T_chooseAskers 14 = .ok (.ifCond .eq 12, 3) := by decide +kernel
theorem dc_T_chooseAskers_17 : decode cd_T_chooseAskers 17 = .ok (.iload_n 2, 1) := by decide +kernel
theorem dc_T_chooseAskers_18 : decode cd_T_chooseAskers 18 = .ok (.iconst 4, 1) := by decide +kernel
theorem dc_T_chooseAskers_19 : decode cd_T_chooseAskers 19 = .ok (.if_icmp .gt 7, 3) := by decide +kernel
theorem dc_T_chooseAskers_22 : decode cd_T_chooseAskers 22 = .ok (.iconst 1, 1) := by decide +kernel
theorem dc_T_chooseAskers_23 : decode cd_T_chooseAskers 23 = .ok (.goto 4, 3) := by decide +kernel
theorem dc_T_chooseAskers_26 : decode cd_T_chooseAskers 26 = .ok (.iconst 0, 1) := by decide +kernel
theorem dc_T_chooseAskers_27 : decode cd_T_chooseAskers 27 = .ok (.istore 4, 2) := by decide +kernel
theorem dc_T_chooseAskers_29 : decode cd_T_chooseAskers 29 = .ok (.aload_n 0, 1) := by decide +kernel
theorem dc_T_chooseAskers_30 : decode cd_T_chooseAskers 30 = .ok (.getfield 15, 3) := by decide +kernel
theorem dc_T_chooseAskers_33 : decode cd_T_chooseAskers 33 = .ok (.iload_n 3, 1) := by decide +kernel
theorem dc_T_chooseAskers_34 : decode cd_T_chooseAskers 34 = .ok (.iload 4, 2) := by decide +kernel
theorem dc_T_chooseAskers_36 : decode cd_T_chooseAskers 36 = .ok (.ifCond .eq 7, 3) := by decide +kernel
theorem dc_T_chooseAskers_39 : decode cd_T_chooseAskers 39 = .ok (.iconst (-1), 1) := by decide +kernel
theorem dc_T_chooseAskers_40 : decode cd_T_chooseAskers 40 = .ok (.goto 8, 3) := by decide +kernel
theorem dc_T_chooseAskers_43 : decode cd_T_chooseAskers 43 = .ok (.aload_n 0, 1) := by decide +kernel
theorem dc_T_chooseAskers_44 : decode cd_T_chooseAskers 44 = .ok (.iload_n 3, 1) := by decide +kernel
theorem dc_T_chooseAskers_45 : decode cd_T_chooseAskers 45 = .ok (.invokevirtual 65, 3) := by decide +kernel
theorem dc_T_chooseAskers_48 : decode cd_T_chooseAskers 48 = .ok (.iastore, 1) := by decide +kernel
theorem dc_T_chooseAskers_49 : decode cd_T_chooseAskers 49 = .ok (.iinc 3 1, 3) := by decide +kernel
theorem dc_T_chooseAskers_52 : decode cd_T_chooseAskers 52 = .ok (.goto (-50), 3) := by decide +kernel
theorem dc_T_chooseAskers_55 : decode cd_T_chooseAskers 55 = .ok (.return_, 1) := by decide +kernel
theorem dc_T_onlyOpenSocket_0 : decode cd_T_onlyOpenSocket 0 = .ok (.iconst (-1), 1) := by decide +kernel
theorem dc_T_onlyOpenSocket_1 : decode cd_T_onlyOpenSocket 1 = .ok (.istore_n 2, 1) := by decide +kernel
theorem dc_T_onlyOpenSocket_2 : decode cd_T_onlyOpenSocket 2 = .ok (.iconst 0, 1) := by decide +kernel
theorem dc_T_onlyOpenSocket_3 : decode cd_T_onlyOpenSocket 3 = .ok (.istore_n 3, 1) := by decide +kernel
theorem dc_T_onlyOpenSocket_4 : decode cd_T_onlyOpenSocket 4 = .ok (.iconst 0, 1) := by decide +kernel
theorem dc_T_onlyOpenSocket_5 : decode cd_T_onlyOpenSocket 5 = .ok (.istore 4, 2) := by decide +kernel
theorem dc_T_onlyOpenSocket_7 : decode cd_T_onlyOpenSocket 7 = .ok (.iload 4, 2) := by decide +kernel
theorem dc_T_onlyOpenSocket_9 : decode cd_T_onlyOpenSocket 9 = .ok (.iconst 3, 1) := by decide +kernel
theorem dc_T_onlyOpenSocket_10 : decode cd_T_onlyOpenSocket 10 = .ok (.if_icmp .ge 33, 3) := by decide +kernel
theorem dc_T_onlyOpenSocket_13 : decode cd_T_onlyOpenSocket 13 = .ok (.aload_n 0, 1) := by decide +kernel
theorem dc_T_onlyOpenSocket_14 : decode cd_T_onlyOpenSocket 14 = .ok (.getfield 9, 3) := by decide +kernel
theorem dc_T_onlyOpenSocket_17 : decode cd_T_onlyOpenSocket 17 = .ok (.iload_n 1, 1) := by decide +kernel
theorem dc_T_onlyOpenSocket_18 : decode cd_T_onlyOpenSocket 18 = .ok (.iconst 3, 1) := by decide +kernel
theorem dc_T_onlyOpenSocket_19 : decode cd_T_onlyOpenSocket 19 = .ok (.imul, 1) := by decide +kernel
theorem dc_T_onlyOpenSocket_20 : decode cd_T_onlyOpenSocket 20 = .ok (.iload 4, 2) := by decide +kernel
theorem dc_T_onlyOpenSocket_22 : decode cd_T_onlyOpenSocket 22 = .ok (.iadd, 1) := by decide +kernel
theorem dc_T_onlyOpenSocket_23 : decode cd_T_onlyOpenSocket 23 = .ok (.baload, 1) := by decide +kernel
theorem dc_T_onlyOpenSocket_24 : decode cd_T_onlyOpenSocket 24 = .ok (.ifCond .eq 13, 3) := by decide +kernel
theorem dc_T_onlyOpenSocket_27 : decode cd_T_onlyOpenSocket 27 = .ok (.iload_n 1, 1) := by decide +kernel
theorem dc_T_onlyOpenSocket_28 : decode cd_T_onlyOpenSocket 28 = .ok (.iconst 3, 1) := by decide +kernel
theorem dc_T_onlyOpenSocket_29 : decode cd_T_onlyOpenSocket 29 = .ok (.imul, 1) := by decide +kernel
theorem dc_T_onlyOpenSocket_30 : decode cd_T_onlyOpenSocket 30 = .ok (.iload 4, 2) := by decide +kernel
theorem dc_T_onlyOpenSocket_32 : decode cd_T_onlyOpenSocket 32 = .ok (.iadd, 1) := by decide +kernel
theorem dc_T_onlyOpenSocket_33 : decode cd_T_onlyOpenSocket 33 = .ok (.istore_n 2, 1) := by decide +kernel
theorem dc_T_onlyOpenSocket_34 : decode cd_T_onlyOpenSocket 34 = .ok (.iinc 3 1, 3) := by decide +kernel
theorem dc_T_onlyOpenSocket_37 : decode cd_T_onlyOpenSocket 37 = .ok (.iinc 4 1, 3) := by decide +kernel
theorem dc_T_onlyOpenSocket_40 : decode cd_T_onlyOpenSocket 40 = .ok (.goto (-33), 3) := by decide +kernel
theorem dc_T_onlyOpenSocket_43 : decode cd_T_onlyOpenSocket 43 = .ok (.iload_n 3, 1) := by decide +kernel
theorem dc_T_onlyOpenSocket_44 : decode cd_T_onlyOpenSocket 44 = .ok (.iconst 1, 1) := by decide +kernel
theorem dc_T_onlyOpenSocket_45 : decode cd_T_onlyOpenSocket 45 = .ok (.if_icmp .ne 7, 3) := by decide +kernel
theorem dc_T_onlyOpenSocket_48 : decode cd_T_onlyOpenSocket 48 = .ok (.iload_n 2, 1) := by decide +kernel
theorem dc_T_onlyOpenSocket_49 : decode cd_T_onlyOpenSocket 49 = .ok (.goto 4, 3) := by decide +kernel
theorem dc_T_onlyOpenSocket_52 : decode cd_T_onlyOpenSocket 52 = .ok (.iconst (-1), 1) := by decide +kernel
theorem dc_T_onlyOpenSocket_53 : decode cd_T_onlyOpenSocket 53 = .ok (.ireturn, 1) := by decide +kernel
theorem dc_T_closeAskedCables_0 : decode cd_T_closeAskedCables 0 = .ok (.iconst 0, 1) := by decide +kernel
theorem dc_T_closeAskedCables_1 : decode cd_T_closeAskedCables 1 = .ok (.istore_n 3, 1) := by decide +kernel
theorem dc_T_closeAskedCables_2 : decode cd_T_closeAskedCables 2 = .ok (.iload_n 3, 1) := by decide +kernel
theorem dc_T_closeAskedCables_3 : decode cd_T_closeAskedCables 3 = .ok (.bipush 12, 2) := by decide +kernel
theorem dc_T_closeAskedCables_5 : decode cd_T_closeAskedCables 5 = .ok (.if_icmp .ge 91, 3) := by decide +kernel
theorem dc_T_closeAskedCables_8 : decode cd_T_closeAskedCables 8 = .ok (.aload_n 0, 1) := by decide +kernel
theorem dc_T_closeAskedCables_9 : decode cd_T_closeAskedCables 9 = .ok (.getfield 15, 3) := by decide +kernel
theorem dc_T_closeAskedCables_12 : decode cd_T_closeAskedCables 12 = .ok (.iload_n 3, 1) := by decide +kernel
theorem dc_T_closeAskedCables_13 : decode cd_T_closeAskedCables 13 = .ok (.iaload, 1) := by decide +kernel
theorem dc_T_closeAskedCables_14 : decode cd_T_closeAskedCables 14 = .ok (.istore 4, 2) := by decide +kernel
theorem dc_T_closeAskedCables_16 : decode cd_T_closeAskedCables 16 = .ok (.iload 4, 2) := by decide +kernel
theorem dc_T_closeAskedCables_18 : decode cd_T_closeAskedCables 18 = .ok (.iconst (-1), 1) := by decide +kernel
theorem dc_T_closeAskedCables_19 : decode cd_T_closeAskedCables 19 = .ok (.if_icmp .ne 7, 3) := by decide +kernel
theorem dc_T_closeAskedCables_22 : decode cd_T_closeAskedCables 22 = .ok (.iconst (-1), 1) := by decide +kernel
theorem dc_T_closeAskedCables_23 : decode cd_T_closeAskedCables 23 = .ok (.goto 10, 3) := by decide +kernel
theorem dc_T_closeAskedCables_26 : decode cd_T_closeAskedCables 26 = .ok (.aload_n 1, 1) := by decide +kernel
theorem dc_T_closeAskedCables_27 : decode cd_T_closeAskedCables 27 = .ok (.getfield 58, 3) := by decide +kernel
theorem dc_T_closeAskedCables_30 : decode cd_T_closeAskedCables 30 = .ok (.iload 4, 2) := by decide +kernel
theorem dc_T_closeAskedCables_32 : decode cd_T_closeAskedCables 32 = .ok (.iaload, 1) := by decide +kernel
theorem dc_T_closeAskedCables_33 : decode cd_T_closeAskedCables 33 = .ok (.istore 5, 2) := by decide +kernel
theorem dc_T_closeAskedCables_35 : decode cd_T_closeAskedCables 35 = .ok (.iload 5, 2) := by decide +kernel
theorem dc_T_closeAskedCables_37 : decode cd_T_closeAskedCables 37 = .ok (.iconst (-1), 1) := by decide +kernel
theorem dc_T_closeAskedCables_38 : decode cd_T_closeAskedCables 38 = .ok (.if_icmp .eq 52, 3) := by decide +kernel
theorem dc_T_closeAskedCables_41 : decode cd_T_closeAskedCables 41 = .ok (.iload 5, 2) := by decide +kernel
theorem dc_T_closeAskedCables_43 : decode cd_T_closeAskedCables 43 = .ok (.iconst 3, 1) := by decide +kernel
theorem dc_T_closeAskedCables_44 : decode cd_T_closeAskedCables 44 = .ok (.idiv, 1) := by decide +kernel
theorem dc_T_closeAskedCables_45 : decode cd_T_closeAskedCables 45 = .ok (.istore 6, 2) := by decide +kernel
theorem dc_T_closeAskedCables_47 : decode cd_T_closeAskedCables 47 = .ok (.aload_n 0, 1) := by decide +kernel
theorem dc_T_closeAskedCables_48 : decode cd_T_closeAskedCables 48 = .ok (.getfield 15, 3) := by decide +kernel
theorem dc_T_closeAskedCables_51 : decode cd_T_closeAskedCables 51 = .ok (.iload 6, 2) := by decide +kernel
theorem dc_T_closeAskedCables_53 : decode cd_T_closeAskedCables 53 = .ok (.iaload, 1) := by decide +kernel
theorem dc_T_closeAskedCables_54 : decode cd_T_closeAskedCables 54 = .ok (.iload 5, 2) := by decide +kernel
theorem dc_T_closeAskedCables_56 : decode cd_T_closeAskedCables 56 = .ok (.if_icmp .eq 19, 3) := by decide +kernel
theorem dc_T_closeAskedCables_59 : decode cd_T_closeAskedCables 59 = .ok (.aload_n 0, 1) := by decide +kernel
theorem dc_T_closeAskedCables_60 : decode cd_T_closeAskedCables 60 = .ok (.aload_n 2, 1) := by decide +kernel
theorem dc_T_closeAskedCables_61 : decode cd_T_closeAskedCables 61 = .ok (.iload_n 3, 1) := by decide +kernel
theorem dc_T_closeAskedCables_62 : decode cd_T_closeAskedCables 62 = .ok (.aaload, 1) := by decide +kernel
theorem dc_T_closeAskedCables_63 : decode cd_T_closeAskedCables 63 = .ok (.iload 6, 2) := by decide +kernel
theorem dc_T_closeAskedCables_65 : decode cd_T_closeAskedCables 65 = .ok (.iload 4, 2) := by decide +kernel
theorem dc_T_closeAskedCables_67 : decode cd_T_closeAskedCables 67 = .ok (.iload 5, 2) := by decide +kernel
theorem dc_T_closeAskedCables_69 : decode cd_T_closeAskedCables 69 = .ok (.invokevirtual 68, 3) := by decide +kernel
theorem dc_T_closeAskedCables_72 : decode cd_T_closeAskedCables 72 = .ok (.goto 18, 3) := by decide +kernel
theorem dc_T_closeAskedCables_75 : decode cd_T_closeAskedCables 75 = .ok (.iload_n 3, 1) := by decide +kernel
theorem dc_T_closeAskedCables_76 : decode cd_T_closeAskedCables 76 = .ok (.iload 6, 2) := by decide +kernel
theorem dc_T_closeAskedCables_78 : decode cd_T_closeAskedCables 78 = .ok (.if_icmp .ge 12, 3) := by decide +kernel
theorem dc_T_closeAskedCables_81 : decode cd_T_closeAskedCables 81 = .ok (.aload_n 0, 1) := by decide +kernel
theorem dc_T_closeAskedCables_82 : decode cd_T_closeAskedCables 82 = .ok (.aload_n 2, 1) := by decide +kernel
theorem dc_T_closeAskedCables_83 : decode cd_T_closeAskedCables 83 = .ok (.iload 4, 2) := by decide +kernel
theorem dc_T_closeAskedCables_85 : decode cd_T_closeAskedCables 85 = .ok (.iload 5, 2) := by decide +kernel
theorem dc_T_closeAskedCables_87 : decode cd_T_closeAskedCables 87 = .ok (.invokevirtual 72, 3) := by decide +kernel
theorem dc_T_closeAskedCables_90 : decode cd_T_closeAskedCables 90 = .ok (.iinc 3 1, 3) := by decide +kernel
theorem dc_T_closeAskedCables_93 : decode cd_T_closeAskedCables 93 = .ok (.goto (-91), 3) := by decide +kernel
theorem dc_T_closeAskedCables_96 : decode cd_T_closeAskedCables 96 = .ok (.return_, 1) := by decide +kernel
theorem dc_T_contend_0 : decode cd_T_contend 0 = .ok (.iload_n 2, 1) := by decide +kernel
theorem dc_T_contend_1 : decode cd_T_contend 1 = .ok (.iconst 3, 1) := by decide +kernel
theorem dc_T_contend_2 : decode cd_T_contend 2 = .ok (.idiv, 1) := by decide +kernel
theorem dc_T_contend_3 : decode cd_T_contend 3 = .ok (.istore 4, 2) := by decide +kernel
theorem dc_T_contend_5 : decode cd_T_contend 5 = .ok (.iload_n 3, 1) := by decide +kernel
theorem dc_T_contend_6 : decode cd_T_contend 6 = .ok (.iconst 3, 1) := by decide +kernel
theorem dc_T_contend_7 : decode cd_T_contend 7 = .ok (.idiv, 1) := by decide +kernel
theorem dc_T_contend_8 : decode cd_T_contend 8 = .ok (.istore 5, 2) := by decide +kernel
theorem dc_T_contend_10 : decode cd_T_contend 10 = .ok (.aload_n 1, 1) := by decide +kernel
theorem dc_T_contend_11 : decode cd_T_contend 11 = .ok (.iload 4, 2) := by decide +kernel
theorem dc_T_contend_13 : decode cd_T_contend 13 = .ok (.aaload, 1) := by decide +kernel
theorem dc_T_contend_14 : decode cd_T_contend 14 = .ok (.invokevirtual 76, 3) := by decide +kernel
theorem dc_T_contend_17 : decode cd_T_contend 17 = .ok (.istore 6, 2) := by decide +kernel
theorem dc_T_contend_19 : decode cd_T_contend 19 = .ok (.aload_n 1, 1) := by decide +kernel
theorem dc_T_contend_20 : decode cd_T_contend 20 = .ok (.iload 5, 2) := by decide +kernel
theorem dc_T_contend_22 : decode cd_T_contend 22 = .ok (.aaload, 1) := by decide +kernel
theorem dc_T_contend_23 : decode cd_T_contend 23 = .ok (.invokevirtual 76, 3) := by decide +kernel
theorem dc_T_contend_26 : decode cd_T_contend 26 = .ok (.istore 7, 2) := by decide +kernel
theorem dc_T_contend_28 : decode cd_T_contend 28 = .ok (.iload 6, 2) := by decide +kernel
theorem dc_T_contend_30 : decode cd_T_contend 30 = .ok (.iload 7, 2) := by decide +kernel
theorem dc_T_contend_32 : decode cd_T_contend 32 = .ok (.if_icmp .ge 18, 3) := by decide +kernel
theorem dc_T_contend_35 : decode cd_T_contend 35 = .ok (.aload_n 0, 1) := by decide +kernel
theorem dc_T_contend_36 : decode cd_T_contend 36 = .ok (.aload_n 1, 1) := by decide +kernel
theorem dc_T_contend_37 : decode cd_T_contend 37 = .ok (.iload 4, 2) := by decide +kernel
theorem dc_T_contend_39 : decode cd_T_contend 39 = .ok (.aaload, 1) := by decide +kernel
theorem dc_T_contend_40 : decode cd_T_contend 40 = .ok (.iload 5, 2) := by decide +kernel
theorem dc_T_contend_42 : decode cd_T_contend 42 = .ok (.iload_n 2, 1) := by decide +kernel
theorem dc_T_contend_43 : decode cd_T_contend 43 = .ok (.iload_n 3, 1) := by decide +kernel
theorem dc_T_contend_44 : decode cd_T_contend 44 = .ok (.invokevirtual 68, 3) := by decide +kernel
theorem dc_T_contend_47 : decode cd_T_contend 47 = .ok (.goto 22, 3) := by decide +kernel
theorem dc_T_contend_50 : decode cd_T_contend 50 = .ok (.iload 6, 2) := by decide +kernel
theorem dc_T_contend_52 : decode cd_T_contend 52 = .ok (.iload 7, 2) := by decide +kernel
theorem dc_T_contend_54 : decode cd_T_contend 54 = .ok (.if_icmp .le 15, 3) := by decide +kernel
theorem dc_T_contend_57 : decode cd_T_contend 57 = .ok (.aload_n 0, 1) := by decide +kernel
theorem dc_T_contend_58 : decode cd_T_contend 58 = .ok (.aload_n 1, 1) := by decide +kernel
theorem dc_T_contend_59 : decode cd_T_contend 59 = .ok (.iload 5, 2) := by decide +kernel
theorem dc_T_contend_61 : decode cd_T_contend 61 = .ok (.aaload, 1) := by decide +kernel
theorem dc_T_contend_62 : decode cd_T_contend 62 = .ok (.iload 4, 2) := by decide +kernel
theorem dc_T_contend_64 : decode cd_T_contend 64 = .ok (.iload_n 2, 1) := by decide +kernel
theorem dc_T_contend_65 : decode cd_T_contend 65 = .ok (.iload_n 3, 1) := by decide +kernel
theorem dc_T_contend_66 : decode cd_T_contend 66 = .ok (.invokevirtual 68, 3) := by decide +kernel
theorem dc_T_contend_69 : decode cd_T_contend 69 = .ok (.return_, 1) := by decide +kernel
theorem dc_T_close_0 : decode cd_T_close 0 = .ok (.aload_n 1, 1) := by decide +kernel
theorem dc_T_close_1 : decode cd_T_close 1 = .ok (.iload_n 2, 1) := by decide +kernel
theorem dc_T_close_2 : decode cd_T_close 2 = .ok (.putfield 80, 3) := by decide +kernel
theorem dc_T_close_5 : decode cd_T_close 5 = .ok (.aload_n 0, 1) := by decide +kernel
theorem dc_T_close_6 : decode cd_T_close 6 = .ok (.getfield 9, 3) := by decide +kernel
theorem dc_T_close_9 : decode cd_T_close 9 = .ok (.iload_n 3, 1) := by decide +kernel
theorem dc_T_close_10 : decode cd_T_close 10 = .ok (.iconst 0, 1) := by decide +kernel
theorem dc_T_close_11 : decode cd_T_close 11 = .ok (.bastore, 1) := by decide +kernel
theorem dc_T_close_12 : decode cd_T_close 12 = .ok (.aload_n 0, 1) := by decide +kernel
theorem dc_T_close_13 : decode cd_T_close 13 = .ok (.getfield 9, 3) := by decide +kernel
theorem dc_T_close_16 : decode cd_T_close 16 = .ok (.iload 4, 2) := by decide +kernel
theorem dc_T_close_18 : decode cd_T_close 18 = .ok (.iconst 0, 1) := by decide +kernel
theorem dc_T_close_19 : decode cd_T_close 19 = .ok (.bastore, 1) := by decide +kernel
theorem dc_T_close_20 : decode cd_T_close 20 = .ok (.return_, 1) := by decide +kernel
theorem dc_T_findRoot_0 : decode cd_T_findRoot 0 = .ok (.iconst 0, 1) := by decide +kernel
theorem dc_T_findRoot_1 : decode cd_T_findRoot 1 = .ok (.istore 4, 2) := by decide +kernel
theorem dc_T_findRoot_3 : decode cd_T_findRoot 3 = .ok (.iload 4, 2) := by decide +kernel
theorem dc_T_findRoot_5 : decode cd_T_findRoot 5 = .ok (.bipush 12, 2) := by decide +kernel
theorem dc_T_findRoot_7 : decode cd_T_findRoot 7 = .ok (.if_icmp .ge 33, 3) := by decide +kernel
theorem dc_T_findRoot_10 : decode cd_T_findRoot 10 = .ok (.aload_n 1, 1) := by decide +kernel
theorem dc_T_findRoot_11 : decode cd_T_findRoot 11 = .ok (.iload 4, 2) := by decide +kernel
theorem dc_T_findRoot_13 : decode cd_T_findRoot 13 = .ok (.invokevirtual 46, 3) := by decide +kernel
theorem dc_T_findRoot_16 : decode cd_T_findRoot 16 = .ok (.iload_n 3, 1) := by decide +kernel
theorem dc_T_findRoot_17 : decode cd_T_findRoot 17 = .ok (.if_icmp .ne 17, 3) := by decide +kernel
theorem dc_T_findRoot_20 : decode cd_T_findRoot 20 = .ok (.aload_n 2, 1) := by decide +kernel
theorem dc_T_findRoot_21 : decode cd_T_findRoot 21 = .ok (.iload 4, 2) := by decide +kernel
theorem dc_T_findRoot_23 : decode cd_T_findRoot 23 = .ok (.aaload, 1) := by decide +kernel
theorem dc_T_findRoot_24 : decode cd_T_findRoot 24 = .ok (.getfield 80, 3) := by decide +kernel
theorem dc_T_findRoot_27 : decode cd_T_findRoot 27 = .ok (.iconst (-1), 1) := by decide +kernel
theorem dc_T_findRoot_28 : decode cd_T_findRoot 28 = .ok (.if_icmp .ne 6, 3) := by decide +kernel
theorem dc_T_findRoot_31 : decode cd_T_findRoot 31 = .ok (.iload 4, 2) := by decide +kernel
theorem dc_T_findRoot_33 : decode cd_T_findRoot 33 = .ok (.ireturn, 1) := by decide +kernel
theorem dc_T_findRoot_34 : decode cd_T_findRoot 34 = .ok (.iinc 4 1, 3) := by decide +kernel
theorem dc_T_findRoot_37 : decode cd_T_findRoot 37 = .ok (.goto (-34), 3) := by decide +kernel
theorem dc_T_findRoot_40 : decode cd_T_findRoot 40 = .ok (.iload_n 3, 1) := by decide +kernel
theorem dc_T_findRoot_41 : decode cd_T_findRoot 41 = .ok (.ireturn, 1) := by decide +kernel
theorem dc_T_giveNumbers_0 : decode cd_T_giveNumbers 0 = .ok (.iload 5, 2) := by decide +kernel
theorem dc_T_giveNumbers_2 : decode cd_T_giveNumbers 2 = .ok (.bipush 12, 2) := by decide +kernel
theorem dc_T_giveNumbers_4 : decode cd_T_giveNumbers 4 = .ok (.if_icmp .lt 6, 3) := by decide +kernel
theorem dc_T_giveNumbers_7 : decode cd_T_giveNumbers 7 = .ok (.iload 4, 2) := by decide +kernel
theorem dc_T_giveNumbers_9 : decode cd_T_giveNumbers 9 = .ok (.ireturn, 1) := by decide +kernel
theorem dc_T_giveNumbers_10 : decode cd_T_giveNumbers 10 = .ok (.iload 4, 2) := by decide +kernel
theorem dc_T_giveNumbers_12 : decode cd_T_giveNumbers 12 = .ok (.istore 6, 2) := by decide +kernel
theorem dc_T_giveNumbers_14 : decode cd_T_giveNumbers 14 = .ok (.iconst 0, 1) := by decide +kernel
theorem dc_T_giveNumbers_15 : decode cd_T_giveNumbers 15 = .ok (.istore 7, 2) := by decide +kernel
theorem dc_T_giveNumbers_17 : decode cd_T_giveNumbers 17 = .ok (.iload 7, 2) := by decide +kernel
theorem dc_T_giveNumbers_19 : decode cd_T_giveNumbers 19 = .ok (.iconst 3, 1) := by decide +kernel
theorem dc_T_giveNumbers_20 : decode cd_T_giveNumbers 20 = .ok (.if_icmp .ge 51, 3) := by decide +kernel
theorem dc_T_giveNumbers_23 : decode cd_T_giveNumbers 23 = .ok (.aload_n 1, 1) := by decide +kernel
theorem dc_T_giveNumbers_24 : decode cd_T_giveNumbers 24 = .ok (.iload_n 3, 1) := by decide +kernel
theorem dc_T_giveNumbers_25 : decode cd_T_giveNumbers 25 = .ok (.iload 7, 2) := by decide +kernel
theorem dc_T_giveNumbers_27 : decode cd_T_giveNumbers 27 = .ok (.invokevirtual 84, 3) := by decide +kernel
theorem dc_T_giveNumbers_30 : decode cd_T_giveNumbers 30 = .ok (.istore 8, 2) := by decide +kernel
theorem dc_T_giveNumbers_32 : decode cd_T_giveNumbers 32 = .ok (.iload 8, 2) := by decide +kernel
theorem dc_T_giveNumbers_34 : decode cd_T_giveNumbers 34 = .ok (.iconst (-1), 1) := by decide +kernel
theorem dc_T_giveNumbers_35 : decode cd_T_giveNumbers 35 = .ok (.if_icmp .eq 30, 3) := by decide +kernel
theorem dc_T_giveNumbers_38 : decode cd_T_giveNumbers 38 = .ok (.aload_n 2, 1) := by decide +kernel
theorem dc_T_giveNumbers_39 : decode cd_T_giveNumbers 39 = .ok (.iload 8, 2) := by decide +kernel
theorem dc_T_giveNumbers_41 : decode cd_T_giveNumbers 41 = .ok (.aaload, 1) := by decide +kernel
theorem dc_T_giveNumbers_42 : decode cd_T_giveNumbers 42 = .ok (.getfield 80, 3) := by decide +kernel
theorem dc_T_giveNumbers_45 : decode cd_T_giveNumbers 45 = .ok (.iload_n 3, 1) := by decide +kernel
theorem dc_T_giveNumbers_46 : decode cd_T_giveNumbers 46 = .ok (.if_icmp .ne 19, 3) := by decide +kernel
theorem dc_T_giveNumbers_49 : decode cd_T_giveNumbers 49 = .ok (.aload_n 0, 1) := by decide +kernel
theorem dc_T_giveNumbers_50 : decode cd_T_giveNumbers 50 = .ok (.aload_n 1, 1) := by decide +kernel
theorem dc_T_giveNumbers_51 : decode cd_T_giveNumbers 51 = .ok (.aload_n 2, 1) := by decide +kernel
theorem dc_T_giveNumbers_52 : decode cd_T_giveNumbers 52 = .ok (.iload 8, 2) := by decide +kernel
theorem dc_T_giveNumbers_54 : decode cd_T_giveNumbers 54 = .ok (.iload 6, 2) := by decide +kernel
theorem dc_T_giveNumbers_56 : decode cd_T_giveNumbers 56 = .ok (.iload 5, 2) := by decide +kernel
theorem dc_T_giveNumbers_58 : decode cd_T_giveNumbers 58 = .ok (.iconst 1, 1) := by decide +kernel
theorem dc_T_giveNumbers_59 : decode cd_T_giveNumbers 59 = .ok (.iadd, 1) := by decide +kernel
theorem dc_T_giveNumbers_60 : decode cd_T_giveNumbers 60 = .ok (.invokevirtual 39, 3) := by decide +kernel
theorem dc_T_giveNumbers_63 : decode cd_T_giveNumbers 63 = .ok (.istore 6, 2) := by decide +kernel
theorem dc_T_giveNumbers_65 : decode cd_T_giveNumbers 65 = .ok (.iinc 7 1, 3) := by decide +kernel
theorem dc_T_giveNumbers_68 : decode cd_T_giveNumbers 68 = .ok (.goto (-51), 3) := by decide +kernel
theorem dc_T_giveNumbers_71 : decode cd_T_giveNumbers 71 = .ok (.aload_n 2, 1) := by decide +kernel
theorem dc_T_giveNumbers_72 : decode cd_T_giveNumbers 72 = .ok (.iload_n 3, 1) := by decide +kernel
theorem dc_T_giveNumbers_73 : decode cd_T_giveNumbers 73 = .ok (.aaload, 1) := by decide +kernel
theorem dc_T_giveNumbers_74 : decode cd_T_giveNumbers 74 = .ok (.iload 6, 2) := by decide +kernel
theorem dc_T_giveNumbers_76 : decode cd_T_giveNumbers 76 = .ok (.putfield 88, 3) := by decide +kernel
theorem dc_T_giveNumbers_79 : decode cd_T_giveNumbers 79 = .ok (.iload 6, 2) := by decide +kernel
theorem dc_T_giveNumbers_81 : decode cd_T_giveNumbers 81 = .ok (.iconst 1, 1) := by decide +kernel
theorem dc_T_giveNumbers_82 : decode cd_T_giveNumbers 82 = .ok (.iadd, 1) := by decide +kernel
theorem dc_T_giveNumbers_83 : decode cd_T_giveNumbers 83 = .ok (.ireturn, 1) := by decide +kernel
theorem dc_T_findManager_0 : decode cd_T_findManager 0 = .ok (.iconst (-1), 1) := by decide +kernel
theorem dc_T_findManager_1 : decode cd_T_findManager 1 = .ok (.istore 4, 2) := by decide +kernel
theorem dc_T_findManager_3 : decode cd_T_findManager 3 = .ok (.iconst (-1), 1) := by decide +kernel
theorem dc_T_findManager_4 : decode cd_T_findManager 4 = .ok (.istore 5, 2) := by decide +kernel
theorem dc_T_findManager_6 : decode cd_T_findManager 6 = .ok (.iconst 0, 1) := by decide +kernel
theorem dc_T_findManager_7 : decode cd_T_findManager 7 = .ok (.istore 6, 2) := by decide +kernel
theorem dc_T_findManager_9 : decode cd_T_findManager 9 = .ok (.iload 6, 2) := by decide +kernel
theorem dc_T_findManager_11 : decode cd_T_findManager 11 = .ok (.bipush 12, 2) := by decide +kernel
theorem dc_T_findManager_13 : decode cd_T_findManager 13 = .ok (.if_icmp .ge 66, 3) := by decide +kernel
theorem dc_T_findManager_16 : decode cd_T_findManager 16 = .ok (.aload_n 1, 1) := by decide +kernel
theorem dc_T_findManager_17 : decode cd_T_findManager 17 = .ok (.iload 6, 2) := by decide +kernel
theorem dc_T_findManager_19 : decode cd_T_findManager 19 = .ok (.invokevirtual 46, 3) := by decide +kernel
theorem dc_T_findManager_22 : decode cd_T_findManager 22 = .ok (.iload_n 3, 1) := by decide +kernel
theorem dc_T_findManager_23 : decode cd_T_findManager 23 = .ok (.if_icmp .ne 17, 3) := by decide +kernel
theorem dc_T_findManager_26 : decode cd_T_findManager 26 = .ok (.aload_n 2, 1) := by decide +kernel
theorem dc_T_findManager_27 : decode cd_T_findManager 27 = .ok (.iload 6, 2) := by decide +kernel
theorem dc_T_findManager_29 : decode cd_T_findManager 29 = .ok (.aaload, 1) := by decide +kernel
theorem dc_T_findManager_30 : decode cd_T_findManager 30 = .ok (.getfield 91, 3) := by decide +kernel
theorem dc_T_findManager_33 : decode cd_T_findManager 33 = .ok (.ifCond .eq 7, 3) := by decide +kernel
theorem dc_T_findManager_36 : decode cd_T_findManager 36 = .ok (.iconst 1, 1) := by decide +kernel
theorem dc_T_findManager_37 : decode cd_T_findManager 37 = .ok (.goto 4, 3) := by decide +kernel
theorem dc_T_findManager_40 : decode cd_T_findManager 40 = .ok (.iconst 0, 1) := by decide +kernel
theorem dc_T_findManager_41 : decode cd_T_findManager 41 = .ok (.istore 7, 2) := by decide +kernel
theorem dc_T_findManager_43 : decode cd_T_findManager 43 = .ok (.iload 7, 2) := by decide +kernel
theorem dc_T_findManager_45 : decode cd_T_findManager 45 = .ok (.ifCond .eq 28, 3) := by decide +kernel
theorem dc_T_findManager_48 : decode cd_T_findManager 48 = .ok (.aload_n 2, 1) := by decide +kernel
theorem dc_T_findManager_49 : decode cd_T_findManager 49 = .ok (.iload 6, 2) := by decide +kernel
theorem dc_T_findManager_51 : decode cd_T_findManager 51 = .ok (.aaload, 1) := by decide +kernel
theorem dc_T_findManager_52 : decode cd_T_findManager 52 = .ok (.getfield 88, 3) := by decide +kernel
theorem dc_T_findManager_55 : decode cd_T_findManager 55 = .ok (.iload 5, 2) := by decide +kernel
theorem dc_T_findManager_57 : decode cd_T_findManager 57 = .ok (.if_icmp .le 16, 3) := by decide +kernel
theorem dc_T_findManager_60 : decode cd_T_findManager 60 = .ok (.iload 6, 2) := by decide +kernel
theorem dc_T_findManager_62 : decode cd_T_findManager 62 = .ok (.istore 4, 2) := by decide +kernel
theorem dc_T_findManager_64 : decode cd_T_findManager 64 = .ok (.aload_n 2, 1) := by decide +kernel
theorem dc_T_findManager_65 : decode cd_T_findManager 65 = .ok (.iload 6, 2) := by decide +kernel
theorem dc_T_findManager_67 : decode cd_T_findManager 67 = .ok (.aaload, 1) := by decide +kernel
theorem dc_T_findManager_68 : decode cd_T_findManager 68 = .ok (.getfield 88, 3) := by decide +kernel
theorem dc_T_findManager_71 : decode cd_T_findManager 71 = .ok (.istore 5, 2) := by decide +kernel
theorem dc_T_findManager_73 : decode cd_T_findManager 73 = .ok (.iinc 6 1, 3) := by decide +kernel
theorem dc_T_findManager_76 : decode cd_T_findManager 76 = .ok (.goto (-67), 3) := by decide +kernel
theorem dc_T_findManager_79 : decode cd_T_findManager 79 = .ok (.iload 4, 2) := by decide +kernel
theorem dc_T_findManager_81 : decode cd_T_findManager 81 = .ok (.ireturn, 1) := by decide +kernel
theorem dc_W_init_0 : decode cd_W_init 0 = .ok (.aload_n 0, 1) := by decide +kernel
theorem dc_W_init_1 : decode cd_W_init 1 = .ok (.invokespecial 3, 3) := by decide +kernel
theorem dc_W_init_4 : decode cd_W_init 4 = .ok (.aload_n 0, 1) := by decide +kernel
theorem dc_W_init_5 : decode cd_W_init 5 = .ok (.bipush 36, 2) := by decide +kernel
theorem dc_W_init_7 : decode cd_W_init 7 = .ok (.newarray .int, 2) := by decide +kernel
theorem dc_W_init_9 : decode cd_W_init 9 = .ok (.putfield 9, 3) := by decide +kernel
theorem dc_W_init_12 : decode cd_W_init 12 = .ok (.aload_n 0, 1) := by decide +kernel
theorem dc_W_init_13 : decode cd_W_init 13 = .ok (.bipush 12, 2) := by decide +kernel
theorem dc_W_init_15 : decode cd_W_init 15 = .ok (.newarray .int, 2) := by decide +kernel
theorem dc_W_init_17 : decode cd_W_init 17 = .ok (.putfield 15, 3) := by decide +kernel
theorem dc_W_init_20 : decode cd_W_init 20 = .ok (.aload_n 0, 1) := by decide +kernel
theorem dc_W_init_21 : decode cd_W_init 21 = .ok (.getfield 9, 3) := by decide +kernel
theorem dc_W_init_24 : decode cd_W_init 24 = .ok (.iconst (-1), 1) := by decide +kernel
theorem dc_W_init_25 : decode cd_W_init 25 = .ok (.invokestatic 18, 3) := by decide +kernel
theorem dc_W_init_28 : decode cd_W_init 28 = .ok (.aload_n 0, 1) := by decide +kernel
theorem dc_W_init_29 : decode cd_W_init 29 = .ok (.invokevirtual 24, 3) := by decide +kernel
theorem dc_W_init_32 : decode cd_W_init 32 = .ok (.return_, 1) := by decide +kernel
theorem dc_W_join_0 : decode cd_W_join 0 = .ok (.aload_n 0, 1) := by decide +kernel
theorem dc_W_join_1 : decode cd_W_join 1 = .ok (.getfield 9, 3) := by decide +kernel
theorem dc_W_join_4 : decode cd_W_join 4 = .ok (.iload_n 1, 1) := by decide +kernel
theorem dc_W_join_5 : decode cd_W_join 5 = .ok (.iconst 3, 1) := by decide +kernel
theorem dc_W_join_6 : decode cd_W_join 6 = .ok (.imul, 1) := by decide +kernel
theorem dc_W_join_7 : decode cd_W_join 7 = .ok (.iload_n 2, 1) := by decide +kernel
theorem dc_W_join_8 : decode cd_W_join 8 = .ok (.iadd, 1) := by decide +kernel
theorem dc_W_join_9 : decode cd_W_join 9 = .ok (.iload_n 3, 1) := by decide +kernel
theorem dc_W_join_10 : decode cd_W_join 10 = .ok (.iconst 3, 1) := by decide +kernel
theorem dc_W_join_11 : decode cd_W_join 11 = .ok (.imul, 1) := by decide +kernel
theorem dc_W_join_12 : decode cd_W_join 12 = .ok (.iload 4, 2) := by decide +kernel
theorem dc_W_join_14 : decode cd_W_join 14 = .ok (.iadd, 1) := by decide +kernel
theorem dc_W_join_15 : decode cd_W_join 15 = .ok (.iastore, 1) := by decide +kernel
theorem dc_W_join_16 : decode cd_W_join 16 = .ok (.aload_n 0, 1) := by decide +kernel
theorem dc_W_join_17 : decode cd_W_join 17 = .ok (.getfield 9, 3) := by decide +kernel
theorem dc_W_join_20 : decode cd_W_join 20 = .ok (.iload_n 3, 1) := by decide +kernel
theorem dc_W_join_21 : decode cd_W_join 21 = .ok (.iconst 3, 1) := by decide +kernel
theorem dc_W_join_22 : decode cd_W_join 22 = .ok (.imul, 1) := by decide +kernel
theorem dc_W_join_23 : decode cd_W_join 23 = .ok (.iload 4, 2) := by decide +kernel
theorem dc_W_join_25 : decode cd_W_join 25 = .ok (.iadd, 1) := by decide +kernel
theorem dc_W_join_26 : decode cd_W_join 26 = .ok (.iload_n 1, 1) := by decide +kernel
theorem dc_W_join_27 : decode cd_W_join 27 = .ok (.iconst 3, 1) := by decide +kernel
theorem dc_W_join_28 : decode cd_W_join 28 = .ok (.imul, 1) := by decide +kernel
theorem dc_W_join_29 : decode cd_W_join 29 = .ok (.iload_n 2, 1) := by decide +kernel
theorem dc_W_join_30 : decode cd_W_join 30 = .ok (.iadd, 1) := by decide +kernel
theorem dc_W_join_31 : decode cd_W_join 31 = .ok (.iastore, 1) := by decide +kernel
theorem dc_W_join_32 : decode cd_W_join 32 = .ok (.aload_n 0, 1) := by decide +kernel
theorem dc_W_join_33 : decode cd_W_join 33 = .ok (.dup, 1) := by decide +kernel
theorem dc_W_join_34 : decode cd_W_join 34 = .ok (.getfield 27, 3) := by decide +kernel
theorem dc_W_join_37 : decode cd_W_join 37 = .ok (.iconst 1, 1) := by decide +kernel
theorem dc_W_join_38 : decode cd_W_join 38 = .ok (.iadd, 1) := by decide +kernel
theorem dc_W_join_39 : decode cd_W_join 39 = .ok (.putfield 27, 3) := by decide +kernel
theorem dc_W_join_42 : decode cd_W_join 42 = .ok (.aload_n 0, 1) := by decide +kernel
theorem dc_W_join_43 : decode cd_W_join 43 = .ok (.invokevirtual 24, 3) := by decide +kernel
theorem dc_W_join_46 : decode cd_W_join 46 = .ok (.return_, 1) := by decide +kernel
theorem dc_W_part_0 : decode cd_W_part 0 = .ok (.iload_n 1, 1) := by decide +kernel
theorem dc_W_part_1 : decode cd_W_part 1 = .ok (.iconst 3, 1) := by decide +kernel
theorem dc_W_part_2 : decode cd_W_part 2 = .ok (.imul, 1) := by decide +kernel
theorem dc_W_part_3 : decode cd_W_part 3 = .ok (.iload_n 2, 1) := by decide +kernel
theorem dc_W_part_4 : decode cd_W_part 4 = .ok (.iadd, 1) := by decide +kernel
theorem dc_W_part_5 : decode cd_W_part 5 = .ok (.istore_n 3, 1) := by decide +kernel
theorem dc_W_part_6 : decode cd_W_part 6 = .ok (.aload_n 0, 1) := by decide +kernel
theorem dc_W_part_7 : decode cd_W_part 7 = .ok (.getfield 9, 3) := by decide +kernel
theorem dc_W_part_10 : decode cd_W_part 10 = .ok (.iload_n 3, 1) := by decide +kernel
theorem dc_W_part_11 : decode cd_W_part 11 = .ok (.iaload, 1) := by decide +kernel
theorem dc_W_part_12 : decode cd_W_part 12 = .ok (.istore 4, 2) := by decide +kernel
theorem dc_W_part_14 : decode cd_W_part 14 = .ok (.iload 4, 2) := by decide +kernel
theorem dc_W_part_16 : decode cd_W_part 16 = .ok (.iconst (-1), 1) := by decide +kernel
theorem dc_W_part_17 : decode cd_W_part 17 = .ok (.if_icmp .ne 4, 3) := by decide +kernel
theorem dc_W_part_20 : decode cd_W_part 20 = .ok (.return_, 1) := by decide +kernel
theorem dc_W_part_21 : decode cd_W_part 21 = .ok (.aload_n 0, 1) := by decide +kernel
theorem dc_W_part_22 : decode cd_W_part 22 = .ok (.getfield 9, 3) := by decide +kernel
theorem dc_W_part_25 : decode cd_W_part 25 = .ok (.iload_n 3, 1) := by decide +kernel
theorem dc_W_part_26 : decode cd_W_part 26 = .ok (.iconst (-1), 1) := by decide +kernel
theorem dc_W_part_27 : decode cd_W_part 27 = .ok (.iastore, 1) := by decide +kernel
theorem dc_W_part_28 : decode cd_W_part 28 = .ok (.aload_n 0, 1) := by decide +kernel
theorem dc_W_part_29 : decode cd_W_part 29 = .ok (.getfield 9, 3) := by decide +kernel
theorem dc_W_part_32 : decode cd_W_part 32 = .ok (.iload 4, 2) := by decide +kernel
theorem dc_W_part_34 : decode cd_W_part 34 = .ok (.iconst (-1), 1) := by decide +kernel
theorem dc_W_part_35 : decode cd_W_part 35 = .ok (.iastore, 1) := by decide +kernel
theorem dc_W_part_36 : decode cd_W_part 36 = .ok (.aload_n 0, 1) := by decide +kernel
theorem dc_W_part_37 : decode cd_W_part 37 = .ok (.dup, 1) := by decide +kernel
theorem dc_W_part_38 : decode cd_W_part 38 = .ok (.getfield 27, 3) := by decide +kernel
theorem dc_W_part_41 : decode cd_W_part 41 = .ok (.iconst 1, 1) := by decide +kernel
theorem dc_W_part_42 : decode cd_W_part 42 = .ok (.isub, 1) := by decide +kernel
theorem dc_W_part_43 : decode cd_W_part 43 = .ok (.putfield 27, 3) := by decide +kernel
theorem dc_W_part_46 : decode cd_W_part 46 = .ok (.aload_n 0, 1) := by decide +kernel
theorem dc_W_part_47 : decode cd_W_part 47 = .ok (.invokevirtual 24, 3) := by decide +kernel
theorem dc_W_part_50 : decode cd_W_part 50 = .ok (.return_, 1) := by decide +kernel
theorem dc_W_farNode_0 : decode cd_W_farNode 0 = .ok (.aload_n 0, 1) := by decide +kernel
theorem dc_W_farNode_1 : decode cd_W_farNode 1 = .ok (.getfield 9, 3) := by decide +kernel
theorem dc_W_farNode_4 : decode cd_W_farNode 4 = .ok (.iload_n 1, 1) := by decide +kernel
theorem dc_W_farNode_5 : decode cd_W_farNode 5 = .ok (.iconst 3, 1) := by decide +kernel
theorem dc_W_farNode_6 : decode cd_W_farNode 6 = .ok (.imul, 1) := by decide +kernel
theorem dc_W_farNode_7 : decode cd_W_farNode 7 = .ok (.iload_n 2, 1) := by decide +kernel
theorem dc_W_farNode_8 : decode cd_W_farNode 8 = .ok (.iadd, 1) := by decide +kernel
theorem dc_W_farNode_9 : decode cd_W_farNode 9 = .ok (.iaload, 1) := by decide +kernel
theorem dc_W_farNode_10 : decode cd_W_farNode 10 = .ok (.istore_n 3, 1) := by decide +kernel
theorem dc_W_farNode_11 : decode cd_W_farNode 11 = .ok (.iload_n 3, 1) := by decide +kernel
theorem dc_W_farNode_12 : decode cd_W_farNode 12 = .ok (.iconst (-1), 1) := by decide +kernel
theorem dc_W_farNode_13 : decode cd_W_farNode 13 = .ok (.if_icmp .ne 7, 3) := by decide +kernel
theorem dc_W_farNode_16 : decode cd_W_farNode 16 = .ok (.iconst (-1), 1) := by decide +kernel
theorem dc_W_farNode_17 : decode cd_W_farNode 17 = .ok (.goto 6, 3) := by decide +kernel
theorem dc_W_farNode_20 : decode cd_W_farNode 20 = .ok (.iload_n 3, 1) := by decide +kernel
theorem dc_W_farNode_21 : decode cd_W_farNode 21 = .ok (.iconst 3, 1) := by decide +kernel
theorem dc_W_farNode_22 : decode cd_W_farNode 22 = .ok (.idiv, 1) := by decide +kernel
theorem dc_W_farNode_23 : decode cd_W_farNode 23 = .ok (.ireturn, 1) := by decide +kernel
theorem dc_W_busOf_0 : decode cd_W_busOf 0 = .ok (.aload_n 0, 1) := by decide +kernel
theorem dc_W_busOf_1 : decode cd_W_busOf 1 = .ok (.getfield 15, 3) := by decide +kernel
theorem dc_W_busOf_4 : decode cd_W_busOf 4 = .ok (.iload_n 1, 1) := by decide +kernel
theorem dc_W_busOf_5 : decode cd_W_busOf 5 = .ok (.iaload, 1) := by decide +kernel
theorem dc_W_busOf_6 : decode cd_W_busOf 6 = .ok (.ireturn, 1) := by decide +kernel
theorem dc_W_isBus_0 : decode cd_W_isBus 0 = .ok (.aload_n 0, 1) := by decide +kernel
theorem dc_W_isBus_1 : decode cd_W_isBus 1 = .ok (.getfield 15, 3) := by decide +kernel
theorem dc_W_isBus_4 : decode cd_W_isBus 4 = .ok (.iload_n 1, 1) := by decide +kernel
theorem dc_W_isBus_5 : decode cd_W_isBus 5 = .ok (.iaload, 1) := by decide +kernel
theorem dc_W_isBus_6 : decode cd_W_isBus 6 = .ok (.iload_n 1, 1) := by decide +kernel
theorem dc_W_isBus_7 : decode cd_W_isBus 7 = .ok (.if_icmp .ne 7, 3) := by decide +kernel
theorem dc_W_isBus_10 : decode cd_W_isBus 10 = .ok (.iconst 1, 1) := by decide +kernel
theorem dc_W_isBus_11 : decode cd_W_isBus 11 = .ok (.goto 4, 3) := by decide +kernel
theorem dc_W_isBus_14 : decode cd_W_isBus 14 = .ok (.iconst 0, 1) := by decide +kernel
theorem dc_W_isBus_15 : decode cd_W_isBus 15 = .ok (.ireturn, 1) := by decide +kernel
theorem dc_W_buses_0 : decode cd_W_buses 0 = .ok (.iconst 0, 1) := by decide +kernel
theorem dc_W_buses_1 : decode cd_W_buses 1 = .ok (.istore_n 1, 1) := by decide +kernel
theorem dc_W_buses_2 : decode cd_W_buses 2 = .ok (.iconst 0, 1) := by decide +kernel
theorem dc_W_buses_3 : decode cd_W_buses 3 = .ok (.istore_n 2, 1) := by decide +kernel
theorem dc_W_buses_4 : decode cd_W_buses 4 = .ok (.iload_n 2, 1) := by decide +kernel
theorem dc_W_buses_5 : decode cd_W_buses 5 = .ok (.bipush 12, 2) := by decide +kernel
theorem dc_W_buses_7 : decode cd_W_buses 7 = .ok (.if_icmp .ge 20, 3) := by decide +kernel
theorem dc_W_buses_10 : decode cd_W_buses 10 = .ok (.aload_n 0, 1) := by decide +kernel
theorem dc_W_buses_11 : decode cd_W_buses 11 = .ok (.iload_n 2, 1) := by decide +kernel
theorem dc_W_buses_12 : decode cd_W_buses 12 = .ok (.invokevirtual 31, 3) := by decide +kernel
theorem dc_W_buses_15 : decode cd_W_buses 15 = .ok (.ifCond .eq 6, 3) := by decide +kernel
theorem dc_W_buses_18 : decode cd_W_buses 18 = .ok (.iinc 1 1, 3) := by decide +kernel
theorem dc_W_buses_21 : decode cd_W_buses 21 = .ok (.iinc 2 1, 3) := by decide +kernel
theorem dc_W_buses_24 : decode cd_W_buses 24 = .ok (.goto (-20), 3) := by decide +kernel
theorem dc_W_buses_27 : decode cd_W_buses 27 = .ok (.iload_n 1, 1) := by decide +kernel
theorem dc_W_buses_28 : decode cd_W_buses 28 = .ok (.ireturn, 1) := by decide +kernel
theorem dc_W_findBuses_0 : decode cd_W_findBuses 0 = .ok (.iconst 0, 1) := by decide +kernel
theorem dc_W_findBuses_1 : decode cd_W_findBuses 1 = .ok (.istore_n 1, 1) := by decide +kernel
theorem dc_W_findBuses_2 : decode cd_W_findBuses 2 = .ok (.iload_n 1, 1) := by decide +kernel
theorem dc_W_findBuses_3 : decode cd_W_findBuses 3 = .ok (.bipush 12, 2) := by decide +kernel
theorem dc_W_findBuses_5 : decode cd_W_findBuses 5 = .ok (.if_icmp .ge 16, 3) := by decide +kernel
theorem dc_W_findBuses_8 : decode cd_W_findBuses 8 = .ok (.aload_n 0, 1) := by decide +kernel
theorem dc_W_findBuses_9 : decode cd_W_findBuses 9 = .ok (.getfield 15, 3) := by decide +kernel
theorem dc_W_findBuses_12 : decode cd_W_findBuses 12 = .ok (.iload_n 1, 1) := by decide +kernel
theorem dc_W_findBuses_13 : decode cd_W_findBuses 13 = .ok (.iload_n 1, 1) := by decide +kernel
theorem dc_W_findBuses_14 : decode cd_W_findBuses 14 = .ok (.iastore, 1) := by decide +kernel
theorem dc_W_findBuses_15 : decode cd_W_findBuses 15 = .ok (.iinc 1 1, 3) := by decide +kernel
theorem dc_W_findBuses_18 : decode cd_W_findBuses 18 = .ok (.goto (-16), 3) := by decide +kernel
theorem dc_W_findBuses_21 : decode cd_W_findBuses 21 = .ok (.iconst 1, 1) := by decide +kernel
theorem dc_W_findBuses_22 : decode cd_W_findBuses 22 = .ok (.istore_n 1, 1) := by decide +kernel
theorem dc_W_findBuses_23 : decode cd_W_findBuses 23 = .ok (.iload_n 1, 1) := by decide +kernel
theorem dc_W_findBuses_24 : decode cd_W_findBuses 24 = .ok (.bipush 12, 2) := by decide +kernel
theorem dc_W_findBuses_26 : decode cd_W_findBuses 26 = .ok (.if_icmp .ge 69, 3) := by decide +kernel
theorem dc_W_findBuses_29 : decode cd_W_findBuses 29 = .ok (.iconst 0, 1) := by decide +kernel
theorem dc_W_findBuses_30 : decode cd_W_findBuses 30 = .ok (.istore_n 2, 1) := by decide +kernel
theorem dc_W_findBuses_31 : decode cd_W_findBuses 31 = .ok (.iload_n 2, 1) := by decide +kernel
theorem dc_W_findBuses_32 : decode cd_W_findBuses 32 = .ok (.bipush 36, 2) := by decide +kernel
theorem dc_W_findBuses_34 : decode cd_W_findBuses 34 = .ok (.if_icmp .ge 55, 3) := by decide +kernel
theorem dc_W_findBuses_37 : decode cd_W_findBuses 37 = .ok (.aload_n 0, 1) := by decide +kernel
theorem dc_W_findBuses_38 : decode cd_W_findBuses 38 = .ok (.getfield 9, 3) := by decide +kernel
theorem dc_W_findBuses_41 : decode cd_W_findBuses 41 = .ok (.iload_n 2, 1) := by decide +kernel
theorem dc_W_findBuses_42 : decode cd_W_findBuses 42 = .ok (.iaload, 1) := by decide +kernel
theorem dc_W_findBuses_43 : decode cd_W_findBuses 43 = .ok (.iconst (-1), 1) := by decide +kernel
theorem dc_W_findBuses_44 : decode cd_W_findBuses 44 = .ok (.if_icmp .eq 39, 3) := by decide +kernel
theorem dc_W_findBuses_47 : decode cd_W_findBuses 47 = .ok (.iload_n 2, 1) := by decide +kernel
theorem dc_W_findBuses_48 : decode cd_W_findBuses 48 = .ok (.iconst 3, 1) := by decide +kernel
theorem dc_W_findBuses_49 : decode cd_W_findBuses 49 = .ok (.idiv, 1) := by decide +kernel
theorem dc_W_findBuses_50 : decode cd_W_findBuses 50 = .ok (.istore_n 3, 1) := by decide +kernel
theorem dc_W_findBuses_51 : decode cd_W_findBuses 51 = .ok (.aload_n 0, 1) := by decide +kernel
theorem dc_W_findBuses_52 : decode cd_W_findBuses 52 = .ok (.getfield 9, 3) := by decide +kernel
theorem dc_W_findBuses_55 : decode cd_W_findBuses 55 = .ok (.iload_n 2, 1) := by decide +kernel
theorem dc_W_findBuses_56 : decode cd_W_findBuses 56 = .ok (.iaload, 1) := by decide +kernel
theorem dc_W_findBuses_57 : decode cd_W_findBuses 57 = .ok (.iconst 3, 1) := by decide +kernel
theorem dc_W_findBuses_58 : decode cd_W_findBuses 58 = .ok (.idiv, 1) := by decide +kernel
theorem dc_W_findBuses_59 : decode cd_W_findBuses 59 = .ok (.istore 4, 2) := by decide +kernel
theorem dc_W_findBuses_61 : decode cd_W_findBuses 61 = .ok (.aload_n 0, 1) := by decide +kernel
theorem dc_W_findBuses_62 : decode cd_W_findBuses 62 = .ok (.getfield 15, 3) := by decide +kernel
theorem dc_W_findBuses_65 : decode cd_W_findBuses 65 = .ok (.iload_n 3, 1) := by decide +kernel
theorem dc_W_findBuses_66 : decode cd_W_findBuses 66 = .ok (.aload_n 0, 1) := by decide +kernel
theorem dc_W_findBuses_67 : decode cd_W_findBuses 67 = .ok (.getfield 15, 3) := by decide +kernel
theorem dc_W_findBuses_70 : decode cd_W_findBuses 70 = .ok (.iload_n 3, 1) := by decide +kernel
theorem dc_W_findBuses_71 : decode cd_W_findBuses 71 = .ok (.iaload, 1) := by decide +kernel
theorem dc_W_findBuses_72 : decode cd_W_findBuses 72 = .ok (.aload_n 0, 1) := by decide +kernel
theorem dc_W_findBuses_73 : decode cd_W_findBuses 73 = .ok (.getfield 15, 3) := by decide +kernel
theorem dc_W_findBuses_76 : decode cd_W_findBuses 76 = .ok (.iload 4, 2) := by decide +kernel
theorem dc_W_findBuses_78 : decode cd_W_findBuses 78 = .ok (.iaload, 1) := by decide +kernel
theorem dc_W_findBuses_79 : decode cd_W_findBuses 79 = .ok (.invokestatic 35, 3) := by decide +kernel
theorem dc_W_findBuses_82 : decode cd_W_findBuses 82 = .ok (.iastore, 1) := by decide +kernel
theorem dc_W_findBuses_83 : decode cd_W_findBuses 83 = .ok (.iinc 2 1, 3) := by decide +kernel
theorem dc_W_findBuses_86 : decode cd_W_findBuses 86 = .ok (.goto (-55), 3) := by decide +kernel
theorem dc_W_findBuses_89 : decode cd_W_findBuses 89 = .ok (.iinc 1 1, 3) := by decide +kernel
theorem dc_W_findBuses_92 : decode cd_W_findBuses 92 = .ok (.goto (-69), 3) := by decide +kernel
theorem dc_W_findBuses_95 : decode cd_W_findBuses 95 = .ok (.return_, 1) := by decide +kernel
