theorem dc_L_plug_0 : decode cd_L_plug 0 = .ok (.aload 5, 2) := by decide +kernel
theorem dc_L_plug_2 : decode cd_L_plug 2 = .ok (.iconst 0, 1) := by decide +kernel
theorem dc_L_plug_3 : decode cd_L_plug 3 = .ok (.aload_n 0, 1) := by decide +kernel
theorem dc_L_plug_4 : decode cd_L_plug 4 = .ok (.iload_n 1, 1) := by decide +kernel
theorem dc_L_plug_5 : decode cd_L_plug 5 = .ok (.iload_n 2, 1) := by decide +kernel
theorem dc_L_plug_6 : decode cd_L_plug 6 = .ok (.iload_n 3, 1) := by decide +kernel
theorem dc_L_plug_7 : decode cd_L_plug 7 = .ok (.iload 4, 2) := by decide +kernel
theorem dc_L_plug_9 : decode cd_L_plug 9 = .ok (.invokevirtual 7, 3) := by decide +kernel
theorem dc_L_plug_12 : decode cd_L_plug 12 = .ok (.i2l, 1) := by decide +kernel
theorem dc_L_plug_13 : decode cd_L_plug 13 = .ok (.lastore, 1) := by decide +kernel
theorem dc_L_plug_14 : decode cd_L_plug 14 = .ok (.goto 15, 3) := by decide +kernel
theorem dc_L_plug_17 : decode cd_L_plug 17 = .ok (.astore 6, 2) := by decide +kernel
theorem dc_L_plug_19 : decode cd_L_plug 19 = .ok (.iconst 1, 1) := by decide +kernel
theorem dc_L_plug_20 : decode cd_L_plug 20 = .ok (.ireturn, 1) := by decide +kernel
theorem dc_L_plug_21 : decode cd_L_plug 21 = .ok (.astore 6, 2) := by decide +kernel
theorem dc_L_plug_23 : decode cd_L_plug 23 = .ok (.iconst 2, 1) := by decide +kernel
theorem dc_L_plug_24 : decode cd_L_plug 24 = .ok (.ireturn, 1) := by decide +kernel
theorem dc_L_plug_25 : decode cd_L_plug 25 = .ok (.astore 6, 2) := by decide +kernel
theorem dc_L_plug_27 : decode cd_L_plug 27 = .ok (.iconst 3, 1) := by decide +kernel
theorem dc_L_plug_28 : decode cd_L_plug 28 = .ok (.ireturn, 1) := by decide +kernel
theorem dc_L_plug_29 : decode cd_L_plug 29 = .ok (.iconst 0, 1) := by decide +kernel
theorem dc_L_plug_30 : decode cd_L_plug 30 = .ok (.ireturn, 1) := by decide +kernel
theorem dc_L_unplug_0 : decode cd_L_unplug 0 = .ok (.aload_n 3, 1) := by decide +kernel
theorem dc_L_unplug_1 : decode cd_L_unplug 1 = .ok (.iconst 0, 1) := by decide +kernel
theorem dc_L_unplug_2 : decode cd_L_unplug 2 = .ok (.aload_n 0, 1) := by decide +kernel
theorem dc_L_unplug_3 : decode cd_L_unplug 3 = .ok (.iload_n 1, 1) := by decide +kernel
theorem dc_L_unplug_4 : decode cd_L_unplug 4 = .ok (.iload_n 2, 1) := by decide +kernel
theorem dc_L_unplug_5 : decode cd_L_unplug 5 = .ok (.invokevirtual 19, 3) := by decide +kernel
theorem dc_L_unplug_8 : decode cd_L_unplug 8 = .ok (.i2l, 1) := by decide +kernel
theorem dc_L_unplug_9 : decode cd_L_unplug 9 = .ok (.lastore, 1) := by decide +kernel
theorem dc_L_unplug_10 : decode cd_L_unplug 10 = .ok (.goto 15, 3) := by decide +kernel
theorem dc_L_unplug_13 : decode cd_L_unplug 13 = .ok (.astore 4, 2) := by decide +kernel
theorem dc_L_unplug_15 : decode cd_L_unplug 15 = .ok (.iconst 1, 1) := by decide +kernel
theorem dc_L_unplug_16 : decode cd_L_unplug 16 = .ok (.ireturn, 1) := by decide +kernel
theorem dc_L_unplug_17 : decode cd_L_unplug 17 = .ok (.astore 4, 2) := by decide +kernel
theorem dc_L_unplug_19 : decode cd_L_unplug 19 = .ok (.iconst 2, 1) := by decide +kernel
theorem dc_L_unplug_20 : decode cd_L_unplug 20 = .ok (.ireturn, 1) := by decide +kernel
theorem dc_L_unplug_21 : decode cd_L_unplug 21 = .ok (.astore 4, 2) := by decide +kernel
theorem dc_L_unplug_23 : decode cd_L_unplug 23 = .ok (.iconst 3, 1) := by decide +kernel
theorem dc_L_unplug_24 : decode cd_L_unplug 24 = .ok (.ireturn, 1) := by decide +kernel
theorem dc_L_unplug_25 : decode cd_L_unplug 25 = .ok (.iconst 0, 1) := by decide +kernel
theorem dc_L_unplug_26 : decode cd_L_unplug 26 = .ok (.ireturn, 1) := by decide +kernel
theorem dc_L_reset_0 : decode cd_L_reset 0 = .ok (.aload_n 0, 1) := by decide +kernel
theorem dc_L_reset_1 : decode cd_L_reset 1 = .ok (.iload_n 1, 1) := by decide +kernel
theorem dc_L_reset_2 : decode cd_L_reset 2 = .ok (.iload_n 2, 1) := by decide +kernel
theorem dc_L_reset_3 : decode cd_L_reset 3 = .ok (.iload_n 3, 1) := by decide +kernel
theorem dc_L_reset_4 : decode cd_L_reset 4 = .ok (.iload 4, 2) := by decide +kernel
theorem dc_L_reset_6 : decode cd_L_reset 6 = .ok (.invokevirtual 23, 3) := by decide +kernel
theorem dc_L_reset_9 : decode cd_L_reset 9 = .ok (.goto 7, 3) := by decide +kernel
theorem dc_L_reset_12 : decode cd_L_reset 12 = .ok (.astore 5, 2) := by decide +kernel
theorem dc_L_reset_14 : decode cd_L_reset 14 = .ok (.iconst 1, 1) := by decide +kernel
theorem dc_L_reset_15 : decode cd_L_reset 15 = .ok (.ireturn, 1) := by decide +kernel
theorem dc_L_reset_16 : decode cd_L_reset 16 = .ok (.iconst 0, 1) := by decide +kernel
theorem dc_L_reset_17 : decode cd_L_reset 17 = .ok (.ireturn, 1) := by decide +kernel
theorem dc_L_ask_0 : decode cd_L_ask 0 = .ok (.aload 7, 2) := by decide +kernel
theorem dc_L_ask_2 : decode cd_L_ask 2 = .ok (.iconst 0, 1) := by decide +kernel
theorem dc_L_ask_3 : decode cd_L_ask 3 = .ok (.aload_n 0, 1) := by decide +kernel
theorem dc_L_ask_4 : decode cd_L_ask 4 = .ok (.iload_n 1, 1) := by decide +kernel
theorem dc_L_ask_5 : decode cd_L_ask 5 = .ok (.iload_n 2, 1) := by decide +kernel
theorem dc_L_ask_6 : decode cd_L_ask 6 = .ok (.iload_n 3, 1) := by decide +kernel
theorem dc_L_ask_7 : decode cd_L_ask 7 = .ok (.iload 4, 2) := by decide +kernel
theorem dc_L_ask_9 : decode cd_L_ask 9 = .ok (.iload 5, 2) := by decide +kernel
theorem dc_L_ask_11 : decode cd_L_ask 11 = .ok (.iload 6, 2) := by decide +kernel
theorem dc_L_ask_13 : decode cd_L_ask 13 = .ok (.invokevirtual 27, 3) := by decide +kernel
theorem dc_L_ask_16 : decode cd_L_ask 16 = .ok (.i2l, 1) := by decide +kernel
theorem dc_L_ask_17 : decode cd_L_ask 17 = .ok (.lastore, 1) := by decide +kernel
theorem dc_L_ask_18 : decode cd_L_ask 18 = .ok (.goto 19, 3) := by decide +kernel
theorem dc_L_ask_21 : decode cd_L_ask 21 = .ok (.astore 8, 2) := by decide +kernel
theorem dc_L_ask_23 : decode cd_L_ask 23 = .ok (.iconst 1, 1) := by decide +kernel
theorem dc_L_ask_24 : decode cd_L_ask 24 = .ok (.ireturn, 1) := by decide +kernel
theorem dc_L_ask_25 : decode cd_L_ask 25 = .ok (.astore 8, 2) := by decide +kernel
theorem dc_L_ask_27 : decode cd_L_ask 27 = .ok (.iconst 2, 1) := by decide +kernel
theorem dc_L_ask_28 : decode cd_L_ask 28 = .ok (.ireturn, 1) := by decide +kernel
theorem dc_L_ask_29 : decode cd_L_ask 29 = .ok (.astore 8, 2) := by decide +kernel
theorem dc_L_ask_31 : decode cd_L_ask 31 = .ok (.iconst 3, 1) := by decide +kernel
theorem dc_L_ask_32 : decode cd_L_ask 32 = .ok (.ireturn, 1) := by decide +kernel
theorem dc_L_ask_33 : decode cd_L_ask 33 = .ok (.astore 8, 2) := by decide +kernel
theorem dc_L_ask_35 : decode cd_L_ask 35 = .ok (.iconst 4, 1) := by decide +kernel
theorem dc_L_ask_36 : decode cd_L_ask 36 = .ok (.ireturn, 1) := by decide +kernel
theorem dc_L_ask_37 : decode cd_L_ask 37 = .ok (.iconst 0, 1) := by decide +kernel
theorem dc_L_ask_38 : decode cd_L_ask 38 = .ok (.ireturn, 1) := by decide +kernel
theorem dc_L_talk_0 : decode cd_L_talk 0 = .ok (.aload_n 0, 1) := by decide +kernel
theorem dc_L_talk_1 : decode cd_L_talk 1 = .ok (.iload_n 1, 1) := by decide +kernel
theorem dc_L_talk_2 : decode cd_L_talk 2 = .ok (.iload_n 2, 1) := by decide +kernel
theorem dc_L_talk_3 : decode cd_L_talk 3 = .ok (.iload_n 3, 1) := by decide +kernel
theorem dc_L_talk_4 : decode cd_L_talk 4 = .ok (.invokevirtual 33, 3) := by decide +kernel
theorem dc_L_talk_7 : decode cd_L_talk 7 = .ok (.goto 11, 3) := by decide +kernel
theorem dc_L_talk_10 : decode cd_L_talk 10 = .ok (.astore 4, 2) := by decide +kernel
theorem dc_L_talk_12 : decode cd_L_talk 12 = .ok (.iconst 1, 1) := by decide +kernel
theorem dc_L_talk_13 : decode cd_L_talk 13 = .ok (.ireturn, 1) := by decide +kernel
theorem dc_L_talk_14 : decode cd_L_talk 14 = .ok (.astore 4, 2) := by decide +kernel
theorem dc_L_talk_16 : decode cd_L_talk 16 = .ok (.iconst 2, 1) := by decide +kernel
theorem dc_L_talk_17 : decode cd_L_talk 17 = .ok (.ireturn, 1) := by decide +kernel
theorem dc_L_talk_18 : decode cd_L_talk 18 = .ok (.iconst 0, 1) := by decide +kernel
theorem dc_L_talk_19 : decode cd_L_talk 19 = .ok (.ireturn, 1) := by decide +kernel
theorem dc_L_time_0 : decode cd_L_time 0 = .ok (.aload_n 0, 1) := by decide +kernel
theorem dc_L_time_1 : decode cd_L_time 1 = .ok (.iload_n 1, 1) := by decide +kernel
theorem dc_L_time_2 : decode cd_L_time 2 = .ok (.invokevirtual 37, 3) := by decide +kernel
theorem dc_L_time_5 : decode cd_L_time 5 = .ok (.goto 6, 3) := by decide +kernel
theorem dc_L_time_8 : decode cd_L_time 8 = .ok (.astore_n 2, 1) := by decide +kernel
theorem dc_L_time_9 : decode cd_L_time 9 = .ok (.iconst 1, 1) := by decide +kernel
theorem dc_L_time_10 : decode cd_L_time 10 = .ok (.ireturn, 1) := by decide +kernel
theorem dc_L_time_11 : decode cd_L_time 11 = .ok (.iconst 0, 1) := by decide +kernel
theorem dc_L_time_12 : decode cd_L_time 12 = .ok (.ireturn, 1) := by decide +kernel
theorem dc_L_tick_0 : decode cd_L_tick 0 = .ok (.aload_n 2, 1) := by decide +kernel
theorem dc_L_tick_1 : decode cd_L_tick 1 = .ok (.iconst 0, 1) := by decide +kernel
theorem dc_L_tick_2 : decode cd_L_tick 2 = .ok (.aload_n 0, 1) := by decide +kernel
theorem dc_L_tick_3 : decode cd_L_tick 3 = .ok (.iload_n 1, 1) := by decide +kernel
theorem dc_L_tick_4 : decode cd_L_tick 4 = .ok (.invokevirtual 41, 3) := by decide +kernel
theorem dc_L_tick_7 : decode cd_L_tick 7 = .ok (.i2l, 1) := by decide +kernel
theorem dc_L_tick_8 : decode cd_L_tick 8 = .ok (.lastore, 1) := by decide +kernel
theorem dc_L_tick_9 : decode cd_L_tick 9 = .ok (.goto 6, 3) := by decide +kernel
theorem dc_L_tick_12 : decode cd_L_tick 12 = .ok (.astore_n 3, 1) := by decide +kernel
theorem dc_L_tick_13 : decode cd_L_tick 13 = .ok (.iconst 1, 1) := by decide +kernel
theorem dc_L_tick_14 : decode cd_L_tick 14 = .ok (.ireturn, 1) := by decide +kernel
theorem dc_L_tick_15 : decode cd_L_tick 15 = .ok (.iconst 0, 1) := by decide +kernel
theorem dc_L_tick_16 : decode cd_L_tick 16 = .ok (.ireturn, 1) := by decide +kernel
theorem dc_L_ended_0 : decode cd_L_ended 0 = .ok (.aload_n 3, 1) := by decide +kernel
theorem dc_L_ended_1 : decode cd_L_ended 1 = .ok (.iconst 0, 1) := by decide +kernel
theorem dc_L_ended_2 : decode cd_L_ended 2 = .ok (.aload_n 0, 1) := by decide +kernel
theorem dc_L_ended_3 : decode cd_L_ended 3 = .ok (.iload_n 1, 1) := by decide +kernel
theorem dc_L_ended_4 : decode cd_L_ended 4 = .ok (.iload_n 2, 1) := by decide +kernel
theorem dc_L_ended_5 : decode cd_L_ended 5 = .ok (.invokevirtual 45, 3) := by decide +kernel
theorem dc_L_ended_8 : decode cd_L_ended 8 = .ok (.i2l, 1) := by decide +kernel
theorem dc_L_ended_9 : decode cd_L_ended 9 = .ok (.lastore, 1) := by decide +kernel
theorem dc_L_ended_10 : decode cd_L_ended 10 = .ok (.goto 15, 3) := by decide +kernel
theorem dc_L_ended_13 : decode cd_L_ended 13 = .ok (.astore 4, 2) := by decide +kernel
theorem dc_L_ended_15 : decode cd_L_ended 15 = .ok (.iconst 1, 1) := by decide +kernel
theorem dc_L_ended_16 : decode cd_L_ended 16 = .ok (.ireturn, 1) := by decide +kernel
theorem dc_L_ended_17 : decode cd_L_ended 17 = .ok (.astore 4, 2) := by decide +kernel
theorem dc_L_ended_19 : decode cd_L_ended 19 = .ok (.iconst 2, 1) := by decide +kernel
theorem dc_L_ended_20 : decode cd_L_ended 20 = .ok (.ireturn, 1) := by decide +kernel
theorem dc_L_ended_21 : decode cd_L_ended 21 = .ok (.astore 4, 2) := by decide +kernel
theorem dc_L_ended_23 : decode cd_L_ended 23 = .ok (.iconst 3, 1) := by decide +kernel
theorem dc_L_ended_24 : decode cd_L_ended 24 = .ok (.ireturn, 1) := by decide +kernel
theorem dc_L_ended_25 : decode cd_L_ended 25 = .ok (.iconst 0, 1) := by decide +kernel
theorem dc_L_ended_26 : decode cd_L_ended 26 = .ok (.ireturn, 1) := by decide +kernel
theorem dc_L_value_0 : decode cd_L_value 0 = .ok (.aload_n 3, 1) := by decide +kernel
theorem dc_L_value_1 : decode cd_L_value 1 = .ok (.iconst 0, 1) := by decide +kernel
theorem dc_L_value_2 : decode cd_L_value 2 = .ok (.aload_n 0, 1) := by decide +kernel
theorem dc_L_value_3 : decode cd_L_value 3 = .ok (.iload_n 1, 1) := by decide +kernel
theorem dc_L_value_4 : decode cd_L_value 4 = .ok (.iload_n 2, 1) := by decide +kernel
theorem dc_L_value_5 : decode cd_L_value 5 = .ok (.invokevirtual 48, 3) := by decide +kernel
theorem dc_L_value_8 : decode cd_L_value 8 = .ok (.i2l, 1) := by decide +kernel
theorem dc_L_value_9 : decode cd_L_value 9 = .ok (.lastore, 1) := by decide +kernel
theorem dc_L_value_10 : decode cd_L_value 10 = .ok (.goto 19, 3) := by decide +kernel
theorem dc_L_value_13 : decode cd_L_value 13 = .ok (.astore 4, 2) := by decide +kernel
theorem dc_L_value_15 : decode cd_L_value 15 = .ok (.iconst 1, 1) := by decide +kernel
theorem dc_L_value_16 : decode cd_L_value 16 = .ok (.ireturn, 1) := by decide +kernel
theorem dc_L_value_17 : decode cd_L_value 17 = .ok (.astore 4, 2) := by decide +kernel
theorem dc_L_value_19 : decode cd_L_value 19 = .ok (.iconst 2, 1) := by decide +kernel
theorem dc_L_value_20 : decode cd_L_value 20 = .ok (.ireturn, 1) := by decide +kernel
theorem dc_L_value_21 : decode cd_L_value 21 = .ok (.astore 4, 2) := by decide +kernel
theorem dc_L_value_23 : decode cd_L_value 23 = .ok (.iconst 3, 1) := by decide +kernel
theorem dc_L_value_24 : decode cd_L_value 24 = .ok (.ireturn, 1) := by decide +kernel
theorem dc_L_value_25 : decode cd_L_value 25 = .ok (.astore 4, 2) := by decide +kernel
theorem dc_L_value_27 : decode cd_L_value 27 = .ok (.iconst 4, 1) := by decide +kernel
theorem dc_L_value_28 : decode cd_L_value 28 = .ok (.ireturn, 1) := by decide +kernel
theorem dc_L_value_29 : decode cd_L_value 29 = .ok (.iconst 0, 1) := by decide +kernel
theorem dc_L_value_30 : decode cd_L_value 30 = .ok (.ireturn, 1) := by decide +kernel
theorem dc_L_about_0 : decode cd_L_about 0 = .ok (.aload_n 3, 1) := by decide +kernel
theorem dc_L_about_1 : decode cd_L_about 1 = .ok (.iconst 0, 1) := by decide +kernel
theorem dc_L_about_2 : decode cd_L_about 2 = .ok (.aload_n 0, 1) := by decide +kernel
theorem dc_L_about_3 : decode cd_L_about 3 = .ok (.iload_n 1, 1) := by decide +kernel
theorem dc_L_about_4 : decode cd_L_about 4 = .ok (.iload_n 2, 1) := by decide +kernel
theorem dc_L_about_5 : decode cd_L_about 5 = .ok (.invokevirtual 51, 3) := by decide +kernel
theorem dc_L_about_8 : decode cd_L_about 8 = .ok (.i2l, 1) := by decide +kernel
theorem dc_L_about_9 : decode cd_L_about 9 = .ok (.lastore, 1) := by decide +kernel
theorem dc_L_about_10 : decode cd_L_about 10 = .ok (.goto 11, 3) := by decide +kernel
theorem dc_L_about_13 : decode cd_L_about 13 = .ok (.astore 4, 2) := by decide +kernel
theorem dc_L_about_15 : decode cd_L_about 15 = .ok (.iconst 1, 1) := by decide +kernel
theorem dc_L_about_16 : decode cd_L_about 16 = .ok (.ireturn, 1) := by decide +kernel
theorem dc_L_about_17 : decode cd_L_about 17 = .ok (.astore 4, 2) := by decide +kernel
theorem dc_L_about_19 : decode cd_L_about 19 = .ok (.iconst 2, 1) := by decide +kernel
theorem dc_L_about_20 : decode cd_L_about 20 = .ok (.ireturn, 1) := by decide +kernel
theorem dc_L_about_21 : decode cd_L_about 21 = .ok (.iconst 0, 1) := by decide +kernel
theorem dc_L_about_22 : decode cd_L_about 22 = .ok (.ireturn, 1) := by decide +kernel
theorem dc_L_word_0 : decode cd_L_word 0 = .ok (.aload_n 3, 1) := by decide +kernel
theorem dc_L_word_1 : decode cd_L_word 1 = .ok (.iconst 0, 1) := by decide +kernel
theorem dc_L_word_2 : decode cd_L_word 2 = .ok (.aload_n 0, 1) := by decide +kernel
theorem dc_L_word_3 : decode cd_L_word 3 = .ok (.iload_n 1, 1) := by decide +kernel
theorem dc_L_word_4 : decode cd_L_word 4 = .ok (.iload_n 2, 1) := by decide +kernel
theorem dc_L_word_5 : decode cd_L_word 5 = .ok (.invokevirtual 54, 3) := by decide +kernel
theorem dc_L_word_8 : decode cd_L_word 8 = .ok (.i2l, 1) := by decide +kernel
theorem dc_L_word_9 : decode cd_L_word 9 = .ok (.lastore, 1) := by decide +kernel
theorem dc_L_word_10 : decode cd_L_word 10 = .ok (.goto 11, 3) := by decide +kernel
theorem dc_L_word_13 : decode cd_L_word 13 = .ok (.astore 4, 2) := by decide +kernel
theorem dc_L_word_15 : decode cd_L_word 15 = .ok (.iconst 1, 1) := by decide +kernel
theorem dc_L_word_16 : decode cd_L_word 16 = .ok (.ireturn, 1) := by decide +kernel
theorem dc_L_word_17 : decode cd_L_word 17 = .ok (.astore 4, 2) := by decide +kernel
theorem dc_L_word_19 : decode cd_L_word 19 = .ok (.iconst 2, 1) := by decide +kernel
theorem dc_L_word_20 : decode cd_L_word 20 = .ok (.ireturn, 1) := by decide +kernel
theorem dc_L_word_21 : decode cd_L_word 21 = .ok (.iconst 0, 1) := by decide +kernel
theorem dc_L_word_22 : decode cd_L_word 22 = .ok (.ireturn, 1) := by decide +kernel
theorem dc_L_law_0 : decode cd_L_law 0 = .ok (.new 8, 3) := by decide +kernel
theorem dc_L_law_3 : decode cd_L_law 3 = .ok (.dup, 1) := by decide +kernel
theorem dc_L_law_4 : decode cd_L_law 4 = .ok (.invokespecial 57, 3) := by decide +kernel
theorem dc_L_law_7 : decode cd_L_law 7 = .ok (.astore_n 1, 1) := by decide +kernel
theorem dc_L_law_8 : decode cd_L_law 8 = .ok (.new 58, 3) := by decide +kernel
theorem dc_L_law_11 : decode cd_L_law 11 = .ok (.dup, 1) := by decide +kernel
theorem dc_L_law_12 : decode cd_L_law 12 = .ok (.invokespecial 60, 3) := by decide +kernel
theorem dc_L_law_15 : decode cd_L_law 15 = .ok (.astore_n 2, 1) := by decide +kernel
theorem dc_L_law_16 : decode cd_L_law 16 = .ok (.iconst 1, 1) := by decide +kernel
theorem dc_L_law_17 : decode cd_L_law 17 = .ok (.newarray .long, 2) := by decide +kernel
theorem dc_L_law_19 : decode cd_L_law 19 = .ok (.astore_n 3, 1) := by decide +kernel
theorem dc_L_law_20 : decode cd_L_law 20 = .ok (.iconst 0, 1) := by decide +kernel
theorem dc_L_law_21 : decode cd_L_law 21 = .ok (.istore 4, 2) := by decide +kernel
theorem dc_L_law_23 : decode cd_L_law 23 = .ok (.iload 4, 2) := by decide +kernel
theorem dc_L_law_25 : decode cd_L_law 25 = .ok (.aload_n 0, 1) := by decide +kernel
theorem dc_L_law_26 : decode cd_L_law 26 = .ok (.arraylength, 1) := by decide +kernel
theorem dc_L_law_27 : decode cd_L_law 27 = .ok (.bipush 7, 2) := by decide +kernel
theorem dc_L_law_29 : decode cd_L_law 29 = .ok (.isub, 1) := by decide +kernel
theorem dc_L_law_30 : decode cd_L_law 30 = .ok (.if_icmp .gt 911, 3) := by decide +kernel
theorem dc_L_law_33 : decode cd_L_law 33 = .ok (.aload_n 0, 1) := by decide +kernel
theorem dc_L_law_34 : decode cd_L_law 34 = .ok (.iload 4, 2) := by decide +kernel
theorem dc_L_law_36 : decode cd_L_law 36 = .ok (.iaload, 1) := by decide +kernel
theorem dc_L_law_37 : decode cd_L_law 37 = .ok (.bipush 15, 2) := by decide +kernel
theorem dc_L_law_39 : decode cd_L_law 39 = .ok (.iand, 1) := by decide +kernel
theorem dc_L_law_40 : decode cd_L_law 40 = .ok (.tableswitch 895 0 11 #[64, 156, 224, 328, 446, 506, 542, 598, 666, 734, 802, 870], 64) := by decide +kernel
theorem dc_L_law_104 : decode cd_L_law 104 = .ok (.aload_n 1, 1) := by decide +kernel
theorem dc_L_law_105 : decode cd_L_law 105 = .ok (.aload_n 0, 1) := by decide +kernel
theorem dc_L_law_106 : decode cd_L_law 106 = .ok (.iload 4, 2) := by decide +kernel
theorem dc_L_law_108 : decode cd_L_law 108 = .ok (.iconst 1, 1) := by decide +kernel
theorem dc_L_law_109 : decode cd_L_law 109 = .ok (.iadd, 1) := by decide +kernel
theorem dc_L_law_110 : decode cd_L_law 110 = .ok (.iaload, 1) := by decide +kernel
theorem dc_L_law_111 : decode cd_L_law 111 = .ok (.aload_n 0, 1) := by decide +kernel
theorem dc_L_law_112 : decode cd_L_law 112 = .ok (.iload 4, 2) := by decide +kernel
theorem dc_L_law_114 : decode cd_L_law 114 = .ok (.iconst 2, 1) := by decide +kernel
theorem dc_L_law_115 : decode cd_L_law 115 = .ok (.iadd, 1) := by decide +kernel
theorem dc_L_law_116 : decode cd_L_law 116 = .ok (.iaload, 1) := by decide +kernel
theorem dc_L_law_117 : decode cd_L_law 117 = .ok (.aload_n 0, 1) := by decide +kernel
theorem dc_L_law_118 : decode cd_L_law 118 = .ok (.iload 4, 2) := by decide +kernel
theorem dc_L_law_120 : decode cd_L_law 120 = .ok (.iconst 3, 1) := by decide +kernel
theorem dc_L_law_121 : decode cd_L_law 121 = .ok (.iadd, 1) := by decide +kernel
theorem dc_L_law_122 : decode cd_L_law 122 = .ok (.iaload, 1) := by decide +kernel
theorem dc_L_law_123 : decode cd_L_law 123 = .ok (.aload_n 0, 1) := by decide +kernel
theorem dc_L_law_124 : decode cd_L_law 124 = .ok (.iload 4, 2) := by decide +kernel
theorem dc_L_law_126 : decode cd_L_law 126 = .ok (.iconst 4, 1) := by decide +kernel
theorem dc_L_law_127 : decode cd_L_law 127 = .ok (.iadd, 1) := by decide +kernel
theorem dc_L_law_128 : decode cd_L_law 128 = .ok (.iaload, 1) := by decide +kernel
theorem dc_L_law_129 : decode cd_L_law 129 = .ok (.aload_n 3, 1) := by decide +kernel
theorem dc_L_law_130 : decode cd_L_law 130 = .ok (.invokestatic 61, 3) := by decide +kernel
theorem dc_L_law_133 : decode cd_L_law 133 = .ok (.istore 5, 2) := by decide +kernel
theorem dc_L_law_135 : decode cd_L_law 135 = .ok (.aload_n 2, 1) := by decide +kernel
theorem dc_L_law_136 : decode cd_L_law 136 = .ok (.aload_n 0, 1) := by decide +kernel
theorem dc_L_law_137 : decode cd_L_law 137 = .ok (.iload 4, 2) := by decide +kernel
theorem dc_L_law_139 : decode cd_L_law 139 = .ok (.iconst 1, 1) := by decide +kernel
theorem dc_L_law_140 : decode cd_L_law 140 = .ok (.iadd, 1) := by decide +kernel
theorem dc_L_law_141 : decode cd_L_law 141 = .ok (.iaload, 1) := by decide +kernel
theorem dc_L_law_142 : decode cd_L_law 142 = .ok (.aload_n 0, 1) := by decide +kernel
theorem dc_L_law_143 : decode cd_L_law 143 = .ok (.iload 4, 2) := by decide +kernel
theorem dc_L_law_145 : decode cd_L_law 145 = .ok (.iconst 2, 1) := by decide +kernel
theorem dc_L_law_146 : decode cd_L_law 146 = .ok (.iadd, 1) := by decide +kernel
theorem dc_L_law_147 : decode cd_L_law 147 = .ok (.iaload, 1) := by decide +kernel
theorem dc_L_law_148 : decode cd_L_law 148 = .ok (.aload_n 0, 1) := by decide +kernel
theorem dc_L_law_149 : decode cd_L_law 149 = .ok (.iload 4, 2) := by decide +kernel
theorem dc_L_law_151 : decode cd_L_law 151 = .ok (.iconst 3, 1) := by decide +kernel
theorem dc_L_law_152 : decode cd_L_law 152 = .ok (.iadd, 1) := by decide +kernel
theorem dc_L_law_153 : decode cd_L_law 153 = .ok (.iaload, 1) := by decide +kernel
theorem dc_L_law_154 : decode cd_L_law 154 = .ok (.aload_n 0, 1) := by decide +kernel
theorem dc_L_law_155 : decode cd_L_law 155 = .ok (.iload 4, 2) := by decide +kernel
theorem dc_L_law_157 : decode cd_L_law 157 = .ok (.iconst 4, 1) := by decide +kernel
theorem dc_L_law_158 : decode cd_L_law 158 = .ok (.iadd, 1) := by decide +kernel
theorem dc_L_law_159 : decode cd_L_law 159 = .ok (.iaload, 1) := by decide +kernel
theorem dc_L_law_160 : decode cd_L_law 160 = .ok (.invokevirtual 66, 3) := by decide +kernel
theorem dc_L_law_163 : decode cd_L_law 163 = .ok (.istore 6, 2) := by decide +kernel
theorem dc_L_law_165 : decode cd_L_law 165 = .ok (.aload_n 2, 1) := by decide +kernel
theorem dc_L_law_166 : decode cd_L_law 166 = .ok (.invokevirtual 67, 3) := by decide +kernel
theorem dc_L_law_169 : decode cd_L_law 169 = .ok (.iload 5, 2) := by decide +kernel
theorem dc_L_law_171 : decode cd_L_law 171 = .ok (.if_icmp .eq 5, 3) := by decide +kernel
theorem dc_L_law_174 : decode cd_L_law 174 = .ok (.iconst 0, 1) := by decide +kernel
theorem dc_L_law_175 : decode cd_L_law 175 = .ok (.ireturn, 1) := by decide +kernel
theorem dc_L_law_176 : decode cd_L_law 176 = .ok (.iload 5, 2) := by decide +kernel
theorem dc_L_law_178 : decode cd_L_law 178 = .ok (.ifCond .ne 15, 3) := by decide +kernel
theorem dc_L_law_181 : decode cd_L_law 181 = .ok (.aload_n 3, 1) := by decide +kernel
theorem dc_L_law_182 : decode cd_L_law 182 = .ok (.iconst 0, 1) := by decide +kernel
theorem dc_L_law_183 : decode cd_L_law 183 = .ok (.laload, 1) := by decide +kernel
theorem dc_L_law_184 : decode cd_L_law 184 = .ok (.iload 6, 2) := by decide +kernel
theorem dc_L_law_186 : decode cd_L_law 186 = .ok (.i2l, 1) := by decide +kernel
theorem dc_L_law_187 : decode cd_L_law 187 = .ok (.lcmp, 1) := by decide +kernel
theorem dc_L_law_188 : decode cd_L_law 188 = .ok (.ifCond .eq 5, 3) := by decide +kernel
theorem dc_L_law_191 : decode cd_L_law 191 = .ok (.iconst 0, 1) := by decide +kernel
theorem dc_L_law_192 : decode cd_L_law 192 = .ok (.ireturn, 1) := by decide +kernel
theorem dc_L_law_193 : decode cd_L_law 193 = .ok (.goto 742, 3) := by decide +kernel
theorem dc_L_law_196 : decode cd_L_law 196 = .ok (.aload_n 1, 1) := by decide +kernel
theorem dc_L_law_197 : decode cd_L_law 197 = .ok (.aload_n 0, 1) := by decide +kernel
theorem dc_L_law_198 : decode cd_L_law 198 = .ok (.iload 4, 2) := by decide +kernel
theorem dc_L_law_200 : decode cd_L_law 200 = .ok (.iconst 1, 1) := by decide +kernel
theorem dc_L_law_201 : decode cd_L_law 201 = .ok (.iadd, 1) := by decide +kernel
theorem dc_L_law_202 : decode cd_L_law 202 = .ok (.iaload, 1) := by decide +kernel
theorem dc_L_law_203 : decode cd_L_law 203 = .ok (.aload_n 0, 1) := by decide +kernel
theorem dc_L_law_204 : decode cd_L_law 204 = .ok (.iload 4, 2) := by decide +kernel
theorem dc_L_law_206 : decode cd_L_law 206 = .ok (.iconst 2, 1) := by decide +kernel
theorem dc_L_law_207 : decode cd_L_law 207 = .ok (.iadd, 1) := by decide +kernel
theorem dc_L_law_208 : decode cd_L_law 208 = .ok (.iaload, 1) := by decide +kernel
theorem dc_L_law_209 : decode cd_L_law 209 = .ok (.aload_n 3, 1) := by decide +kernel
theorem dc_L_law_210 : decode cd_L_law 210 = .ok (.invokestatic 71, 3) := by decide +kernel
theorem dc_L_law_213 : decode cd_L_law 213 = .ok (.istore 5, 2) := by decide +kernel
theorem dc_L_law_215 : decode cd_L_law 215 = .ok (.aload_n 2, 1) := by decide +kernel
theorem dc_L_law_216 : decode cd_L_law 216 = .ok (.aload_n 0, 1) := by decide +kernel
theorem dc_L_law_217 : decode cd_L_law 217 = .ok (.iload 4, 2) := by decide +kernel
theorem dc_L_law_219 : decode cd_L_law 219 = .ok (.iconst 1, 1) := by decide +kernel
theorem dc_L_law_220 : decode cd_L_law 220 = .ok (.iadd, 1) := by decide +kernel
theorem dc_L_law_221 : decode cd_L_law 221 = .ok (.iaload, 1) := by decide +kernel
theorem dc_L_law_222 : decode cd_L_law 222 = .ok (.aload_n 0, 1) := by decide +kernel
theorem dc_L_law_223 : decode cd_L_law 223 = .ok (.iload 4, 2) := by decide +kernel
theorem dc_L_law_225 : decode cd_L_law 225 = .ok (.iconst 2, 1) := by decide +kernel
theorem dc_L_law_226 : decode cd_L_law 226 = .ok (.iadd, 1) := by decide +kernel
theorem dc_L_law_227 : decode cd_L_law 227 = .ok (.iaload, 1) := by decide +kernel
theorem dc_L_law_228 : decode cd_L_law 228 = .ok (.invokevirtual 74, 3) := by decide +kernel
theorem dc_L_law_231 : decode cd_L_law 231 = .ok (.istore 6, 2) := by decide +kernel
theorem dc_L_law_233 : decode cd_L_law 233 = .ok (.aload_n 2, 1) := by decide +kernel
theorem dc_L_law_234 : decode cd_L_law 234 = .ok (.invokevirtual 67, 3) := by decide +kernel
theorem dc_L_law_237 : decode cd_L_law 237 = .ok (.iload 5, 2) := by decide +kernel
theorem dc_L_law_239 : decode cd_L_law 239 = .ok (.if_icmp .eq 5, 3) := by decide +kernel
theorem dc_L_law_242 : decode cd_L_law 242 = .ok (.iconst 0, 1) := by decide +kernel
theorem dc_L_law_243 : decode cd_L_law 243 = .ok (.ireturn, 1) := by decide +kernel
theorem dc_L_law_244 : decode cd_L_law 244 = .ok (.iload 5, 2) := by decide +kernel
theorem dc_L_law_246 : decode cd_L_law 246 = .ok (.ifCond .ne 15, 3) := by decide +kernel
theorem dc_L_law_249 : decode cd_L_law 249 = .ok (.aload_n 3, 1) := by decide +kernel
theorem dc_L_law_250 : decode cd_L_law 250 = .ok (.iconst 0, 1) := by decide +kernel
theorem dc_L_law_251 : decode cd_L_law 251 = .ok (.laload, 1) := by decide +kernel
theorem dc_L_law_252 : decode cd_L_law 252 = .ok (.iload 6, 2) := by decide +kernel
theorem dc_L_law_254 : decode cd_L_law 254 = .ok (.i2l, 1) := by decide +kernel
theorem dc_L_law_255 : decode cd_L_law 255 = .ok (.lcmp, 1) := by decide +kernel
theorem dc_L_law_256 : decode cd_L_law 256 = .ok (.ifCond .eq 5, 3) := by decide +kernel
theorem dc_L_law_259 : decode cd_L_law 259 = .ok (.iconst 0, 1) := by decide +kernel
theorem dc_L_law_260 : decode cd_L_law 260 = .ok (.ireturn, 1) := by decide +kernel
theorem dc_L_law_261 : decode cd_L_law 261 = .ok (.goto 674, 3) := by decide +kernel
theorem dc_L_law_264 : decode cd_L_law 264 = .ok (.aload_n 1, 1) := by decide +kernel
theorem dc_L_law_265 : decode cd_L_law 265 = .ok (.aload_n 0, 1) := by decide +kernel
theorem dc_L_law_266 : decode cd_L_law 266 = .ok (.iload 4, 2) := by decide +kernel
theorem dc_L_law_268 : decode cd_L_law 268 = .ok (.iconst 1, 1) := by decide +kernel
theorem dc_L_law_269 : decode cd_L_law 269 = .ok (.iadd, 1) := by decide +kernel
theorem dc_L_law_270 : decode cd_L_law 270 = .ok (.iaload, 1) := by decide +kernel
theorem dc_L_law_271 : decode cd_L_law 271 = .ok (.aload_n 0, 1) := by decide +kernel
theorem dc_L_law_272 : decode cd_L_law 272 = .ok (.iload 4, 2) := by decide +kernel
theorem dc_L_law_274 : decode cd_L_law 274 = .ok (.iconst 2, 1) := by decide +kernel
theorem dc_L_law_275 : decode cd_L_law 275 = .ok (.iadd, 1) := by decide +kernel
theorem dc_L_law_276 : decode cd_L_law 276 = .ok (.iaload, 1) := by decide +kernel
theorem dc_L_law_277 : decode cd_L_law 277 = .ok (.aload_n 0, 1) := by decide +kernel
theorem dc_L_law_278 : decode cd_L_law 278 = .ok (.iload 4, 2) := by decide +kernel
theorem dc_L_law_280 : decode cd_L_law 280 = .ok (.iconst 3, 1) := by decide +kernel
theorem dc_L_law_281 : decode cd_L_law 281 = .ok (.iadd, 1) := by decide +kernel
theorem dc_L_law_282 : decode cd_L_law 282 = .ok (.iaload, 1) := by decide +kernel
theorem dc_L_law_283 : decode cd_L_law 283 = .ok (.ifCond .eq 7, 3) := by decide +kernel
theorem dc_L_law_286 : decode cd_L_law 286 = .ok (.iconst 1, 1) := by decide +kernel
theorem dc_L_law_287 : decode cd_L_law 287 = .ok (.goto 4, 3) := by decide +kernel
theorem dc_L_law_290 : decode cd_L_law 290 = .ok (.iconst 0, 1) := by decide +kernel
theorem dc_L_law_291 : decode cd_L_law 291 = .ok (.aload_n 0, 1) := by decide +kernel
theorem dc_L_law_292 : decode cd_L_law 292 = .ok (.iload 4, 2) := by decide +kernel
theorem dc_L_law_294 : decode cd_L_law 294 = .ok (.iconst 4, 1) := by decide +kernel
theorem dc_L_law_295 : decode cd_L_law 295 = .ok (.iadd, 1) := by decide +kernel
theorem dc_L_law_296 : decode cd_L_law 296 = .ok (.iaload, 1) := by decide +kernel
theorem dc_L_law_297 : decode cd_L_law 297 = .ok (.ifCond .eq 7, 3) := by decide +kernel
theorem dc_L_law_300 : decode cd_L_law 300 = .ok (.iconst 1, 1) := by decide +kernel
theorem dc_L_law_301 : decode cd_L_law 301 = .ok (.goto 4, 3) := by decide +kernel
theorem dc_L_law_304 : decode cd_L_law 304 = .ok (.iconst 0, 1) := by decide +kernel
theorem dc_L_law_305 : decode cd_L_law 305 = .ok (.invokestatic 75, 3) := by decide +kernel
theorem dc_L_law_308 : decode cd_L_law 308 = .ok (.istore 5, 2) := by decide +kernel
theorem dc_L_law_310 : decode cd_L_law 310 = .ok (.aload_n 2, 1) := by decide +kernel
theorem dc_L_law_311 : decode cd_L_law 311 = .ok (.aload_n 0, 1) := by decide +kernel
theorem dc_L_law_312 : decode cd_L_law 312 = .ok (.iload 4, 2) := by decide +kernel
theorem dc_L_law_314 : decode cd_L_law 314 = .ok (.iconst 1, 1) := by decide +kernel
theorem dc_L_law_315 : decode cd_L_law 315 = .ok (.iadd, 1) := by decide +kernel
theorem dc_L_law_316 : decode cd_L_law 316 = .ok (.iaload, 1) := by decide +kernel
theorem dc_L_law_317 : decode cd_L_law 317 = .ok (.aload_n 0, 1) := by decide +kernel
theorem dc_L_law_318 : decode cd_L_law 318 = .ok (.iload 4, 2) := by decide +kernel
theorem dc_L_law_320 : decode cd_L_law 320 = .ok (.iconst 2, 1) := by decide +kernel
theorem dc_L_law_321 : decode cd_L_law 321 = .ok (.iadd, 1) := by decide +kernel
theorem dc_L_law_322 : decode cd_L_law 322 = .ok (.iaload, 1) := by decide +kernel
theorem dc_L_law_323 : decode cd_L_law 323 = .ok (.aload_n 0, 1) := by decide +kernel
theorem dc_L_law_324 : decode cd_L_law 324 = .ok (.iload 4, 2) := by decide +kernel
theorem dc_L_law_326 : decode cd_L_law 326 = .ok (.iconst 3, 1) := by decide +kernel
theorem dc_L_law_327 : decode cd_L_law 327 = .ok (.iadd, 1) := by decide +kernel
theorem dc_L_law_328 : decode cd_L_law 328 = .ok (.iaload, 1) := by decide +kernel
theorem dc_L_law_329 : decode cd_L_law 329 = .ok (.ifCond .eq 7, 3) := by decide +kernel
theorem dc_L_law_332 : decode cd_L_law 332 = .ok (.iconst 1, 1) := by decide +kernel
theorem dc_L_law_333 : decode cd_L_law 333 = .ok (.goto 4, 3) := by decide +kernel
theorem dc_L_law_336 : decode cd_L_law 336 = .ok (.iconst 0, 1) := by decide +kernel
theorem dc_L_law_337 : decode cd_L_law 337 = .ok (.aload_n 0, 1) := by decide +kernel
theorem dc_L_law_338 : decode cd_L_law 338 = .ok (.iload 4, 2) := by decide +kernel
theorem dc_L_law_340 : decode cd_L_law 340 = .ok (.iconst 4, 1) := by decide +kernel
theorem dc_L_law_341 : decode cd_L_law 341 = .ok (.iadd, 1) := by decide +kernel
theorem dc_L_law_342 : decode cd_L_law 342 = .ok (.iaload, 1) := by decide +kernel
theorem dc_L_law_343 : decode cd_L_law 343 = .ok (.ifCond .eq 7, 3) := by decide +kernel
theorem dc_L_law_346 : decode cd_L_law 346 = .ok (.iconst 1, 1) := by decide +kernel
theorem dc_L_law_347 : decode cd_L_law 347 = .ok (.goto 4, 3) := by decide +kernel
theorem dc_L_law_350 : decode cd_L_law 350 = .ok (.iconst 0, 1) := by decide +kernel
theorem dc_L_law_351 : decode cd_L_law 351 = .ok (.invokevirtual 78, 3) := by decide +kernel
theorem dc_L_law_354 : decode cd_L_law 354 = .ok (.aload_n 2, 1) := by decide +kernel
theorem dc_L_law_355 : decode cd_L_law 355 = .ok (.invokevirtual 67, 3) := by decide +kernel
theorem dc_L_law_358 : decode cd_L_law 358 = .ok (.iload 5, 2) := by decide +kernel
theorem dc_L_law_360 : decode cd_L_law 360 = .ok (.if_icmp .eq 5, 3) := by decide +kernel
theorem dc_L_law_363 : decode cd_L_law 363 = .ok (.iconst 0, 1) := by decide +kernel
theorem dc_L_law_364 : decode cd_L_law 364 = .ok (.ireturn, 1) := by decide +kernel
theorem dc_L_law_365 : decode cd_L_law 365 = .ok (.goto 570, 3) := by decide +kernel
theorem dc_L_law_368 : decode cd_L_law 368 = .ok (.aload_n 1, 1) := by decide +kernel
theorem dc_L_law_369 : decode cd_L_law 369 = .ok (.aload_n 0, 1) := by decide +kernel
theorem dc_L_law_370 : decode cd_L_law 370 = .ok (.iload 4, 2) := by decide +kernel
theorem dc_L_law_372 : decode cd_L_law 372 = .ok (.iconst 1, 1) := by decide +kernel
theorem dc_L_law_373 : decode cd_L_law 373 = .ok (.iadd, 1) := by decide +kernel
theorem dc_L_law_374 : decode cd_L_law 374 = .ok (.iaload, 1) := by decide +kernel
theorem dc_L_law_375 : decode cd_L_law 375 = .ok (.aload_n 0, 1) := by decide +kernel
theorem dc_L_law_376 : decode cd_L_law 376 = .ok (.iload 4, 2) := by decide +kernel
theorem dc_L_law_378 : decode cd_L_law 378 = .ok (.iconst 2, 1) := by decide +kernel
theorem dc_L_law_379 : decode cd_L_law 379 = .ok (.iadd, 1) := by decide +kernel
theorem dc_L_law_380 : decode cd_L_law 380 = .ok (.iaload, 1) := by decide +kernel
theorem dc_L_law_381 : decode cd_L_law 381 = .ok (.aload_n 0, 1) := by decide +kernel
theorem dc_L_law_382 : decode cd_L_law 382 = .ok (.iload 4, 2) := by decide +kernel
theorem dc_L_law_384 : decode cd_L_law 384 = .ok (.iconst 3, 1) := by decide +kernel
theorem dc_L_law_385 : decode cd_L_law 385 = .ok (.iadd, 1) := by decide +kernel
theorem dc_L_law_386 : decode cd_L_law 386 = .ok (.iaload, 1) := by decide +kernel
theorem dc_L_law_387 : decode cd_L_law 387 = .ok (.aload_n 0, 1) := by decide +kernel
theorem dc_L_law_388 : decode cd_L_law 388 = .ok (.iload 4, 2) := by decide +kernel
theorem dc_L_law_390 : decode cd_L_law 390 = .ok (.iconst 4, 1) := by decide +kernel
theorem dc_L_law_391 : decode cd_L_law 391 = .ok (.iadd, 1) := by decide +kernel
theorem dc_L_law_392 : decode cd_L_law 392 = .ok (.iaload, 1) := by decide +kernel
theorem dc_L_law_393 : decode cd_L_law 393 = .ok (.aload_n 0, 1) := by decide +kernel
theorem dc_L_law_394 : decode cd_L_law 394 = .ok (.iload 4, 2) := by decide +kernel
theorem dc_L_law_396 : decode cd_L_law 396 = .ok (.iconst 5, 1) := by decide +kernel
theorem dc_L_law_397 : decode cd_L_law 397 = .ok (.iadd, 1) := by decide +kernel
theorem dc_L_law_398 : decode cd_L_law 398 = .ok (.iaload, 1) := by decide +kernel
theorem dc_L_law_399 : decode cd_L_law 399 = .ok (.aload_n 0, 1) := by decide +kernel
theorem dc_L_law_400 : decode cd_L_law 400 = .ok (.iload 4, 2) := by decide +kernel
theorem dc_L_law_402 : decode cd_L_law 402 = .ok (.bipush 6, 2) := by decide +kernel
theorem dc_L_law_404 : decode cd_L_law 404 = .ok (.iadd, 1) := by decide +kernel
theorem dc_L_law_405 : decode cd_L_law 405 = .ok (.iaload, 1) := by decide +kernel
theorem dc_L_law_406 : decode cd_L_law 406 = .ok (.aload_n 3, 1) := by decide +kernel
theorem dc_L_law_407 : decode cd_L_law 407 = .ok (.invokestatic 79, 3) := by decide +kernel
theorem dc_L_law_410 : decode cd_L_law 410 = .ok (.istore 5, 2) := by decide +kernel
theorem dc_L_law_412 : decode cd_L_law 412 = .ok (.aload_n 2, 1) := by decide +kernel
theorem dc_L_law_413 : decode cd_L_law 413 = .ok (.aload_n 0, 1) := by decide +kernel
theorem dc_L_law_414 : decode cd_L_law 414 = .ok (.iload 4, 2) := by decide +kernel
theorem dc_L_law_416 : decode cd_L_law 416 = .ok (.iconst 1, 1) := by decide +kernel
theorem dc_L_law_417 : decode cd_L_law 417 = .ok (.iadd, 1) := by decide +kernel
theorem dc_L_law_418 : decode cd_L_law 418 = .ok (.iaload, 1) := by decide +kernel
theorem dc_L_law_419 : decode cd_L_law 419 = .ok (.aload_n 0, 1) := by decide +kernel
theorem dc_L_law_420 : decode cd_L_law 420 = .ok (.iload 4, 2) := by decide +kernel
theorem dc_L_law_422 : decode cd_L_law 422 = .ok (.iconst 2, 1) := by decide +kernel
theorem dc_L_law_423 : decode cd_L_law 423 = .ok (.iadd, 1) := by decide +kernel
theorem dc_L_law_424 : decode cd_L_law 424 = .ok (.iaload, 1) := by decide +kernel
theorem dc_L_law_425 : decode cd_L_law 425 = .ok (.aload_n 0, 1) := by decide +kernel
theorem dc_L_law_426 : decode cd_L_law 426 = .ok (.iload 4, 2) := by decide +kernel
theorem dc_L_law_428 : decode cd_L_law 428 = .ok (.iconst 3, 1) := by decide +kernel
theorem dc_L_law_429 : decode cd_L_law 429 = .ok (.iadd, 1) := by decide +kernel
theorem dc_L_law_430 : decode cd_L_law 430 = .ok (.iaload, 1) := by decide +kernel
theorem dc_L_law_431 : decode cd_L_law 431 = .ok (.aload_n 0, 1) := by decide +kernel
theorem dc_L_law_432 : decode cd_L_law 432 = .ok (.iload 4, 2) := by decide +kernel
theorem dc_L_law_434 : decode cd_L_law 434 = .ok (.iconst 4, 1) := by decide +kernel
theorem dc_L_law_435 : decode cd_L_law 435 = .ok (.iadd, 1) := by decide +kernel
theorem dc_L_law_436 : decode cd_L_law 436 = .ok (.iaload, 1) := by decide +kernel
theorem dc_L_law_437 : decode cd_L_law 437 = .ok (.aload_n 0, 1) := by decide +kernel
theorem dc_L_law_438 : decode cd_L_law 438 = .ok (.iload 4, 2) := by decide +kernel
theorem dc_L_law_440 : decode cd_L_law 440 = .ok (.iconst 5, 1) := by decide +kernel
theorem dc_L_law_441 : decode cd_L_law 441 = .ok (.iadd, 1) := by decide +kernel
theorem dc_L_law_442 : decode cd_L_law 442 = .ok (.iaload, 1) := by decide +kernel
theorem dc_L_law_443 : decode cd_L_law 443 = .ok (.aload_n 0, 1) := by decide +kernel
theorem dc_L_law_444 : decode cd_L_law 444 = .ok (.iload 4, 2) := by decide +kernel
theorem dc_L_law_446 : decode cd_L_law 446 = .ok (.bipush 6, 2) := by decide +kernel
theorem dc_L_law_448 : decode cd_L_law 448 = .ok (.iadd, 1) := by decide +kernel
theorem dc_L_law_449 : decode cd_L_law 449 = .ok (.iaload, 1) := by decide +kernel
theorem dc_L_law_450 : decode cd_L_law 450 = .ok (.invokevirtual 82, 3) := by decide +kernel
theorem dc_L_law_453 : decode cd_L_law 453 = .ok (.istore 6, 2) := by decide +kernel
theorem dc_L_law_455 : decode cd_L_law 455 = .ok (.aload_n 2, 1) := by decide +kernel
theorem dc_L_law_456 : decode cd_L_law 456 = .ok (.invokevirtual 67, 3) := by decide +kernel
theorem dc_L_law_459 : decode cd_L_law 459 = .ok (.iload 5, 2) := by decide +kernel
theorem dc_L_law_461 : decode cd_L_law 461 = .ok (.if_icmp .eq 5, 3) := by decide +kernel
theorem dc_L_law_464 : decode cd_L_law 464 = .ok (.iconst 0, 1) := by decide +kernel
theorem dc_L_law_465 : decode cd_L_law 465 = .ok (.ireturn, 1) := by decide +kernel
theorem dc_L_law_466 : decode cd_L_law 466 = .ok (.iload 5, 2) := by decide +kernel
theorem dc_L_law_468 : decode cd_L_law 468 = .ok (.ifCond .ne 15, 3) := by decide +kernel
theorem dc_L_law_471 : decode cd_L_law 471 = .ok (.aload_n 3, 1) := by decide +kernel
theorem dc_L_law_472 : decode cd_L_law 472 = .ok (.iconst 0, 1) := by decide +kernel
theorem dc_L_law_473 : decode cd_L_law 473 = .ok (.laload, 1) := by decide +kernel
theorem dc_L_law_474 : decode cd_L_law 474 = .ok (.iload 6, 2) := by decide +kernel
theorem dc_L_law_476 : decode cd_L_law 476 = .ok (.i2l, 1) := by decide +kernel
theorem dc_L_law_477 : decode cd_L_law 477 = .ok (.lcmp, 1) := by decide +kernel
theorem dc_L_law_478 : decode cd_L_law 478 = .ok (.ifCond .eq 5, 3) := by decide +kernel
theorem dc_L_law_481 : decode cd_L_law 481 = .ok (.iconst 0, 1) := by decide +kernel
theorem dc_L_law_482 : decode cd_L_law 482 = .ok (.ireturn, 1) := by decide +kernel
theorem dc_L_law_483 : decode cd_L_law 483 = .ok (.goto 452, 3) := by decide +kernel
theorem dc_L_law_486 : decode cd_L_law 486 = .ok (.aload_n 1, 1) := by decide +kernel
theorem dc_L_law_487 : decode cd_L_law 487 = .ok (.aload_n 0, 1) := by decide +kernel
theorem dc_L_law_488 : decode cd_L_law 488 = .ok (.iload 4, 2) := by decide +kernel
theorem dc_L_law_490 : decode cd_L_law 490 = .ok (.iconst 1, 1) := by decide +kernel
theorem dc_L_law_491 : decode cd_L_law 491 = .ok (.iadd, 1) := by decide +kernel
theorem dc_L_law_492 : decode cd_L_law 492 = .ok (.iaload, 1) := by decide +kernel
theorem dc_L_law_493 : decode cd_L_law 493 = .ok (.aload_n 0, 1) := by decide +kernel
theorem dc_L_law_494 : decode cd_L_law 494 = .ok (.iload 4, 2) := by decide +kernel
theorem dc_L_law_496 : decode cd_L_law 496 = .ok (.iconst 2, 1) := by decide +kernel
theorem dc_L_law_497 : decode cd_L_law 497 = .ok (.iadd, 1) := by decide +kernel
theorem dc_L_law_498 : decode cd_L_law 498 = .ok (.iaload, 1) := by decide +kernel
theorem dc_L_law_499 : decode cd_L_law 499 = .ok (.aload_n 0, 1) := by decide +kernel
theorem dc_L_law_500 : decode cd_L_law 500 = .ok (.iload 4, 2) := by decide +kernel
theorem dc_L_law_502 : decode cd_L_law 502 = .ok (.iconst 3, 1) := by decide +kernel
theorem dc_L_law_503 : decode cd_L_law 503 = .ok (.iadd, 1) := by decide +kernel
theorem dc_L_law_504 : decode cd_L_law 504 = .ok (.iaload, 1) := by decide +kernel
theorem dc_L_law_505 : decode cd_L_law 505 = .ok (.invokestatic 83, 3) := by decide +kernel
theorem dc_L_law_508 : decode cd_L_law 508 = .ok (.istore 5, 2) := by decide +kernel
theorem dc_L_law_510 : decode cd_L_law 510 = .ok (.aload_n 2, 1) := by decide +kernel
theorem dc_L_law_511 : decode cd_L_law 511 = .ok (.aload_n 0, 1) := by decide +kernel
theorem dc_L_law_512 : decode cd_L_law 512 = .ok (.iload 4, 2) := by decide +kernel
theorem dc_L_law_514 : decode cd_L_law 514 = .ok (.iconst 1, 1) := by decide +kernel
theorem dc_L_law_515 : decode cd_L_law 515 = .ok (.iadd, 1) := by decide +kernel
theorem dc_L_law_516 : decode cd_L_law 516 = .ok (.iaload, 1) := by decide +kernel
theorem dc_L_law_517 : decode cd_L_law 517 = .ok (.aload_n 0, 1) := by decide +kernel
theorem dc_L_law_518 : decode cd_L_law 518 = .ok (.iload 4, 2) := by decide +kernel
theorem dc_L_law_520 : decode cd_L_law 520 = .ok (.iconst 2, 1) := by decide +kernel
theorem dc_L_law_521 : decode cd_L_law 521 = .ok (.iadd, 1) := by decide +kernel
theorem dc_L_law_522 : decode cd_L_law 522 = .ok (.iaload, 1) := by decide +kernel
theorem dc_L_law_523 : decode cd_L_law 523 = .ok (.aload_n 0, 1) := by decide +kernel
theorem dc_L_law_524 : decode cd_L_law 524 = .ok (.iload 4, 2) := by decide +kernel
theorem dc_L_law_526 : decode cd_L_law 526 = .ok (.iconst 3, 1) := by decide +kernel
theorem dc_L_law_527 : decode cd_L_law 527 = .ok (.iadd, 1) := by decide +kernel
theorem dc_L_law_528 : decode cd_L_law 528 = .ok (.iaload, 1) := by decide +kernel
theorem dc_L_law_529 : decode cd_L_law 529 = .ok (.invokevirtual 86, 3) := by decide +kernel
theorem dc_L_law_532 : decode cd_L_law 532 = .ok (.aload_n 2, 1) := by decide +kernel
theorem dc_L_law_533 : decode cd_L_law 533 = .ok (.invokevirtual 67, 3) := by decide +kernel
theorem dc_L_law_536 : decode cd_L_law 536 = .ok (.iload 5, 2) := by decide +kernel
theorem dc_L_law_538 : decode cd_L_law 538 = .ok (.if_icmp .eq 5, 3) := by decide +kernel
theorem dc_L_law_541 : decode cd_L_law 541 = .ok (.iconst 0, 1) := by decide +kernel
theorem dc_L_law_542 : decode cd_L_law 542 = .ok (.ireturn, 1) := by decide +kernel
theorem dc_L_law_543 : decode cd_L_law 543 = .ok (.goto 392, 3) := by decide +kernel
theorem dc_L_law_546 : decode cd_L_law 546 = .ok (.aload_n 1, 1) := by decide +kernel
theorem dc_L_law_547 : decode cd_L_law 547 = .ok (.aload_n 0, 1) := by decide +kernel
theorem dc_L_law_548 : decode cd_L_law 548 = .ok (.iload 4, 2) := by decide +kernel
theorem dc_L_law_550 : decode cd_L_law 550 = .ok (.iconst 1, 1) := by decide +kernel
theorem dc_L_law_551 : decode cd_L_law 551 = .ok (.iadd, 1) := by decide +kernel
theorem dc_L_law_552 : decode cd_L_law 552 = .ok (.iaload, 1) := by decide +kernel
theorem dc_L_law_553 : decode cd_L_law 553 = .ok (.invokestatic 87, 3) := by decide +kernel
theorem dc_L_law_556 : decode cd_L_law 556 = .ok (.istore 5, 2) := by decide +kernel
theorem dc_L_law_558 : decode cd_L_law 558 = .ok (.aload_n 2, 1) := by decide +kernel
theorem dc_L_law_559 : decode cd_L_law 559 = .ok (.aload_n 0, 1) := by decide +kernel
theorem dc_L_law_560 : decode cd_L_law 560 = .ok (.iload 4, 2) := by decide +kernel
theorem dc_L_law_562 : decode cd_L_law 562 = .ok (.iconst 1, 1) := by decide +kernel
theorem dc_L_law_563 : decode cd_L_law 563 = .ok (.iadd, 1) := by decide +kernel
theorem dc_L_law_564 : decode cd_L_law 564 = .ok (.iaload, 1) := by decide +kernel
theorem dc_L_law_565 : decode cd_L_law 565 = .ok (.invokevirtual 90, 3) := by decide +kernel
theorem dc_L_law_568 : decode cd_L_law 568 = .ok (.aload_n 2, 1) := by decide +kernel
theorem dc_L_law_569 : decode cd_L_law 569 = .ok (.invokevirtual 67, 3) := by decide +kernel
theorem dc_L_law_572 : decode cd_L_law 572 = .ok (.iload 5, 2) := by decide +kernel
theorem dc_L_law_574 : decode cd_L_law 574 = .ok (.if_icmp .eq 5, 3) := by decide +kernel
theorem dc_L_law_577 : decode cd_L_law 577 = .ok (.iconst 0, 1) := by decide +kernel
theorem dc_L_law_578 : decode cd_L_law 578 = .ok (.ireturn, 1) := by decide +kernel
theorem dc_L_law_579 : decode cd_L_law 579 = .ok (.goto 356, 3) := by decide +kernel
theorem dc_L_law_582 : decode cd_L_law 582 = .ok (.aload_n 1, 1) := by decide +kernel
theorem dc_L_law_583 : decode cd_L_law 583 = .ok (.aload_n 0, 1) := by decide +kernel
theorem dc_L_law_584 : decode cd_L_law 584 = .ok (.iload 4, 2) := by decide +kernel
theorem dc_L_law_586 : decode cd_L_law 586 = .ok (.iconst 1, 1) := by decide +kernel
theorem dc_L_law_587 : decode cd_L_law 587 = .ok (.iadd, 1) := by decide +kernel
theorem dc_L_law_588 : decode cd_L_law 588 = .ok (.iaload, 1) := by decide +kernel
theorem dc_L_law_589 : decode cd_L_law 589 = .ok (.aload_n 3, 1) := by decide +kernel
theorem dc_L_law_590 : decode cd_L_law 590 = .ok (.invokestatic 91, 3) := by decide +kernel
theorem dc_L_law_593 : decode cd_L_law 593 = .ok (.istore 5, 2) := by decide +kernel
theorem dc_L_law_595 : decode cd_L_law 595 = .ok (.aload_n 2, 1) := by decide +kernel
theorem dc_L_law_596 : decode cd_L_law 596 = .ok (.aload_n 0, 1) := by decide +kernel
theorem dc_L_law_597 : decode cd_L_law 597 = .ok (.iload 4, 2) := by decide +kernel
theorem dc_L_law_599 : decode cd_L_law 599 = .ok (.iconst 1, 1) := by decide +kernel
theorem dc_L_law_600 : decode cd_L_law 600 = .ok (.iadd, 1) := by decide +kernel
theorem dc_L_law_601 : decode cd_L_law 601 = .ok (.iaload, 1) := by decide +kernel
theorem dc_L_law_602 : decode cd_L_law 602 = .ok (.invokevirtual 94, 3) := by decide +kernel
theorem dc_L_law_605 : decode cd_L_law 605 = .ok (.istore 6, 2) := by decide +kernel
theorem dc_L_law_607 : decode cd_L_law 607 = .ok (.aload_n 2, 1) := by decide +kernel
theorem dc_L_law_608 : decode cd_L_law 608 = .ok (.invokevirtual 67, 3) := by decide +kernel
theorem dc_L_law_611 : decode cd_L_law 611 = .ok (.iload 5, 2) := by decide +kernel
theorem dc_L_law_613 : decode cd_L_law 613 = .ok (.if_icmp .eq 5, 3) := by decide +kernel
theorem dc_L_law_616 : decode cd_L_law 616 = .ok (.iconst 0, 1) := by decide +kernel
theorem dc_L_law_617 : decode cd_L_law 617 = .ok (.ireturn, 1) := by decide +kernel
theorem dc_L_law_618 : decode cd_L_law 618 = .ok (.iload 5, 2) := by decide +kernel
theorem dc_L_law_620 : decode cd_L_law 620 = .ok (.ifCond .ne 15, 3) := by decide +kernel
theorem dc_L_law_623 : decode cd_L_law 623 = .ok (.aload_n 3, 1) := by decide +kernel
theorem dc_L_law_624 : decode cd_L_law 624 = .ok (.iconst 0, 1) := by decide +kernel
theorem dc_L_law_625 : decode cd_L_law 625 = .ok (.laload, 1) := by decide +kernel
theorem dc_L_law_626 : decode cd_L_law 626 = .ok (.iload 6, 2) := by decide +kernel
theorem dc_L_law_628 : decode cd_L_law 628 = .ok (.i2l, 1) := by decide +kernel
theorem dc_L_law_629 : decode cd_L_law 629 = .ok (.lcmp, 1) := by decide +kernel
theorem dc_L_law_630 : decode cd_L_law 630 = .ok (.ifCond .eq 5, 3) := by decide +kernel
theorem dc_L_law_633 : decode cd_L_law 633 = .ok (.iconst 0, 1) := by decide +kernel
theorem dc_L_law_634 : decode cd_L_law 634 = .ok (.ireturn, 1) := by decide +kernel
theorem dc_L_law_635 : decode cd_L_law 635 = .ok (.goto 300, 3) := by decide +kernel
theorem dc_L_law_638 : decode cd_L_law 638 = .ok (.aload_n 1, 1) := by decide +kernel
theorem dc_L_law_639 : decode cd_L_law 639 = .ok (.aload_n 0, 1) := by decide +kernel
theorem dc_L_law_640 : decode cd_L_law 640 = .ok (.iload 4, 2) := by decide +kernel
theorem dc_L_law_642 : decode cd_L_law 642 = .ok (.iconst 1, 1) := by decide +kernel
theorem dc_L_law_643 : decode cd_L_law 643 = .ok (.iadd, 1) := by decide +kernel
theorem dc_L_law_644 : decode cd_L_law 644 = .ok (.iaload, 1) := by decide +kernel
theorem dc_L_law_645 : decode cd_L_law 645 = .ok (.aload_n 0, 1) := by decide +kernel
theorem dc_L_law_646 : decode cd_L_law 646 = .ok (.iload 4, 2) := by decide +kernel
theorem dc_L_law_648 : decode cd_L_law 648 = .ok (.iconst 2, 1) := by decide +kernel
theorem dc_L_law_649 : decode cd_L_law 649 = .ok (.iadd, 1) := by decide +kernel
theorem dc_L_law_650 : decode cd_L_law 650 = .ok (.iaload, 1) := by decide +kernel
theorem dc_L_law_651 : decode cd_L_law 651 = .ok (.aload_n 3, 1) := by decide +kernel
theorem dc_L_law_652 : decode cd_L_law 652 = .ok (.invokestatic 95, 3) := by decide +kernel
theorem dc_L_law_655 : decode cd_L_law 655 = .ok (.istore 5, 2) := by decide +kernel
theorem dc_L_law_657 : decode cd_L_law 657 = .ok (.aload_n 2, 1) := by decide +kernel
theorem dc_L_law_658 : decode cd_L_law 658 = .ok (.aload_n 0, 1) := by decide +kernel
theorem dc_L_law_659 : decode cd_L_law 659 = .ok (.iload 4, 2) := by decide +kernel
theorem dc_L_law_661 : decode cd_L_law 661 = .ok (.iconst 1, 1) := by decide +kernel
theorem dc_L_law_662 : decode cd_L_law 662 = .ok (.iadd, 1) := by decide +kernel
theorem dc_L_law_663 : decode cd_L_law 663 = .ok (.iaload, 1) := by decide +kernel
theorem dc_L_law_664 : decode cd_L_law 664 = .ok (.aload_n 0, 1) := by decide +kernel
theorem dc_L_law_665 : decode cd_L_law 665 = .ok (.iload 4, 2) := by decide +kernel
theorem dc_L_law_667 : decode cd_L_law 667 = .ok (.iconst 2, 1) := by decide +kernel
theorem dc_L_law_668 : decode cd_L_law 668 = .ok (.iadd, 1) := by decide +kernel
theorem dc_L_law_669 : decode cd_L_law 669 = .ok (.iaload, 1) := by decide +kernel
theorem dc_L_law_670 : decode cd_L_law 670 = .ok (.invokevirtual 97, 3) := by decide +kernel
theorem dc_L_law_673 : decode cd_L_law 673 = .ok (.istore 6, 2) := by decide +kernel
theorem dc_L_law_675 : decode cd_L_law 675 = .ok (.aload_n 2, 1) := by decide +kernel
theorem dc_L_law_676 : decode cd_L_law 676 = .ok (.invokevirtual 67, 3) := by decide +kernel
theorem dc_L_law_679 : decode cd_L_law 679 = .ok (.iload 5, 2) := by decide +kernel
theorem dc_L_law_681 : decode cd_L_law 681 = .ok (.if_icmp .eq 5, 3) := by decide +kernel
theorem dc_L_law_684 : decode cd_L_law 684 = .ok (.iconst 0, 1) := by decide +kernel
theorem dc_L_law_685 : decode cd_L_law 685 = .ok (.ireturn, 1) := by decide +kernel
theorem dc_L_law_686 : decode cd_L_law 686 = .ok (.iload 5, 2) := by decide +kernel
theorem dc_L_law_688 : decode cd_L_law 688 = .ok (.ifCond .ne 15, 3) := by decide +kernel
theorem dc_L_law_691 : decode cd_L_law 691 = .ok (.aload_n 3, 1) := by decide +kernel
theorem dc_L_law_692 : decode cd_L_law 692 = .ok (.iconst 0, 1) := by decide +kernel
theorem dc_L_law_693 : decode cd_L_law 693 = .ok (.laload, 1) := by decide +kernel
theorem dc_L_law_694 : decode cd_L_law 694 = .ok (.iload 6, 2) := by decide +kernel
theorem dc_L_law_696 : decode cd_L_law 696 = .ok (.i2l, 1) := by decide +kernel
theorem dc_L_law_697 : decode cd_L_law 697 = .ok (.lcmp, 1) := by decide +kernel
theorem dc_L_law_698 : decode cd_L_law 698 = .ok (.ifCond .eq 5, 3) := by decide +kernel
theorem dc_L_law_701 : decode cd_L_law 701 = .ok (.iconst 0, 1) := by decide +kernel
theorem dc_L_law_702 : decode cd_L_law 702 = .ok (.ireturn, 1) := by decide +kernel
theorem dc_L_law_703 : decode cd_L_law 703 = .ok (.goto 232, 3) := by decide +kernel
theorem dc_L_law_706 : decode cd_L_law 706 = .ok (.aload_n 1, 1) := by decide +kernel
theorem dc_L_law_707 : decode cd_L_law 707 = .ok (.aload_n 0, 1) := by decide +kernel
theorem dc_L_law_708 : decode cd_L_law 708 = .ok (.iload 4, 2) := by decide +kernel
theorem dc_L_law_710 : decode cd_L_law 710 = .ok (.iconst 1, 1) := by decide +kernel
theorem dc_L_law_711 : decode cd_L_law 711 = .ok (.iadd, 1) := by decide +kernel
theorem dc_L_law_712 : decode cd_L_law 712 = .ok (.iaload, 1) := by decide +kernel
theorem dc_L_law_713 : decode cd_L_law 713 = .ok (.aload_n 0, 1) := by decide +kernel
theorem dc_L_law_714 : decode cd_L_law 714 = .ok (.iload 4, 2) := by decide +kernel
theorem dc_L_law_716 : decode cd_L_law 716 = .ok (.iconst 2, 1) := by decide +kernel
theorem dc_L_law_717 : decode cd_L_law 717 = .ok (.iadd, 1) := by decide +kernel
theorem dc_L_law_718 : decode cd_L_law 718 = .ok (.iaload, 1) := by decide +kernel
theorem dc_L_law_719 : decode cd_L_law 719 = .ok (.aload_n 3, 1) := by decide +kernel
theorem dc_L_law_720 : decode cd_L_law 720 = .ok (.invokestatic 98, 3) := by decide +kernel
theorem dc_L_law_723 : decode cd_L_law 723 = .ok (.istore 5, 2) := by decide +kernel
theorem dc_L_law_725 : decode cd_L_law 725 = .ok (.aload_n 2, 1) := by decide +kernel
theorem dc_L_law_726 : decode cd_L_law 726 = .ok (.aload_n 0, 1) := by decide +kernel
theorem dc_L_law_727 : decode cd_L_law 727 = .ok (.iload 4, 2) := by decide +kernel
theorem dc_L_law_729 : decode cd_L_law 729 = .ok (.iconst 1, 1) := by decide +kernel
theorem dc_L_law_730 : decode cd_L_law 730 = .ok (.iadd, 1) := by decide +kernel
theorem dc_L_law_731 : decode cd_L_law 731 = .ok (.iaload, 1) := by decide +kernel
theorem dc_L_law_732 : decode cd_L_law 732 = .ok (.aload_n 0, 1) := by decide +kernel
theorem dc_L_law_733 : decode cd_L_law 733 = .ok (.iload 4, 2) := by decide +kernel
theorem dc_L_law_735 : decode cd_L_law 735 = .ok (.iconst 2, 1) := by decide +kernel
theorem dc_L_law_736 : decode cd_L_law 736 = .ok (.iadd, 1) := by decide +kernel
theorem dc_L_law_737 : decode cd_L_law 737 = .ok (.iaload, 1) := by decide +kernel
theorem dc_L_law_738 : decode cd_L_law 738 = .ok (.invokevirtual 100, 3) := by decide +kernel
theorem dc_L_law_741 : decode cd_L_law 741 = .ok (.istore 6, 2) := by decide +kernel
theorem dc_L_law_743 : decode cd_L_law 743 = .ok (.aload_n 2, 1) := by decide +kernel
theorem dc_L_law_744 : decode cd_L_law 744 = .ok (.invokevirtual 67, 3) := by decide +kernel
theorem dc_L_law_747 : decode cd_L_law 747 = .ok (.iload 5, 2) := by decide +kernel
theorem dc_L_law_749 : decode cd_L_law 749 = .ok (.if_icmp .eq 5, 3) := by decide +kernel
theorem dc_L_law_752 : decode cd_L_law 752 = .ok (.iconst 0, 1) := by decide +kernel
theorem dc_L_law_753 : decode cd_L_law 753 = .ok (.ireturn, 1) := by decide +kernel
theorem dc_L_law_754 : decode cd_L_law 754 = .ok (.iload 5, 2) := by decide +kernel
theorem dc_L_law_756 : decode cd_L_law 756 = .ok (.ifCond .ne 15, 3) := by decide +kernel
theorem dc_L_law_759 : decode cd_L_law 759 = .ok (.aload_n 3, 1) := by decide +kernel
theorem dc_L_law_760 : decode cd_L_law 760 = .ok (.iconst 0, 1) := by decide +kernel
theorem dc_L_law_761 : decode cd_L_law 761 = .ok (.laload, 1) := by decide +kernel
theorem dc_L_law_762 : decode cd_L_law 762 = .ok (.iload 6, 2) := by decide +kernel
theorem dc_L_law_764 : decode cd_L_law 764 = .ok (.i2l, 1) := by decide +kernel
theorem dc_L_law_765 : decode cd_L_law 765 = .ok (.lcmp, 1) := by decide +kernel
theorem dc_L_law_766 : decode cd_L_law 766 = .ok (.ifCond .eq 5, 3) := by decide +kernel
theorem dc_L_law_769 : decode cd_L_law 769 = .ok (.iconst 0, 1) := by decide +kernel
theorem dc_L_law_770 : decode cd_L_law 770 = .ok (.ireturn, 1) := by decide +kernel
theorem dc_L_law_771 : decode cd_L_law 771 = .ok (.goto 164, 3) := by decide +kernel
theorem dc_L_law_774 : decode cd_L_law 774 = .ok (.aload_n 1, 1) := by decide +kernel
theorem dc_L_law_775 : decode cd_L_law 775 = .ok (.aload_n 0, 1) := by decide +kernel
theorem dc_L_law_776 : decode cd_L_law 776 = .ok (.iload 4, 2) := by decide +kernel
theorem dc_L_law_778 : decode cd_L_law 778 = .ok (.iconst 1, 1) := by decide +kernel
theorem dc_L_law_779 : decode cd_L_law 779 = .ok (.iadd, 1) := by decide +kernel
theorem dc_L_law_780 : decode cd_L_law 780 = .ok (.iaload, 1) := by decide +kernel
theorem dc_L_law_781 : decode cd_L_law 781 = .ok (.aload_n 0, 1) := by decide +kernel
theorem dc_L_law_782 : decode cd_L_law 782 = .ok (.iload 4, 2) := by decide +kernel
theorem dc_L_law_784 : decode cd_L_law 784 = .ok (.iconst 2, 1) := by decide +kernel
theorem dc_L_law_785 : decode cd_L_law 785 = .ok (.iadd, 1) := by decide +kernel
theorem dc_L_law_786 : decode cd_L_law 786 = .ok (.iaload, 1) := by decide +kernel
theorem dc_L_law_787 : decode cd_L_law 787 = .ok (.aload_n 3, 1) := by decide +kernel
theorem dc_L_law_788 : decode cd_L_law 788 = .ok (.invokestatic 101, 3) := by decide +kernel
theorem dc_L_law_791 : decode cd_L_law 791 = .ok (.istore 5, 2) := by decide +kernel
theorem dc_L_law_793 : decode cd_L_law 793 = .ok (.aload_n 2, 1) := by decide +kernel
theorem dc_L_law_794 : decode cd_L_law 794 = .ok (.aload_n 0, 1) := by decide +kernel
theorem dc_L_law_795 : decode cd_L_law 795 = .ok (.iload 4, 2) := by decide +kernel
theorem dc_L_law_797 : decode cd_L_law 797 = .ok (.iconst 1, 1) := by decide +kernel
theorem dc_L_law_798 : decode cd_L_law 798 = .ok (.iadd, 1) := by decide +kernel
theorem dc_L_law_799 : decode cd_L_law 799 = .ok (.iaload, 1) := by decide +kernel
theorem dc_L_law_800 : decode cd_L_law 800 = .ok (.aload_n 0, 1) := by decide +kernel
theorem dc_L_law_801 : decode cd_L_law 801 = .ok (.iload 4, 2) := by decide +kernel
theorem dc_L_law_803 : decode cd_L_law 803 = .ok (.iconst 2, 1) := by decide +kernel
theorem dc_L_law_804 : decode cd_L_law 804 = .ok (.iadd, 1) := by decide +kernel
theorem dc_L_law_805 : decode cd_L_law 805 = .ok (.iaload, 1) := by decide +kernel
theorem dc_L_law_806 : decode cd_L_law 806 = .ok (.invokevirtual 103, 3) := by decide +kernel
theorem dc_L_law_809 : decode cd_L_law 809 = .ok (.istore 6, 2) := by decide +kernel
theorem dc_L_law_811 : decode cd_L_law 811 = .ok (.aload_n 2, 1) := by decide +kernel
theorem dc_L_law_812 : decode cd_L_law 812 = .ok (.invokevirtual 67, 3) := by decide +kernel
theorem dc_L_law_815 : decode cd_L_law 815 = .ok (.iload 5, 2) := by decide +kernel
theorem dc_L_law_817 : decode cd_L_law 817 = .ok (.if_icmp .eq 5, 3) := by decide +kernel
theorem dc_L_law_820 : decode cd_L_law 820 = .ok (.iconst 0, 1) := by decide +kernel
theorem dc_L_law_821 : decode cd_L_law 821 = .ok (.ireturn, 1) := by decide +kernel
theorem dc_L_law_822 : decode cd_L_law 822 = .ok (.iload 5, 2) := by decide +kernel
theorem dc_L_law_824 : decode cd_L_law 824 = .ok (.ifCond .ne 15, 3) := by decide +kernel
theorem dc_L_law_827 : decode cd_L_law 827 = .ok (.aload_n 3, 1) := by decide +kernel
theorem dc_L_law_828 : decode cd_L_law 828 = .ok (.iconst 0, 1) := by decide +kernel
theorem dc_L_law_829 : decode cd_L_law 829 = .ok (.laload, 1) := by decide +kernel
theorem dc_L_law_830 : decode cd_L_law 830 = .ok (.iload 6, 2) := by decide +kernel
theorem dc_L_law_832 : decode cd_L_law 832 = .ok (.i2l, 1) := by decide +kernel
theorem dc_L_law_833 : decode cd_L_law 833 = .ok (.lcmp, 1) := by decide +kernel
theorem dc_L_law_834 : decode cd_L_law 834 = .ok (.ifCond .eq 5, 3) := by decide +kernel
theorem dc_L_law_837 : decode cd_L_law 837 = .ok (.iconst 0, 1) := by decide +kernel
theorem dc_L_law_838 : decode cd_L_law 838 = .ok (.ireturn, 1) := by decide +kernel
theorem dc_L_law_839 : decode cd_L_law 839 = .ok (.goto 96, 3) := by decide +kernel
theorem dc_L_law_842 : decode cd_L_law 842 = .ok (.aload_n 1, 1) := by decide +kernel
theorem dc_L_law_843 : decode cd_L_law 843 = .ok (.aload_n 0, 1) := by decide +kernel
theorem dc_L_law_844 : decode cd_L_law 844 = .ok (.iload 4, 2) := by decide +kernel
theorem dc_L_law_846 : decode cd_L_law 846 = .ok (.iconst 1, 1) := by decide +kernel
theorem dc_L_law_847 : decode cd_L_law 847 = .ok (.iadd, 1) := by decide +kernel
theorem dc_L_law_848 : decode cd_L_law 848 = .ok (.iaload, 1) := by decide +kernel
theorem dc_L_law_849 : decode cd_L_law 849 = .ok (.aload_n 0, 1) := by decide +kernel
theorem dc_L_law_850 : decode cd_L_law 850 = .ok (.iload 4, 2) := by decide +kernel
theorem dc_L_law_852 : decode cd_L_law 852 = .ok (.iconst 2, 1) := by decide +kernel
theorem dc_L_law_853 : decode cd_L_law 853 = .ok (.iadd, 1) := by decide +kernel
theorem dc_L_law_854 : decode cd_L_law 854 = .ok (.iaload, 1) := by decide +kernel
theorem dc_L_law_855 : decode cd_L_law 855 = .ok (.aload_n 3, 1) := by decide +kernel
theorem dc_L_law_856 : decode cd_L_law 856 = .ok (.invokestatic 104, 3) := by decide +kernel
theorem dc_L_law_859 : decode cd_L_law 859 = .ok (.istore 5, 2) := by decide +kernel
theorem dc_L_law_861 : decode cd_L_law 861 = .ok (.aload_n 2, 1) := by decide +kernel
theorem dc_L_law_862 : decode cd_L_law 862 = .ok (.aload_n 0, 1) := by decide +kernel
theorem dc_L_law_863 : decode cd_L_law 863 = .ok (.iload 4, 2) := by decide +kernel
theorem dc_L_law_865 : decode cd_L_law 865 = .ok (.iconst 1, 1) := by decide +kernel
theorem dc_L_law_866 : decode cd_L_law 866 = .ok (.iadd, 1) := by decide +kernel
theorem dc_L_law_867 : decode cd_L_law 867 = .ok (.iaload, 1) := by decide +kernel
theorem dc_L_law_868 : decode cd_L_law 868 = .ok (.aload_n 0, 1) := by decide +kernel
theorem dc_L_law_869 : decode cd_L_law 869 = .ok (.iload 4, 2) := by decide +kernel
theorem dc_L_law_871 : decode cd_L_law 871 = .ok (.iconst 2, 1) := by decide +kernel
theorem dc_L_law_872 : decode cd_L_law 872 = .ok (.iadd, 1) := by decide +kernel
theorem dc_L_law_873 : decode cd_L_law 873 = .ok (.iaload, 1) := by decide +kernel
theorem dc_L_law_874 : decode cd_L_law 874 = .ok (.invokevirtual 106, 3) := by decide +kernel
theorem dc_L_law_877 : decode cd_L_law 877 = .ok (.istore 6, 2) := by decide +kernel
theorem dc_L_law_879 : decode cd_L_law 879 = .ok (.aload_n 2, 1) := by decide +kernel
theorem dc_L_law_880 : decode cd_L_law 880 = .ok (.invokevirtual 67, 3) := by decide +kernel
theorem dc_L_law_883 : decode cd_L_law 883 = .ok (.iload 5, 2) := by decide +kernel
theorem dc_L_law_885 : decode cd_L_law 885 = .ok (.if_icmp .eq 5, 3) := by decide +kernel
theorem dc_L_law_888 : decode cd_L_law 888 = .ok (.iconst 0, 1) := by decide +kernel
theorem dc_L_law_889 : decode cd_L_law 889 = .ok (.ireturn, 1) := by decide +kernel
theorem dc_L_law_890 : decode cd_L_law 890 = .ok (.iload 5, 2) := by decide +kernel
theorem dc_L_law_892 : decode cd_L_law 892 = .ok (.ifCond .ne 15, 3) := by decide +kernel
theorem dc_L_law_895 : decode cd_L_law 895 = .ok (.aload_n 3, 1) := by decide +kernel
theorem dc_L_law_896 : decode cd_L_law 896 = .ok (.iconst 0, 1) := by decide +kernel
theorem dc_L_law_897 : decode cd_L_law 897 = .ok (.laload, 1) := by decide +kernel
theorem dc_L_law_898 : decode cd_L_law 898 = .ok (.iload 6, 2) := by decide +kernel
theorem dc_L_law_900 : decode cd_L_law 900 = .ok (.i2l, 1) := by decide +kernel
theorem dc_L_law_901 : decode cd_L_law 901 = .ok (.lcmp, 1) := by decide +kernel
theorem dc_L_law_902 : decode cd_L_law 902 = .ok (.ifCond .eq 5, 3) := by decide +kernel
theorem dc_L_law_905 : decode cd_L_law 905 = .ok (.iconst 0, 1) := by decide +kernel
theorem dc_L_law_906 : decode cd_L_law 906 = .ok (.ireturn, 1) := by decide +kernel
theorem dc_L_law_907 : decode cd_L_law 907 = .ok (.goto 28, 3) := by decide +kernel
theorem dc_L_law_910 : decode cd_L_law 910 = .ok (.aload_n 1, 1) := by decide +kernel
theorem dc_L_law_911 : decode cd_L_law 911 = .ok (.aload_n 0, 1) := by decide +kernel
theorem dc_L_law_912 : decode cd_L_law 912 = .ok (.iload 4, 2) := by decide +kernel
theorem dc_L_law_914 : decode cd_L_law 914 = .ok (.iconst 1, 1) := by decide +kernel
theorem dc_L_law_915 : decode cd_L_law 915 = .ok (.iadd, 1) := by decide +kernel
theorem dc_L_law_916 : decode cd_L_law 916 = .ok (.iaload, 1) := by decide +kernel
theorem dc_L_law_917 : decode cd_L_law 917 = .ok (.invokevirtual 107, 3) := by decide +kernel
theorem dc_L_law_920 : decode cd_L_law 920 = .ok (.aload_n 2, 1) := by decide +kernel
theorem dc_L_law_921 : decode cd_L_law 921 = .ok (.aload_n 0, 1) := by decide +kernel
theorem dc_L_law_922 : decode cd_L_law 922 = .ok (.iload 4, 2) := by decide +kernel
theorem dc_L_law_924 : decode cd_L_law 924 = .ok (.iconst 1, 1) := by decide +kernel
theorem dc_L_law_925 : decode cd_L_law 925 = .ok (.iadd, 1) := by decide +kernel
theorem dc_L_law_926 : decode cd_L_law 926 = .ok (.iaload, 1) := by decide +kernel
theorem dc_L_law_927 : decode cd_L_law 927 = .ok (.invokevirtual 110, 3) := by decide +kernel
theorem dc_L_law_930 : decode cd_L_law 930 = .ok (.if_icmp .eq 5, 3) := by decide +kernel
theorem dc_L_law_933 : decode cd_L_law 933 = .ok (.iconst 0, 1) := by decide +kernel
theorem dc_L_law_934 : decode cd_L_law 934 = .ok (.ireturn, 1) := by decide +kernel
theorem dc_L_law_935 : decode cd_L_law 935 = .ok (.iinc 4 7, 3) := by decide +kernel
theorem dc_L_law_938 : decode cd_L_law 938 = .ok (.goto (-915), 3) := by decide +kernel
theorem dc_L_law_941 : decode cd_L_law 941 = .ok (.iconst 1, 1) := by decide +kernel
theorem dc_L_law_942 : decode cd_L_law 942 = .ok (.ireturn, 1) := by decide +kernel
