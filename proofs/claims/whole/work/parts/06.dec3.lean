theorem dc_S_init_0 : decode cd_S_init 0 = .ok (.aload_n 0, 1) := by decide +kernel
theorem dc_S_init_1 : decode cd_S_init 1 = .ok (.invokespecial 3, 3) := by decide +kernel
theorem dc_S_init_4 : decode cd_S_init 4 = .ok (.aload_n 0, 1) := by decide +kernel
theorem dc_S_init_5 : decode cd_S_init 5 = .ok (.new 9, 3) := by decide +kernel
theorem dc_S_init_8 : decode cd_S_init 8 = .ok (.dup, 1) := by decide +kernel
theorem dc_S_init_9 : decode cd_S_init 9 = .ok (.invokespecial 11, 3) := by decide +kernel
theorem dc_S_init_12 : decode cd_S_init 12 = .ok (.putfield 12, 3) := by decide +kernel
theorem dc_S_init_15 : decode cd_S_init 15 = .ok (.aload_n 0, 1) := by decide +kernel
theorem dc_S_init_16 : decode cd_S_init 16 = .ok (.new 16, 3) := by decide +kernel
theorem dc_S_init_19 : decode cd_S_init 19 = .ok (.dup, 1) := by decide +kernel
theorem dc_S_init_20 : decode cd_S_init 20 = .ok (.invokespecial 18, 3) := by decide +kernel
theorem dc_S_init_23 : decode cd_S_init 23 = .ok (.putfield 19, 3) := by decide +kernel
theorem dc_S_init_26 : decode cd_S_init 26 = .ok (.aload_n 0, 1) := by decide +kernel
theorem dc_S_init_27 : decode cd_S_init 27 = .ok (.bipush 12, 2) := by decide +kernel
theorem dc_S_init_29 : decode cd_S_init 29 = .ok (.anewarray 23, 3) := by decide +kernel
theorem dc_S_init_32 : decode cd_S_init 32 = .ok (.putfield 25, 3) := by decide +kernel
theorem dc_S_init_35 : decode cd_S_init 35 = .ok (.iconst 0, 1) := by decide +kernel
theorem dc_S_init_36 : decode cd_S_init 36 = .ok (.istore_n 1, 1) := by decide +kernel
theorem dc_S_init_37 : decode cd_S_init 37 = .ok (.iload_n 1, 1) := by decide +kernel
theorem dc_S_init_38 : decode cd_S_init 38 = .ok (.bipush 12, 2) := by decide +kernel
theorem dc_S_init_40 : decode cd_S_init 40 = .ok (.if_icmp .ge 22, 3) := by decide +kernel
theorem dc_S_init_43 : decode cd_S_init 43 = .ok (.aload_n 0, 1) := by decide +kernel
theorem dc_S_init_44 : decode cd_S_init 44 = .ok (.getfield 25, 3) := by decide +kernel
theorem dc_S_init_47 : decode cd_S_init 47 = .ok (.iload_n 1, 1) := by decide +kernel
theorem dc_S_init_48 : decode cd_S_init 48 = .ok (.new 23, 3) := by decide +kernel
theorem dc_S_init_51 : decode cd_S_init 51 = .ok (.dup, 1) := by decide +kernel
theorem dc_S_init_52 : decode cd_S_init 52 = .ok (.invokespecial 29, 3) := by decide +kernel
theorem dc_S_init_55 : decode cd_S_init 55 = .ok (.aastore, 1) := by decide +kernel
theorem dc_S_init_56 : decode cd_S_init 56 = .ok (.iinc 1 1, 3) := by decide +kernel
theorem dc_S_init_59 : decode cd_S_init 59 = .ok (.goto (-22), 3) := by decide +kernel
theorem dc_S_init_62 : decode cd_S_init 62 = .ok (.aload_n 0, 1) := by decide +kernel
theorem dc_S_init_63 : decode cd_S_init 63 = .ok (.bipush 20, 2) := by decide +kernel
theorem dc_S_init_65 : decode cd_S_init 65 = .ok (.putfield 30, 3) := by decide +kernel
theorem dc_S_init_68 : decode cd_S_init 68 = .ok (.return_, 1) := by decide +kernel
theorem dc_S_plug_0 : decode cd_S_plug 0 = .ok (.iload_n 1, 1) := by decide +kernel
theorem dc_S_plug_1 : decode cd_S_plug 1 = .ok (.invokestatic 34, 3) := by decide +kernel
theorem dc_S_plug_4 : decode cd_S_plug 4 = .ok (.iload_n 3, 1) := by decide +kernel
theorem dc_S_plug_5 : decode cd_S_plug 5 = .ok (.invokestatic 34, 3) := by decide +kernel
theorem dc_S_plug_8 : decode cd_S_plug 8 = .ok (.iload_n 2, 1) := by decide +kernel
theorem dc_S_plug_9 : decode cd_S_plug 9 = .ok (.invokestatic 38, 3) := by decide +kernel
theorem dc_S_plug_12 : decode cd_S_plug 12 = .ok (.iload 4, 2) := by decide +kernel
theorem dc_S_plug_14 : decode cd_S_plug 14 = .ok (.invokestatic 38, 3) := by decide +kernel
theorem dc_S_plug_17 : decode cd_S_plug 17 = .ok (.iload_n 1, 1) := by decide +kernel
theorem dc_S_plug_18 : decode cd_S_plug 18 = .ok (.iload_n 3, 1) := by decide +kernel
theorem dc_S_plug_19 : decode cd_S_plug 19 = .ok (.if_icmp .ne 13, 3) := by decide +kernel
theorem dc_S_plug_22 : decode cd_S_plug 22 = .ok (.new 41, 3) := by decide +kernel
theorem dc_S_plug_25 : decode cd_S_plug 25 = .ok (.dup, 1) := by decide +kernel
theorem dc_S_plug_26 : decode cd_S_plug 26 = .ok (.ldc 43, 2) := by decide +kernel
theorem dc_S_plug_28 : decode cd_S_plug 28 = .ok (.invokespecial 45, 3) := by decide +kernel
theorem dc_S_plug_31 : decode cd_S_plug 31 = .ok (.athrow, 1) := by decide +kernel
theorem dc_S_plug_32 : decode cd_S_plug 32 = .ok (.aload_n 0, 1) := by decide +kernel
theorem dc_S_plug_33 : decode cd_S_plug 33 = .ok (.getfield 12, 3) := by decide +kernel
theorem dc_S_plug_36 : decode cd_S_plug 36 = .ok (.iload_n 1, 1) := by decide +kernel
theorem dc_S_plug_37 : decode cd_S_plug 37 = .ok (.iload_n 2, 1) := by decide +kernel
theorem dc_S_plug_38 : decode cd_S_plug 38 = .ok (.invokevirtual 48, 3) := by decide +kernel
theorem dc_S_plug_41 : decode cd_S_plug 41 = .ok (.iconst (-1), 1) := by decide +kernel
theorem dc_S_plug_42 : decode cd_S_plug 42 = .ok (.if_icmp .ne 17, 3) := by decide +kernel
theorem dc_S_plug_45 : decode cd_S_plug 45 = .ok (.aload_n 0, 1) := by decide +kernel
theorem dc_S_plug_46 : decode cd_S_plug 46 = .ok (.getfield 12, 3) := by decide +kernel
theorem dc_S_plug_49 : decode cd_S_plug 49 = .ok (.iload_n 3, 1) := by decide +kernel
theorem dc_S_plug_50 : decode cd_S_plug 50 = .ok (.iload 4, 2) := by decide +kernel
theorem dc_S_plug_52 : decode cd_S_plug 52 = .ok (.invokevirtual 48, 3) := by decide +kernel
theorem dc_S_plug_55 : decode cd_S_plug 55 = .ok (.iconst (-1), 1) := by decide +kernel
theorem dc_S_plug_56 : decode cd_S_plug 56 = .ok (.if_icmp .eq 13, 3) := by decide +kernel
theorem dc_S_plug_59 : decode cd_S_plug 59 = .ok (.new 52, 3) := by decide +kernel
theorem dc_S_plug_62 : decode cd_S_plug 62 = .ok (.dup, 1) := by decide +kernel
theorem dc_S_plug_63 : decode cd_S_plug 63 = .ok (.ldc 54, 2) := by decide +kernel
theorem dc_S_plug_65 : decode cd_S_plug 65 = .ok (.invokespecial 56, 3) := by decide +kernel
theorem dc_S_plug_68 : decode cd_S_plug 68 = .ok (.athrow, 1) := by decide +kernel
theorem dc_S_plug_69 : decode cd_S_plug 69 = .ok (.aload_n 0, 1) := by decide +kernel
theorem dc_S_plug_70 : decode cd_S_plug 70 = .ok (.getfield 12, 3) := by decide +kernel
theorem dc_S_plug_73 : decode cd_S_plug 73 = .ok (.iload_n 1, 1) := by decide +kernel
theorem dc_S_plug_74 : decode cd_S_plug 74 = .ok (.iload_n 2, 1) := by decide +kernel
theorem dc_S_plug_75 : decode cd_S_plug 75 = .ok (.iload_n 3, 1) := by decide +kernel
theorem dc_S_plug_76 : decode cd_S_plug 76 = .ok (.iload 4, 2) := by decide +kernel
theorem dc_S_plug_78 : decode cd_S_plug 78 = .ok (.invokevirtual 57, 3) := by decide +kernel
theorem dc_S_plug_81 : decode cd_S_plug 81 = .ok (.aload_n 0, 1) := by decide +kernel
theorem dc_S_plug_82 : decode cd_S_plug 82 = .ok (.getfield 25, 3) := by decide +kernel
theorem dc_S_plug_85 : decode cd_S_plug 85 = .ok (.iload_n 1, 1) := by decide +kernel
theorem dc_S_plug_86 : decode cd_S_plug 86 = .ok (.aaload, 1) := by decide +kernel
theorem dc_S_plug_87 : decode cd_S_plug 87 = .ok (.iconst 1, 1) := by decide +kernel
theorem dc_S_plug_88 : decode cd_S_plug 88 = .ok (.putfield 61, 3) := by decide +kernel
theorem dc_S_plug_91 : decode cd_S_plug 91 = .ok (.aload_n 0, 1) := by decide +kernel
theorem dc_S_plug_92 : decode cd_S_plug 92 = .ok (.getfield 25, 3) := by decide +kernel
theorem dc_S_plug_95 : decode cd_S_plug 95 = .ok (.iload_n 3, 1) := by decide +kernel
theorem dc_S_plug_96 : decode cd_S_plug 96 = .ok (.aaload, 1) := by decide +kernel
theorem dc_S_plug_97 : decode cd_S_plug 97 = .ok (.iconst 1, 1) := by decide +kernel
theorem dc_S_plug_98 : decode cd_S_plug 98 = .ok (.putfield 61, 3) := by decide +kernel
theorem dc_S_plug_101 : decode cd_S_plug 101 = .ok (.aload_n 0, 1) := by decide +kernel
theorem dc_S_plug_102 : decode cd_S_plug 102 = .ok (.getfield 12, 3) := by decide +kernel
theorem dc_S_plug_105 : decode cd_S_plug 105 = .ok (.getfield 65, 3) := by decide +kernel
theorem dc_S_plug_108 : decode cd_S_plug 108 = .ok (.ireturn, 1) := by decide +kernel
theorem dc_S_unplug_0 : decode cd_S_unplug 0 = .ok (.iload_n 1, 1) := by decide +kernel
theorem dc_S_unplug_1 : decode cd_S_unplug 1 = .ok (.invokestatic 34, 3) := by decide +kernel
theorem dc_S_unplug_4 : decode cd_S_unplug 4 = .ok (.iload_n 2, 1) := by decide +kernel
theorem dc_S_unplug_5 : decode cd_S_unplug 5 = .ok (.invokestatic 38, 3) := by decide +kernel
theorem dc_S_unplug_8 : decode cd_S_unplug 8 = .ok (.aload_n 0, 1) := by decide +kernel
theorem dc_S_unplug_9 : decode cd_S_unplug 9 = .ok (.getfield 12, 3) := by decide +kernel
theorem dc_S_unplug_12 : decode cd_S_unplug 12 = .ok (.iload_n 1, 1) := by decide +kernel
theorem dc_S_unplug_13 : decode cd_S_unplug 13 = .ok (.iload_n 2, 1) := by decide +kernel
theorem dc_S_unplug_14 : decode cd_S_unplug 14 = .ok (.invokevirtual 48, 3) := by decide +kernel
theorem dc_S_unplug_17 : decode cd_S_unplug 17 = .ok (.istore_n 3, 1) := by decide +kernel
theorem dc_S_unplug_18 : decode cd_S_unplug 18 = .ok (.iload_n 3, 1) := by decide +kernel
theorem dc_S_unplug_19 : decode cd_S_unplug 19 = .ok (.iconst (-1), 1) := by decide +kernel
theorem dc_S_unplug_20 : decode cd_S_unplug 20 = .ok (.if_icmp .ne 13, 3) := by decide +kernel
theorem dc_S_unplug_23 : decode cd_S_unplug 23 = .ok (.new 52, 3) := by decide +kernel
theorem dc_S_unplug_26 : decode cd_S_unplug 26 = .ok (.dup, 1) := by decide +kernel
theorem dc_S_unplug_27 : decode cd_S_unplug 27 = .ok (.ldc 68, 2) := by decide +kernel
theorem dc_S_unplug_29 : decode cd_S_unplug 29 = .ok (.invokespecial 56, 3) := by decide +kernel
theorem dc_S_unplug_32 : decode cd_S_unplug 32 = .ok (.athrow, 1) := by decide +kernel
theorem dc_S_unplug_33 : decode cd_S_unplug 33 = .ok (.aload_n 0, 1) := by decide +kernel
theorem dc_S_unplug_34 : decode cd_S_unplug 34 = .ok (.getfield 12, 3) := by decide +kernel
theorem dc_S_unplug_37 : decode cd_S_unplug 37 = .ok (.iload_n 1, 1) := by decide +kernel
theorem dc_S_unplug_38 : decode cd_S_unplug 38 = .ok (.iload_n 2, 1) := by decide +kernel
theorem dc_S_unplug_39 : decode cd_S_unplug 39 = .ok (.invokevirtual 70, 3) := by decide +kernel
theorem dc_S_unplug_42 : decode cd_S_unplug 42 = .ok (.aload_n 0, 1) := by decide +kernel
theorem dc_S_unplug_43 : decode cd_S_unplug 43 = .ok (.getfield 25, 3) := by decide +kernel
theorem dc_S_unplug_46 : decode cd_S_unplug 46 = .ok (.iload_n 1, 1) := by decide +kernel
theorem dc_S_unplug_47 : decode cd_S_unplug 47 = .ok (.aaload, 1) := by decide +kernel
theorem dc_S_unplug_48 : decode cd_S_unplug 48 = .ok (.iconst 1, 1) := by decide +kernel
theorem dc_S_unplug_49 : decode cd_S_unplug 49 = .ok (.putfield 61, 3) := by decide +kernel
theorem dc_S_unplug_52 : decode cd_S_unplug 52 = .ok (.aload_n 0, 1) := by decide +kernel
theorem dc_S_unplug_53 : decode cd_S_unplug 53 = .ok (.getfield 25, 3) := by decide +kernel
theorem dc_S_unplug_56 : decode cd_S_unplug 56 = .ok (.iload_n 3, 1) := by decide +kernel
theorem dc_S_unplug_57 : decode cd_S_unplug 57 = .ok (.aaload, 1) := by decide +kernel
theorem dc_S_unplug_58 : decode cd_S_unplug 58 = .ok (.iconst 1, 1) := by decide +kernel
theorem dc_S_unplug_59 : decode cd_S_unplug 59 = .ok (.putfield 61, 3) := by decide +kernel
theorem dc_S_unplug_62 : decode cd_S_unplug 62 = .ok (.iload_n 3, 1) := by decide +kernel
theorem dc_S_unplug_63 : decode cd_S_unplug 63 = .ok (.ireturn, 1) := by decide +kernel
theorem dc_S_reset_0 : decode cd_S_reset 0 = .ok (.iload_n 1, 1) := by decide +kernel
theorem dc_S_reset_1 : decode cd_S_reset 1 = .ok (.invokestatic 34, 3) := by decide +kernel
theorem dc_S_reset_4 : decode cd_S_reset 4 = .ok (.aload_n 0, 1) := by decide +kernel
theorem dc_S_reset_5 : decode cd_S_reset 5 = .ok (.getfield 25, 3) := by decide +kernel
theorem dc_S_reset_8 : decode cd_S_reset 8 = .ok (.iload_n 1, 1) := by decide +kernel
theorem dc_S_reset_9 : decode cd_S_reset 9 = .ok (.aaload, 1) := by decide +kernel
theorem dc_S_reset_10 : decode cd_S_reset 10 = .ok (.astore 5, 2) := by decide +kernel
theorem dc_S_reset_12 : decode cd_S_reset 12 = .ok (.aload 5, 2) := by decide +kernel
theorem dc_S_reset_14 : decode cd_S_reset 14 = .ok (.iload_n 2, 1) := by decide +kernel
theorem dc_S_reset_15 : decode cd_S_reset 15 = .ok (.ldc 74, 2) := by decide +kernel
theorem dc_S_reset_17 : decode cd_S_reset 17 = .ok (.iand, 1) := by decide +kernel
theorem dc_S_reset_18 : decode cd_S_reset 18 = .ok (.putfield 75, 3) := by decide +kernel
theorem dc_S_reset_21 : decode cd_S_reset 21 = .ok (.aload 5, 2) := by decide +kernel
theorem dc_S_reset_23 : decode cd_S_reset 23 = .ok (.iconst 0, 1) := by decide +kernel
theorem dc_S_reset_24 : decode cd_S_reset 24 = .ok (.putfield 78, 3) := by decide +kernel
theorem dc_S_reset_27 : decode cd_S_reset 27 = .ok (.aload 5, 2) := by decide +kernel
theorem dc_S_reset_29 : decode cd_S_reset 29 = .ok (.iload_n 3, 1) := by decide +kernel
theorem dc_S_reset_30 : decode cd_S_reset 30 = .ok (.putfield 81, 3) := by decide +kernel
theorem dc_S_reset_33 : decode cd_S_reset 33 = .ok (.aload 5, 2) := by decide +kernel
theorem dc_S_reset_35 : decode cd_S_reset 35 = .ok (.iload 4, 2) := by decide +kernel
theorem dc_S_reset_37 : decode cd_S_reset 37 = .ok (.putfield 84, 3) := by decide +kernel
theorem dc_S_reset_40 : decode cd_S_reset 40 = .ok (.aload 5, 2) := by decide +kernel
theorem dc_S_reset_42 : decode cd_S_reset 42 = .ok (.iconst 1, 1) := by decide +kernel
theorem dc_S_reset_43 : decode cd_S_reset 43 = .ok (.putfield 61, 3) := by decide +kernel
theorem dc_S_reset_46 : decode cd_S_reset 46 = .ok (.return_, 1) := by decide +kernel
theorem dc_S_ask_0 : decode cd_S_ask 0 = .ok (.iload_n 1, 1) := by decide +kernel
theorem dc_S_ask_1 : decode cd_S_ask 1 = .ok (.invokestatic 34, 3) := by decide +kernel
theorem dc_S_ask_4 : decode cd_S_ask 4 = .ok (.iload_n 2, 1) := by decide +kernel
theorem dc_S_ask_5 : decode cd_S_ask 5 = .ok (.invokestatic 34, 3) := by decide +kernel
theorem dc_S_ask_8 : decode cd_S_ask 8 = .ok (.iload 4, 2) := by decide +kernel
theorem dc_S_ask_10 : decode cd_S_ask 10 = .ok (.invokestatic 87, 3) := by decide +kernel
theorem dc_S_ask_13 : decode cd_S_ask 13 = .ok (.iload_n 3, 1) := by decide +kernel
theorem dc_S_ask_14 : decode cd_S_ask 14 = .ok (.ifCond .eq 23, 3) := by decide +kernel
theorem dc_S_ask_17 : decode cd_S_ask 17 = .ok (.iload_n 3, 1) := by decide +kernel
theorem dc_S_ask_18 : decode cd_S_ask 18 = .ok (.iconst 1, 1) := by decide +kernel
theorem dc_S_ask_19 : decode cd_S_ask 19 = .ok (.if_icmp .eq 18, 3) := by decide +kernel
theorem dc_S_ask_22 : decode cd_S_ask 22 = .ok (.iload_n 3, 1) := by decide +kernel
theorem dc_S_ask_23 : decode cd_S_ask 23 = .ok (.iconst 2, 1) := by decide +kernel
theorem dc_S_ask_24 : decode cd_S_ask 24 = .ok (.if_icmp .eq 13, 3) := by decide +kernel
theorem dc_S_ask_27 : decode cd_S_ask 27 = .ok (.new 41, 3) := by decide +kernel
theorem dc_S_ask_30 : decode cd_S_ask 30 = .ok (.dup, 1) := by decide +kernel
theorem dc_S_ask_31 : decode cd_S_ask 31 = .ok (.ldc 90, 2) := by decide +kernel
theorem dc_S_ask_33 : decode cd_S_ask 33 = .ok (.invokespecial 45, 3) := by decide +kernel
theorem dc_S_ask_36 : decode cd_S_ask 36 = .ok (.athrow, 1) := by decide +kernel
theorem dc_S_ask_37 : decode cd_S_ask 37 = .ok (.aload_n 0, 1) := by decide +kernel
theorem dc_S_ask_38 : decode cd_S_ask 38 = .ok (.getfield 25, 3) := by decide +kernel
theorem dc_S_ask_41 : decode cd_S_ask 41 = .ok (.iload_n 1, 1) := by decide +kernel
theorem dc_S_ask_42 : decode cd_S_ask 42 = .ok (.aaload, 1) := by decide +kernel
theorem dc_S_ask_43 : decode cd_S_ask 43 = .ok (.astore 7, 2) := by decide +kernel
theorem dc_S_ask_45 : decode cd_S_ask 45 = .ok (.aload 7, 2) := by decide +kernel
theorem dc_S_ask_47 : decode cd_S_ask 47 = .ok (.invokevirtual 92, 3) := by decide +kernel
theorem dc_S_ask_50 : decode cd_S_ask 50 = .ok (.istore 8, 2) := by decide +kernel
theorem dc_S_ask_52 : decode cd_S_ask 52 = .ok (.iload 8, 2) := by decide +kernel
theorem dc_S_ask_54 : decode cd_S_ask 54 = .ok (.iconst (-1), 1) := by decide +kernel
theorem dc_S_ask_55 : decode cd_S_ask 55 = .ok (.if_icmp .ne 13, 3) := by decide +kernel
theorem dc_S_ask_58 : decode cd_S_ask 58 = .ok (.new 52, 3) := by decide +kernel
theorem dc_S_ask_61 : decode cd_S_ask 61 = .ok (.dup, 1) := by decide +kernel
theorem dc_S_ask_62 : decode cd_S_ask 62 = .ok (.ldc 96, 2) := by decide +kernel
theorem dc_S_ask_64 : decode cd_S_ask 64 = .ok (.invokespecial 56, 3) := by decide +kernel
theorem dc_S_ask_67 : decode cd_S_ask 67 = .ok (.athrow, 1) := by decide +kernel
theorem dc_S_ask_68 : decode cd_S_ask 68 = .ok (.aload 7, 2) := by decide +kernel
theorem dc_S_ask_70 : decode cd_S_ask 70 = .ok (.getfield 98, 3) := by decide +kernel
theorem dc_S_ask_73 : decode cd_S_ask 73 = .ok (.invokevirtual 102, 3) := by decide +kernel
theorem dc_S_ask_76 : decode cd_S_ask 76 = .ok (.ifCond .eq 13, 3) := by decide +kernel
theorem dc_S_ask_79 : decode cd_S_ask 79 = .ok (.new 108, 3) := by decide +kernel
theorem dc_S_ask_82 : decode cd_S_ask 82 = .ok (.dup, 1) := by decide +kernel
theorem dc_S_ask_83 : decode cd_S_ask 83 = .ok (.ldc 110, 2) := by decide +kernel
theorem dc_S_ask_85 : decode cd_S_ask 85 = .ok (.invokespecial 112, 3) := by decide +kernel
theorem dc_S_ask_88 : decode cd_S_ask 88 = .ok (.athrow, 1) := by decide +kernel
theorem dc_S_ask_89 : decode cd_S_ask 89 = .ok (.new 113, 3) := by decide +kernel
theorem dc_S_ask_92 : decode cd_S_ask 92 = .ok (.dup, 1) := by decide +kernel
theorem dc_S_ask_93 : decode cd_S_ask 93 = .ok (.iload_n 2, 1) := by decide +kernel
theorem dc_S_ask_94 : decode cd_S_ask 94 = .ok (.iload_n 3, 1) := by decide +kernel
theorem dc_S_ask_95 : decode cd_S_ask 95 = .ok (.iload 4, 2) := by decide +kernel
theorem dc_S_ask_97 : decode cd_S_ask 97 = .ok (.iload 5, 2) := by decide +kernel
theorem dc_S_ask_99 : decode cd_S_ask 99 = .ok (.iload 6, 2) := by decide +kernel
theorem dc_S_ask_101 : decode cd_S_ask 101 = .ok (.aload_n 0, 1) := by decide +kernel
theorem dc_S_ask_102 : decode cd_S_ask 102 = .ok (.getfield 115, 3) := by decide +kernel
theorem dc_S_ask_105 : decode cd_S_ask 105 = .ok (.aload_n 0, 1) := by decide +kernel
theorem dc_S_ask_106 : decode cd_S_ask 106 = .ok (.getfield 30, 3) := by decide +kernel
theorem dc_S_ask_109 : decode cd_S_ask 109 = .ok (.iadd, 1) := by decide +kernel
theorem dc_S_ask_110 : decode cd_S_ask 110 = .ok (.invokespecial 118, 3) := by decide +kernel
theorem dc_S_ask_113 : decode cd_S_ask 113 = .ok (.astore 9, 2) := by decide +kernel
theorem dc_S_ask_115 : decode cd_S_ask 115 = .ok (.aload 7, 2) := by decide +kernel
theorem dc_S_ask_117 : decode cd_S_ask 117 = .ok (.getfield 121, 3) := by decide +kernel
theorem dc_S_ask_120 : decode cd_S_ask 120 = .ok (.iload 8, 2) := by decide +kernel
theorem dc_S_ask_122 : decode cd_S_ask 122 = .ok (.aload 9, 2) := by decide +kernel
theorem dc_S_ask_124 : decode cd_S_ask 124 = .ok (.aastore, 1) := by decide +kernel
theorem dc_S_ask_125 : decode cd_S_ask 125 = .ok (.aload 7, 2) := by decide +kernel
theorem dc_S_ask_127 : decode cd_S_ask 127 = .ok (.getfield 98, 3) := by decide +kernel
theorem dc_S_ask_130 : decode cd_S_ask 130 = .ok (.aload 9, 2) := by decide +kernel
theorem dc_S_ask_132 : decode cd_S_ask 132 = .ok (.invokevirtual 125, 3) := by decide +kernel
theorem dc_S_ask_135 : decode cd_S_ask 135 = .ok (.iload 8, 2) := by decide +kernel
theorem dc_S_ask_137 : decode cd_S_ask 137 = .ok (.ireturn, 1) := by decide +kernel
theorem dc_S_talk_0 : decode cd_S_talk 0 = .ok (.iload_n 1, 1) := by decide +kernel
theorem dc_S_talk_1 : decode cd_S_talk 1 = .ok (.invokestatic 34, 3) := by decide +kernel
theorem dc_S_talk_4 : decode cd_S_talk 4 = .ok (.iload_n 2, 1) := by decide +kernel
theorem dc_S_talk_5 : decode cd_S_talk 5 = .ok (.ifCond .lt 9, 3) := by decide +kernel
theorem dc_S_talk_8 : decode cd_S_talk 8 = .ok (.iload_n 2, 1) := by decide +kernel
theorem dc_S_talk_9 : decode cd_S_talk 9 = .ok (.bipush 32, 2) := by decide +kernel
theorem dc_S_talk_11 : decode cd_S_talk 11 = .ok (.if_icmp .lt 13, 3) := by decide +kernel
theorem dc_S_talk_14 : decode cd_S_talk 14 = .ok (.new 41, 3) := by decide +kernel
theorem dc_S_talk_17 : decode cd_S_talk 17 = .ok (.dup, 1) := by decide +kernel
theorem dc_S_talk_18 : decode cd_S_talk 18 = .ok (.ldc 129, 2) := by decide +kernel
theorem dc_S_talk_20 : decode cd_S_talk 20 = .ok (.invokespecial 45, 3) := by decide +kernel
theorem dc_S_talk_23 : decode cd_S_talk 23 = .ok (.athrow, 1) := by decide +kernel
theorem dc_S_talk_24 : decode cd_S_talk 24 = .ok (.iload_n 3, 1) := by decide +kernel
theorem dc_S_talk_25 : decode cd_S_talk 25 = .ok (.ifCond .lt 9, 3) := by decide +kernel
theorem dc_S_talk_28 : decode cd_S_talk 28 = .ok (.iload_n 3, 1) := by decide +kernel
theorem dc_S_talk_29 : decode cd_S_talk 29 = .ok (.bipush 100, 2) := by decide +kernel
theorem dc_S_talk_31 : decode cd_S_talk 31 = .ok (.if_icmp .le 13, 3) := by decide +kernel
theorem dc_S_talk_34 : decode cd_S_talk 34 = .ok (.new 41, 3) := by decide +kernel
theorem dc_S_talk_37 : decode cd_S_talk 37 = .ok (.dup, 1) := by decide +kernel
theorem dc_S_talk_38 : decode cd_S_talk 38 = .ok (.ldc 131, 2) := by decide +kernel
theorem dc_S_talk_40 : decode cd_S_talk 40 = .ok (.invokespecial 45, 3) := by decide +kernel
theorem dc_S_talk_43 : decode cd_S_talk 43 = .ok (.athrow, 1) := by decide +kernel
theorem dc_S_talk_44 : decode cd_S_talk 44 = .ok (.aload_n 0, 1) := by decide +kernel
theorem dc_S_talk_45 : decode cd_S_talk 45 = .ok (.getfield 25, 3) := by decide +kernel
theorem dc_S_talk_48 : decode cd_S_talk 48 = .ok (.iload_n 1, 1) := by decide +kernel
theorem dc_S_talk_49 : decode cd_S_talk 49 = .ok (.aaload, 1) := by decide +kernel
theorem dc_S_talk_50 : decode cd_S_talk 50 = .ok (.iload_n 2, 1) := by decide +kernel
theorem dc_S_talk_51 : decode cd_S_talk 51 = .ok (.putfield 133, 3) := by decide +kernel
theorem dc_S_talk_54 : decode cd_S_talk 54 = .ok (.aload_n 0, 1) := by decide +kernel
theorem dc_S_talk_55 : decode cd_S_talk 55 = .ok (.getfield 25, 3) := by decide +kernel
theorem dc_S_talk_58 : decode cd_S_talk 58 = .ok (.iload_n 1, 1) := by decide +kernel
theorem dc_S_talk_59 : decode cd_S_talk 59 = .ok (.aaload, 1) := by decide +kernel
theorem dc_S_talk_60 : decode cd_S_talk 60 = .ok (.iload_n 3, 1) := by decide +kernel
theorem dc_S_talk_61 : decode cd_S_talk 61 = .ok (.putfield 136, 3) := by decide +kernel
theorem dc_S_talk_64 : decode cd_S_talk 64 = .ok (.return_, 1) := by decide +kernel
theorem dc_S_time_0 : decode cd_S_time 0 = .ok (.iload_n 1, 1) := by decide +kernel
theorem dc_S_time_1 : decode cd_S_time 1 = .ok (.iconst 2, 1) := by decide +kernel
theorem dc_S_time_2 : decode cd_S_time 2 = .ok (.if_icmp .lt 9, 3) := by decide +kernel
theorem dc_S_time_5 : decode cd_S_time 5 = .ok (.iload_n 1, 1) := by decide +kernel
theorem dc_S_time_6 : decode cd_S_time 6 = .ok (.bipush 60, 2) := by decide +kernel
theorem dc_S_time_8 : decode cd_S_time 8 = .ok (.if_icmp .le 13, 3) := by decide +kernel
theorem dc_S_time_11 : decode cd_S_time 11 = .ok (.new 41, 3) := by decide +kernel
theorem dc_S_time_14 : decode cd_S_time 14 = .ok (.dup, 1) := by decide +kernel
theorem dc_S_time_15 : decode cd_S_time 15 = .ok (.ldc 139, 2) := by decide +kernel
theorem dc_S_time_17 : decode cd_S_time 17 = .ok (.invokespecial 45, 3) := by decide +kernel
theorem dc_S_time_20 : decode cd_S_time 20 = .ok (.athrow, 1) := by decide +kernel
theorem dc_S_time_21 : decode cd_S_time 21 = .ok (.aload_n 0, 1) := by decide +kernel
theorem dc_S_time_22 : decode cd_S_time 22 = .ok (.iload_n 1, 1) := by decide +kernel
theorem dc_S_time_23 : decode cd_S_time 23 = .ok (.putfield 30, 3) := by decide +kernel
theorem dc_S_time_26 : decode cd_S_time 26 = .ok (.return_, 1) := by decide +kernel
theorem dc_S_tick_0 : decode cd_S_tick 0 = .ok (.iload_n 1, 1) := by decide +kernel
theorem dc_S_tick_1 : decode cd_S_tick 1 = .ok (.iconst 1, 1) := by decide +kernel
theorem dc_S_tick_2 : decode cd_S_tick 2 = .ok (.if_icmp .lt 9, 3) := by decide +kernel
theorem dc_S_tick_5 : decode cd_S_tick 5 = .ok (.iload_n 1, 1) := by decide +kernel
theorem dc_S_tick_6 : decode cd_S_tick 6 = .ok (.bipush 50, 2) := by decide +kernel
theorem dc_S_tick_8 : decode cd_S_tick 8 = .ok (.if_icmp .le 13, 3) := by decide +kernel
theorem dc_S_tick_11 : decode cd_S_tick 11 = .ok (.new 41, 3) := by decide +kernel
theorem dc_S_tick_14 : decode cd_S_tick 14 = .ok (.dup, 1) := by decide +kernel
theorem dc_S_tick_15 : decode cd_S_tick 15 = .ok (.ldc 141, 2) := by decide +kernel
theorem dc_S_tick_17 : decode cd_S_tick 17 = .ok (.invokespecial 45, 3) := by decide +kernel
theorem dc_S_tick_20 : decode cd_S_tick 20 = .ok (.athrow, 1) := by decide +kernel
theorem dc_S_tick_21 : decode cd_S_tick 21 = .ok (.iconst 0, 1) := by decide +kernel
theorem dc_S_tick_22 : decode cd_S_tick 22 = .ok (.istore_n 2, 1) := by decide +kernel
theorem dc_S_tick_23 : decode cd_S_tick 23 = .ok (.iload_n 2, 1) := by decide +kernel
theorem dc_S_tick_24 : decode cd_S_tick 24 = .ok (.iload_n 1, 1) := by decide +kernel
theorem dc_S_tick_25 : decode cd_S_tick 25 = .ok (.if_icmp .ge 53, 3) := by decide +kernel
theorem dc_S_tick_28 : decode cd_S_tick 28 = .ok (.iconst 0, 1) := by decide +kernel
theorem dc_S_tick_29 : decode cd_S_tick 29 = .ok (.istore_n 3, 1) := by decide +kernel
theorem dc_S_tick_30 : decode cd_S_tick 30 = .ok (.iload_n 3, 1) := by decide +kernel
theorem dc_S_tick_31 : decode cd_S_tick 31 = .ok (.bipush 12, 2) := by decide +kernel
theorem dc_S_tick_33 : decode cd_S_tick 33 = .ok (.if_icmp .ge 25, 3) := by decide +kernel
theorem dc_S_tick_36 : decode cd_S_tick 36 = .ok (.aload_n 0, 1) := by decide +kernel
theorem dc_S_tick_37 : decode cd_S_tick 37 = .ok (.getfield 12, 3) := by decide +kernel
theorem dc_S_tick_40 : decode cd_S_tick 40 = .ok (.iload_n 3, 1) := by decide +kernel
theorem dc_S_tick_41 : decode cd_S_tick 41 = .ok (.invokevirtual 143, 3) := by decide +kernel
theorem dc_S_tick_44 : decode cd_S_tick 44 = .ok (.ifCond .eq 8, 3) := by decide +kernel
theorem dc_S_tick_47 : decode cd_S_tick 47 = .ok (.aload_n 0, 1) := by decide +kernel
theorem dc_S_tick_48 : decode cd_S_tick 48 = .ok (.iload_n 3, 1) := by decide +kernel
theorem dc_S_tick_49 : decode cd_S_tick 49 = .ok (.invokevirtual 147, 3) := by decide +kernel
theorem dc_S_tick_52 : decode cd_S_tick 52 = .ok (.iinc 3 1, 3) := by decide +kernel
theorem dc_S_tick_55 : decode cd_S_tick 55 = .ok (.goto (-25), 3) := by decide +kernel
theorem dc_S_tick_58 : decode cd_S_tick 58 = .ok (.aload_n 0, 1) := by decide +kernel
theorem dc_S_tick_59 : decode cd_S_tick 59 = .ok (.dup, 1) := by decide +kernel
theorem dc_S_tick_60 : decode cd_S_tick 60 = .ok (.getfield 115, 3) := by decide +kernel
theorem dc_S_tick_63 : decode cd_S_tick 63 = .ok (.iconst 1, 1) := by decide +kernel
theorem dc_S_tick_64 : decode cd_S_tick 64 = .ok (.iadd, 1) := by decide +kernel
theorem dc_S_tick_65 : decode cd_S_tick 65 = .ok (.putfield 115, 3) := by decide +kernel
theorem dc_S_tick_68 : decode cd_S_tick 68 = .ok (.aload_n 0, 1) := by decide +kernel
theorem dc_S_tick_69 : decode cd_S_tick 69 = .ok (.invokevirtual 150, 3) := by decide +kernel
theorem dc_S_tick_72 : decode cd_S_tick 72 = .ok (.iinc 2 1, 3) := by decide +kernel
theorem dc_S_tick_75 : decode cd_S_tick 75 = .ok (.goto (-52), 3) := by decide +kernel
theorem dc_S_tick_78 : decode cd_S_tick 78 = .ok (.aload_n 0, 1) := by decide +kernel
theorem dc_S_tick_79 : decode cd_S_tick 79 = .ok (.getfield 115, 3) := by decide +kernel
theorem dc_S_tick_82 : decode cd_S_tick 82 = .ok (.ireturn, 1) := by decide +kernel
theorem dc_S_ended_0 : decode cd_S_ended 0 = .ok (.iload_n 1, 1) := by decide +kernel
theorem dc_S_ended_1 : decode cd_S_ended 1 = .ok (.invokestatic 34, 3) := by decide +kernel
theorem dc_S_ended_4 : decode cd_S_ended 4 = .ok (.iload_n 2, 1) := by decide +kernel
theorem dc_S_ended_5 : decode cd_S_ended 5 = .ok (.invokestatic 153, 3) := by decide +kernel
theorem dc_S_ended_8 : decode cd_S_ended 8 = .ok (.aload_n 0, 1) := by decide +kernel
theorem dc_S_ended_9 : decode cd_S_ended 9 = .ok (.getfield 25, 3) := by decide +kernel
theorem dc_S_ended_12 : decode cd_S_ended 12 = .ok (.iload_n 1, 1) := by decide +kernel
theorem dc_S_ended_13 : decode cd_S_ended 13 = .ok (.aaload, 1) := by decide +kernel
theorem dc_S_ended_14 : decode cd_S_ended 14 = .ok (.getfield 121, 3) := by decide +kernel
theorem dc_S_ended_17 : decode cd_S_ended 17 = .ok (.iload_n 2, 1) := by decide +kernel
theorem dc_S_ended_18 : decode cd_S_ended 18 = .ok (.aaload, 1) := by decide +kernel
theorem dc_S_ended_19 : decode cd_S_ended 19 = .ok (.astore_n 3, 1) := by decide +kernel
theorem dc_S_ended_20 : decode cd_S_ended 20 = .ok (.aload_n 3, 1) := by decide +kernel
theorem dc_S_ended_21 : decode cd_S_ended 21 = .ok (.ifnonnull 13, 3) := by decide +kernel
theorem dc_S_ended_24 : decode cd_S_ended 24 = .ok (.new 52, 3) := by decide +kernel
theorem dc_S_ended_27 : decode cd_S_ended 27 = .ok (.dup, 1) := by decide +kernel
theorem dc_S_ended_28 : decode cd_S_ended 28 = .ok (.ldc 156, 2) := by decide +kernel
theorem dc_S_ended_30 : decode cd_S_ended 30 = .ok (.invokespecial 56, 3) := by decide +kernel
theorem dc_S_ended_33 : decode cd_S_ended 33 = .ok (.athrow, 1) := by decide +kernel
theorem dc_S_ended_34 : decode cd_S_ended 34 = .ok (.aload_n 3, 1) := by decide +kernel
theorem dc_S_ended_35 : decode cd_S_ended 35 = .ok (.getfield 158, 3) := by decide +kernel
theorem dc_S_ended_38 : decode cd_S_ended 38 = .ok (.ireturn, 1) := by decide +kernel
theorem dc_S_value_0 : decode cd_S_value 0 = .ok (.iload_n 1, 1) := by decide +kernel
theorem dc_S_value_1 : decode cd_S_value 1 = .ok (.invokestatic 34, 3) := by decide +kernel
theorem dc_S_value_4 : decode cd_S_value 4 = .ok (.iload_n 2, 1) := by decide +kernel
theorem dc_S_value_5 : decode cd_S_value 5 = .ok (.invokestatic 153, 3) := by decide +kernel
theorem dc_S_value_8 : decode cd_S_value 8 = .ok (.aload_n 0, 1) := by decide +kernel
theorem dc_S_value_9 : decode cd_S_value 9 = .ok (.getfield 25, 3) := by decide +kernel
theorem dc_S_value_12 : decode cd_S_value 12 = .ok (.iload_n 1, 1) := by decide +kernel
theorem dc_S_value_13 : decode cd_S_value 13 = .ok (.aaload, 1) := by decide +kernel
theorem dc_S_value_14 : decode cd_S_value 14 = .ok (.getfield 121, 3) := by decide +kernel
theorem dc_S_value_17 : decode cd_S_value 17 = .ok (.iload_n 2, 1) := by decide +kernel
theorem dc_S_value_18 : decode cd_S_value 18 = .ok (.aaload, 1) := by decide +kernel
theorem dc_S_value_19 : decode cd_S_value 19 = .ok (.astore_n 3, 1) := by decide +kernel
theorem dc_S_value_20 : decode cd_S_value 20 = .ok (.aload_n 3, 1) := by decide +kernel
theorem dc_S_value_21 : decode cd_S_value 21 = .ok (.ifnull 11, 3) := by decide +kernel
theorem dc_S_value_24 : decode cd_S_value 24 = .ok (.aload_n 3, 1) := by decide +kernel
theorem dc_S_value_25 : decode cd_S_value 25 = .ok (.getfield 158, 3) := by decide +kernel
theorem dc_S_value_28 : decode cd_S_value 28 = .ok (.iconst (-1), 1) := by decide +kernel
theorem dc_S_value_29 : decode cd_S_value 29 = .ok (.if_icmp .ne 13, 3) := by decide +kernel
theorem dc_S_value_32 : decode cd_S_value 32 = .ok (.new 52, 3) := by decide +kernel
theorem dc_S_value_35 : decode cd_S_value 35 = .ok (.dup, 1) := by decide +kernel
theorem dc_S_value_36 : decode cd_S_value 36 = .ok (.ldc 161, 2) := by decide +kernel
theorem dc_S_value_38 : decode cd_S_value 38 = .ok (.invokespecial 56, 3) := by decide +kernel
theorem dc_S_value_41 : decode cd_S_value 41 = .ok (.athrow, 1) := by decide +kernel
theorem dc_S_value_42 : decode cd_S_value 42 = .ok (.aload_n 0, 1) := by decide +kernel
theorem dc_S_value_43 : decode cd_S_value 43 = .ok (.getfield 25, 3) := by decide +kernel
theorem dc_S_value_46 : decode cd_S_value 46 = .ok (.iload_n 1, 1) := by decide +kernel
theorem dc_S_value_47 : decode cd_S_value 47 = .ok (.aaload, 1) := by decide +kernel
theorem dc_S_value_48 : decode cd_S_value 48 = .ok (.getfield 121, 3) := by decide +kernel
theorem dc_S_value_51 : decode cd_S_value 51 = .ok (.iload_n 2, 1) := by decide +kernel
theorem dc_S_value_52 : decode cd_S_value 52 = .ok (.aconst_null, 1) := by decide +kernel
theorem dc_S_value_53 : decode cd_S_value 53 = .ok (.aastore, 1) := by decide +kernel
theorem dc_S_value_54 : decode cd_S_value 54 = .ok (.aload_n 3, 1) := by decide +kernel
theorem dc_S_value_55 : decode cd_S_value 55 = .ok (.getfield 158, 3) := by decide +kernel
theorem dc_S_value_58 : decode cd_S_value 58 = .ok (.ifCond .eq 13, 3) := by decide +kernel
theorem dc_S_value_61 : decode cd_S_value 61 = .ok (.new 108, 3) := by decide +kernel
theorem dc_S_value_64 : decode cd_S_value 64 = .ok (.dup, 1) := by decide +kernel
theorem dc_S_value_65 : decode cd_S_value 65 = .ok (.ldc 163, 2) := by decide +kernel
theorem dc_S_value_67 : decode cd_S_value 67 = .ok (.invokespecial 112, 3) := by decide +kernel
theorem dc_S_value_70 : decode cd_S_value 70 = .ok (.athrow, 1) := by decide +kernel
theorem dc_S_value_71 : decode cd_S_value 71 = .ok (.aload_n 3, 1) := by decide +kernel
theorem dc_S_value_72 : decode cd_S_value 72 = .ok (.getfield 165, 3) := by decide +kernel
theorem dc_S_value_75 : decode cd_S_value 75 = .ok (.ireturn, 1) := by decide +kernel
theorem dc_S_about_0 : decode cd_S_about 0 = .ok (.iload_n 1, 1) := by decide +kernel
theorem dc_S_about_1 : decode cd_S_about 1 = .ok (.invokestatic 34, 3) := by decide +kernel
theorem dc_S_about_4 : decode cd_S_about 4 = .ok (.aload_n 0, 1) := by decide +kernel
theorem dc_S_about_5 : decode cd_S_about 5 = .ok (.getfield 25, 3) := by decide +kernel
theorem dc_S_about_8 : decode cd_S_about 8 = .ok (.iload_n 1, 1) := by decide +kernel
theorem dc_S_about_9 : decode cd_S_about 9 = .ok (.aaload, 1) := by decide +kernel
theorem dc_S_about_10 : decode cd_S_about 10 = .ok (.astore_n 3, 1) := by decide +kernel
theorem dc_S_about_11 : decode cd_S_about 11 = .ok (.iload_n 2, 1) := by decide +kernel
theorem dc_S_about_12 : decode cd_S_about 12 = .ok (.tableswitch 127 0 8 #[52, 76, 81, 86, 91, 99, 104, 109, 114], 52) := by decide +kernel
theorem dc_S_about_64 : decode cd_S_about 64 = .ok (.aload_n 0, 1) := by decide +kernel
theorem dc_S_about_65 : decode cd_S_about 65 = .ok (.aload_n 0, 1) := by decide +kernel
theorem dc_S_about_66 : decode cd_S_about 66 = .ok (.getfield 12, 3) := by decide +kernel
theorem dc_S_about_69 : decode cd_S_about 69 = .ok (.iload_n 1, 1) := by decide +kernel
theorem dc_S_about_70 : decode cd_S_about 70 = .ok (.invokevirtual 168, 3) := by decide +kernel
theorem dc_S_about_73 : decode cd_S_about 73 = .ok (.invokevirtual 172, 3) := by decide +kernel
theorem dc_S_about_76 : decode cd_S_about 76 = .ok (.ifCond .eq 7, 3) := by decide +kernel
theorem dc_S_about_79 : decode cd_S_about 79 = .ok (.iconst (-1), 1) := by decide +kernel
theorem dc_S_about_80 : decode cd_S_about 80 = .ok (.goto 7, 3) := by decide +kernel
theorem dc_S_about_83 : decode cd_S_about 83 = .ok (.aload_n 3, 1) := by decide +kernel
theorem dc_S_about_84 : decode cd_S_about 84 = .ok (.getfield 175, 3) := by decide +kernel
theorem dc_S_about_87 : decode cd_S_about 87 = .ok (.ireturn, 1) := by decide +kernel
theorem dc_S_about_88 : decode cd_S_about 88 = .ok (.aload_n 3, 1) := by decide +kernel
theorem dc_S_about_89 : decode cd_S_about 89 = .ok (.getfield 178, 3) := by decide +kernel
theorem dc_S_about_92 : decode cd_S_about 92 = .ok (.ireturn, 1) := by decide +kernel
theorem dc_S_about_93 : decode cd_S_about 93 = .ok (.aload_n 3, 1) := by decide +kernel
theorem dc_S_about_94 : decode cd_S_about 94 = .ok (.getfield 181, 3) := by decide +kernel
theorem dc_S_about_97 : decode cd_S_about 97 = .ok (.ireturn, 1) := by decide +kernel
theorem dc_S_about_98 : decode cd_S_about 98 = .ok (.aload_n 3, 1) := by decide +kernel
theorem dc_S_about_99 : decode cd_S_about 99 = .ok (.getfield 184, 3) := by decide +kernel
theorem dc_S_about_102 : decode cd_S_about 102 = .ok (.ireturn, 1) := by decide +kernel
theorem dc_S_about_103 : decode cd_S_about 103 = .ok (.aload_n 3, 1) := by decide +kernel
theorem dc_S_about_104 : decode cd_S_about 104 = .ok (.getfield 98, 3) := by decide +kernel
theorem dc_S_about_107 : decode cd_S_about 107 = .ok (.getfield 187, 3) := by decide +kernel
theorem dc_S_about_110 : decode cd_S_about 110 = .ok (.ireturn, 1) := by decide +kernel
theorem dc_S_about_111 : decode cd_S_about 111 = .ok (.aload_n 3, 1) := by decide +kernel
theorem dc_S_about_112 : decode cd_S_about 112 = .ok (.getfield 190, 3) := by decide +kernel
theorem dc_S_about_115 : decode cd_S_about 115 = .ok (.ireturn, 1) := by decide +kernel
theorem dc_S_about_116 : decode cd_S_about 116 = .ok (.aload_n 3, 1) := by decide +kernel
theorem dc_S_about_117 : decode cd_S_about 117 = .ok (.getfield 78, 3) := by decide +kernel
theorem dc_S_about_120 : decode cd_S_about 120 = .ok (.ireturn, 1) := by decide +kernel
theorem dc_S_about_121 : decode cd_S_about 121 = .ok (.aload_n 3, 1) := by decide +kernel
theorem dc_S_about_122 : decode cd_S_about 122 = .ok (.invokevirtual 193, 3) := by decide +kernel
theorem dc_S_about_125 : decode cd_S_about 125 = .ok (.ireturn, 1) := by decide +kernel
theorem dc_S_about_126 : decode cd_S_about 126 = .ok (.aload_n 3, 1) := by decide +kernel
theorem dc_S_about_127 : decode cd_S_about 127 = .ok (.getfield 196, 3) := by decide +kernel
theorem dc_S_about_130 : decode cd_S_about 130 = .ok (.ifCond .eq 7, 3) := by decide +kernel
theorem dc_S_about_133 : decode cd_S_about 133 = .ok (.iconst 1, 1) := by decide +kernel
theorem dc_S_about_134 : decode cd_S_about 134 = .ok (.goto 4, 3) := by decide +kernel
theorem dc_S_about_137 : decode cd_S_about 137 = .ok (.iconst 0, 1) := by decide +kernel
theorem dc_S_about_138 : decode cd_S_about 138 = .ok (.ireturn, 1) := by decide +kernel
theorem dc_S_about_139 : decode cd_S_about 139 = .ok (.new 41, 3) := by decide +kernel
theorem dc_S_about_142 : decode cd_S_about 142 = .ok (.dup, 1) := by decide +kernel
theorem dc_S_about_143 : decode cd_S_about 143 = .ok (.ldc 199, 2) := by decide +kernel
theorem dc_S_about_145 : decode cd_S_about 145 = .ok (.invokespecial 45, 3) := by decide +kernel
theorem dc_S_about_148 : decode cd_S_about 148 = .ok (.athrow, 1) := by decide +kernel
theorem dc_S_word_0 : decode cd_S_word 0 = .ok (.iload_n 1, 1) := by decide +kernel
theorem dc_S_word_1 : decode cd_S_word 1 = .ok (.invokestatic 34, 3) := by decide +kernel
theorem dc_S_word_4 : decode cd_S_word 4 = .ok (.iload_n 2, 1) := by decide +kernel
theorem dc_S_word_5 : decode cd_S_word 5 = .ok (.invokestatic 87, 3) := by decide +kernel
theorem dc_S_word_8 : decode cd_S_word 8 = .ok (.aload_n 0, 1) := by decide +kernel
theorem dc_S_word_9 : decode cd_S_word 9 = .ok (.getfield 25, 3) := by decide +kernel
theorem dc_S_word_12 : decode cd_S_word 12 = .ok (.iload_n 1, 1) := by decide +kernel
theorem dc_S_word_13 : decode cd_S_word 13 = .ok (.aaload, 1) := by decide +kernel
theorem dc_S_word_14 : decode cd_S_word 14 = .ok (.getfield 201, 3) := by decide +kernel
theorem dc_S_word_17 : decode cd_S_word 17 = .ok (.iload_n 2, 1) := by decide +kernel
theorem dc_S_word_18 : decode cd_S_word 18 = .ok (.iaload, 1) := by decide +kernel
theorem dc_S_word_19 : decode cd_S_word 19 = .ok (.ireturn, 1) := by decide +kernel
theorem dc_S_count_0 : decode cd_S_count 0 = .ok (.iload_n 1, 1) := by decide +kernel
theorem dc_S_count_1 : decode cd_S_count 1 = .ok (.tableswitch 93 0 7 #[47, 55, 63, 68, 73, 78, 83, 88], 47) := by decide +kernel
theorem dc_S_count_48 : decode cd_S_count 48 = .ok (.aload_n 0, 1) := by decide +kernel
theorem dc_S_count_49 : decode cd_S_count 49 = .ok (.getfield 12, 3) := by decide +kernel
theorem dc_S_count_52 : decode cd_S_count 52 = .ok (.getfield 65, 3) := by decide +kernel
theorem dc_S_count_55 : decode cd_S_count 55 = .ok (.ireturn, 1) := by decide +kernel
theorem dc_S_count_56 : decode cd_S_count 56 = .ok (.aload_n 0, 1) := by decide +kernel
theorem dc_S_count_57 : decode cd_S_count 57 = .ok (.getfield 12, 3) := by decide +kernel
theorem dc_S_count_60 : decode cd_S_count 60 = .ok (.invokevirtual 205, 3) := by decide +kernel
theorem dc_S_count_63 : decode cd_S_count 63 = .ok (.ireturn, 1) := by decide +kernel
theorem dc_S_count_64 : decode cd_S_count 64 = .ok (.aload_n 0, 1) := by decide +kernel
theorem dc_S_count_65 : decode cd_S_count 65 = .ok (.getfield 115, 3) := by decide +kernel
theorem dc_S_count_68 : decode cd_S_count 68 = .ok (.ireturn, 1) := by decide +kernel
theorem dc_S_count_69 : decode cd_S_count 69 = .ok (.aload_n 0, 1) := by decide +kernel
theorem dc_S_count_70 : decode cd_S_count 70 = .ok (.getfield 208, 3) := by decide +kernel
theorem dc_S_count_73 : decode cd_S_count 73 = .ok (.ireturn, 1) := by decide +kernel
theorem dc_S_count_74 : decode cd_S_count 74 = .ok (.aload_n 0, 1) := by decide +kernel
theorem dc_S_count_75 : decode cd_S_count 75 = .ok (.getfield 211, 3) := by decide +kernel
theorem dc_S_count_78 : decode cd_S_count 78 = .ok (.ireturn, 1) := by decide +kernel
theorem dc_S_count_79 : decode cd_S_count 79 = .ok (.aload_n 0, 1) := by decide +kernel
theorem dc_S_count_80 : decode cd_S_count 80 = .ok (.getfield 214, 3) := by decide +kernel
theorem dc_S_count_83 : decode cd_S_count 83 = .ok (.ireturn, 1) := by decide +kernel
theorem dc_S_count_84 : decode cd_S_count 84 = .ok (.aload_n 0, 1) := by decide +kernel
theorem dc_S_count_85 : decode cd_S_count 85 = .ok (.getfield 217, 3) := by decide +kernel
theorem dc_S_count_88 : decode cd_S_count 88 = .ok (.ireturn, 1) := by decide +kernel
theorem dc_S_count_89 : decode cd_S_count 89 = .ok (.aload_n 0, 1) := by decide +kernel
theorem dc_S_count_90 : decode cd_S_count 90 = .ok (.invokevirtual 220, 3) := by decide +kernel
theorem dc_S_count_93 : decode cd_S_count 93 = .ok (.ireturn, 1) := by decide +kernel
theorem dc_S_count_94 : decode cd_S_count 94 = .ok (.iconst (-1), 1) := by decide +kernel
theorem dc_S_count_95 : decode cd_S_count 95 = .ok (.ireturn, 1) := by decide +kernel
theorem dc_S_checkNode_0 : decode cd_S_checkNode 0 = .ok (.iload_n 0, 1) := by decide +kernel
theorem dc_S_checkNode_1 : decode cd_S_checkNode 1 = .ok (.ifCond .lt 9, 3) := by decide +kernel
theorem dc_S_checkNode_4 : decode cd_S_checkNode 4 = .ok (.iload_n 0, 1) := by decide +kernel
theorem dc_S_checkNode_5 : decode cd_S_checkNode 5 = .ok (.bipush 12, 2) := by decide +kernel
theorem dc_S_checkNode_7 : decode cd_S_checkNode 7 = .ok (.if_icmp .lt 13, 3) := by decide +kernel
theorem dc_S_checkNode_10 : decode cd_S_checkNode 10 = .ok (.new 223, 3) := by decide +kernel
theorem dc_S_checkNode_13 : decode cd_S_checkNode 13 = .ok (.dup, 1) := by decide +kernel
theorem dc_S_checkNode_14 : decode cd_S_checkNode 14 = .ok (.ldc 225, 2) := by decide +kernel
theorem dc_S_checkNode_16 : decode cd_S_checkNode 16 = .ok (.invokespecial 227, 3) := by decide +kernel
theorem dc_S_checkNode_19 : decode cd_S_checkNode 19 = .ok (.athrow, 1) := by decide +kernel
theorem dc_S_checkNode_20 : decode cd_S_checkNode 20 = .ok (.return_, 1) := by decide +kernel
theorem dc_S_checkPort_0 : decode cd_S_checkPort 0 = .ok (.iload_n 0, 1) := by decide +kernel
theorem dc_S_checkPort_1 : decode cd_S_checkPort 1 = .ok (.ifCond .lt 8, 3) := by decide +kernel
theorem dc_S_checkPort_4 : decode cd_S_checkPort 4 = .ok (.iload_n 0, 1) := by decide +kernel
theorem dc_S_checkPort_5 : decode cd_S_checkPort 5 = .ok (.iconst 3, 1) := by decide +kernel
theorem dc_S_checkPort_6 : decode cd_S_checkPort 6 = .ok (.if_icmp .lt 13, 3) := by decide +kernel
theorem dc_S_checkPort_9 : decode cd_S_checkPort 9 = .ok (.new 41, 3) := by decide +kernel
theorem dc_S_checkPort_12 : decode cd_S_checkPort 12 = .ok (.dup, 1) := by decide +kernel
theorem dc_S_checkPort_13 : decode cd_S_checkPort 13 = .ok (.ldc 228, 2) := by decide +kernel
theorem dc_S_checkPort_15 : decode cd_S_checkPort 15 = .ok (.invokespecial 45, 3) := by decide +kernel
theorem dc_S_checkPort_18 : decode cd_S_checkPort 18 = .ok (.athrow, 1) := by decide +kernel
theorem dc_S_checkPort_19 : decode cd_S_checkPort 19 = .ok (.return_, 1) := by decide +kernel
theorem dc_S_checkLabel_0 : decode cd_S_checkLabel 0 = .ok (.iload_n 0, 1) := by decide +kernel
theorem dc_S_checkLabel_1 : decode cd_S_checkLabel 1 = .ok (.ifCond .lt 8, 3) := by decide +kernel
theorem dc_S_checkLabel_4 : decode cd_S_checkLabel 4 = .ok (.iload_n 0, 1) := by decide +kernel
theorem dc_S_checkLabel_5 : decode cd_S_checkLabel 5 = .ok (.iconst 4, 1) := by decide +kernel
theorem dc_S_checkLabel_6 : decode cd_S_checkLabel 6 = .ok (.if_icmp .lt 13, 3) := by decide +kernel
theorem dc_S_checkLabel_9 : decode cd_S_checkLabel 9 = .ok (.new 41, 3) := by decide +kernel
theorem dc_S_checkLabel_12 : decode cd_S_checkLabel 12 = .ok (.dup, 1) := by decide +kernel
theorem dc_S_checkLabel_13 : decode cd_S_checkLabel 13 = .ok (.ldc 230, 2) := by decide +kernel
theorem dc_S_checkLabel_15 : decode cd_S_checkLabel 15 = .ok (.invokespecial 45, 3) := by decide +kernel
theorem dc_S_checkLabel_18 : decode cd_S_checkLabel 18 = .ok (.athrow, 1) := by decide +kernel
theorem dc_S_checkLabel_19 : decode cd_S_checkLabel 19 = .ok (.return_, 1) := by decide +kernel
theorem dc_S_checkWord_0 : decode cd_S_checkWord 0 = .ok (.iload_n 0, 1) := by decide +kernel
theorem dc_S_checkWord_1 : decode cd_S_checkWord 1 = .ok (.ifCond .lt 9, 3) := by decide +kernel
theorem dc_S_checkWord_4 : decode cd_S_checkWord 4 = .ok (.iload_n 0, 1) := by decide +kernel
theorem dc_S_checkWord_5 : decode cd_S_checkWord 5 = .ok (.bipush 8, 2) := by decide +kernel
theorem dc_S_checkWord_7 : decode cd_S_checkWord 7 = .ok (.if_icmp .lt 13, 3) := by decide +kernel
theorem dc_S_checkWord_10 : decode cd_S_checkWord 10 = .ok (.new 41, 3) := by decide +kernel
theorem dc_S_checkWord_13 : decode cd_S_checkWord 13 = .ok (.dup, 1) := by decide +kernel
theorem dc_S_checkWord_14 : decode cd_S_checkWord 14 = .ok (.ldc 232, 2) := by decide +kernel
theorem dc_S_checkWord_16 : decode cd_S_checkWord 16 = .ok (.invokespecial 45, 3) := by decide +kernel
theorem dc_S_checkWord_19 : decode cd_S_checkWord 19 = .ok (.athrow, 1) := by decide +kernel
theorem dc_S_checkWord_20 : decode cd_S_checkWord 20 = .ok (.return_, 1) := by decide +kernel
theorem dc_S_isDirty_0 : decode cd_S_isDirty 0 = .ok (.iconst 0, 1) := by decide +kernel
theorem dc_S_isDirty_1 : decode cd_S_isDirty 1 = .ok (.istore_n 2, 1) := by decide +kernel
theorem dc_S_isDirty_2 : decode cd_S_isDirty 2 = .ok (.iload_n 2, 1) := by decide +kernel
theorem dc_S_isDirty_3 : decode cd_S_isDirty 3 = .ok (.bipush 12, 2) := by decide +kernel
theorem dc_S_isDirty_5 : decode cd_S_isDirty 5 = .ok (.if_icmp .ge 35, 3) := by decide +kernel
theorem dc_S_isDirty_8 : decode cd_S_isDirty 8 = .ok (.aload_n 0, 1) := by decide +kernel
theorem dc_S_isDirty_9 : decode cd_S_isDirty 9 = .ok (.getfield 12, 3) := by decide +kernel
theorem dc_S_isDirty_12 : decode cd_S_isDirty 12 = .ok (.iload_n 2, 1) := by decide +kernel
theorem dc_S_isDirty_13 : decode cd_S_isDirty 13 = .ok (.invokevirtual 168, 3) := by decide +kernel
theorem dc_S_isDirty_16 : decode cd_S_isDirty 16 = .ok (.iload_n 1, 1) := by decide +kernel
theorem dc_S_isDirty_17 : decode cd_S_isDirty 17 = .ok (.if_icmp .ne 17, 3) := by decide +kernel
theorem dc_S_isDirty_20 : decode cd_S_isDirty 20 = .ok (.aload_n 0, 1) := by decide +kernel
theorem dc_S_isDirty_21 : decode cd_S_isDirty 21 = .ok (.getfield 25, 3) := by decide +kernel
theorem dc_S_isDirty_24 : decode cd_S_isDirty 24 = .ok (.iload_n 2, 1) := by decide +kernel
theorem dc_S_isDirty_25 : decode cd_S_isDirty 25 = .ok (.aaload, 1) := by decide +kernel
theorem dc_S_isDirty_26 : decode cd_S_isDirty 26 = .ok (.getfield 61, 3) := by decide +kernel
theorem dc_S_isDirty_29 : decode cd_S_isDirty 29 = .ok (.ifCond .eq 5, 3) := by decide +kernel
theorem dc_S_isDirty_32 : decode cd_S_isDirty 32 = .ok (.iconst 1, 1) := by decide +kernel
theorem dc_S_isDirty_33 : decode cd_S_isDirty 33 = .ok (.ireturn, 1) := by decide +kernel
theorem dc_S_isDirty_34 : decode cd_S_isDirty 34 = .ok (.iinc 2 1, 3) := by decide +kernel
theorem dc_S_isDirty_37 : decode cd_S_isDirty 37 = .ok (.goto (-35), 3) := by decide +kernel
theorem dc_S_isDirty_40 : decode cd_S_isDirty 40 = .ok (.iconst 0, 1) := by decide +kernel
theorem dc_S_isDirty_41 : decode cd_S_isDirty 41 = .ok (.ireturn, 1) := by decide +kernel
theorem dc_S_loopedBuses_0 : decode cd_S_loopedBuses 0 = .ok (.iconst 0, 1) := by decide +kernel
theorem dc_S_loopedBuses_1 : decode cd_S_loopedBuses 1 = .ok (.istore_n 1, 1) := by decide +kernel
theorem dc_S_loopedBuses_2 : decode cd_S_loopedBuses 2 = .ok (.iconst 0, 1) := by decide +kernel
theorem dc_S_loopedBuses_3 : decode cd_S_loopedBuses 3 = .ok (.istore_n 2, 1) := by decide +kernel
theorem dc_S_loopedBuses_4 : decode cd_S_loopedBuses 4 = .ok (.iload_n 2, 1) := by decide +kernel
theorem dc_S_loopedBuses_5 : decode cd_S_loopedBuses 5 = .ok (.bipush 12, 2) := by decide +kernel
theorem dc_S_loopedBuses_7 : decode cd_S_loopedBuses 7 = .ok (.if_icmp .ge 43, 3) := by decide +kernel
theorem dc_S_loopedBuses_10 : decode cd_S_loopedBuses 10 = .ok (.aload_n 0, 1) := by decide +kernel
theorem dc_S_loopedBuses_11 : decode cd_S_loopedBuses 11 = .ok (.getfield 12, 3) := by decide +kernel
theorem dc_S_loopedBuses_14 : decode cd_S_loopedBuses 14 = .ok (.iload_n 2, 1) := by decide +kernel
theorem dc_S_loopedBuses_15 : decode cd_S_loopedBuses 15 = .ok (.invokevirtual 143, 3) := by decide +kernel
theorem dc_S_loopedBuses_18 : decode cd_S_loopedBuses 18 = .ok (.ifCond .eq 26, 3) := by decide +kernel
theorem dc_S_loopedBuses_21 : decode cd_S_loopedBuses 21 = .ok (.aload_n 0, 1) := by decide +kernel
theorem dc_S_loopedBuses_22 : decode cd_S_loopedBuses 22 = .ok (.getfield 25, 3) := by decide +kernel
theorem dc_S_loopedBuses_25 : decode cd_S_loopedBuses 25 = .ok (.iload_n 2, 1) := by decide +kernel
theorem dc_S_loopedBuses_26 : decode cd_S_loopedBuses 26 = .ok (.aaload, 1) := by decide +kernel
theorem dc_S_loopedBuses_27 : decode cd_S_loopedBuses 27 = .ok (.getfield 234, 3) := by decide +kernel
theorem dc_S_loopedBuses_30 : decode cd_S_loopedBuses 30 = .ok (.ifCond .eq 14, 3) := by decide +kernel
theorem dc_S_loopedBuses_33 : decode cd_S_loopedBuses 33 = .ok (.aload_n 0, 1) := by decide +kernel
theorem dc_S_loopedBuses_34 : decode cd_S_loopedBuses 34 = .ok (.iload_n 2, 1) := by decide +kernel
theorem dc_S_loopedBuses_35 : decode cd_S_loopedBuses 35 = .ok (.invokevirtual 172, 3) := by decide +kernel
theorem dc_S_loopedBuses_38 : decode cd_S_loopedBuses 38 = .ok (.ifCond .ne 6, 3) := by decide +kernel
theorem dc_S_loopedBuses_41 : decode cd_S_loopedBuses 41 = .ok (.iinc 1 1, 3) := by decide +kernel
theorem dc_S_loopedBuses_44 : decode cd_S_loopedBuses 44 = .ok (.iinc 2 1, 3) := by decide +kernel
theorem dc_S_loopedBuses_47 : decode cd_S_loopedBuses 47 = .ok (.goto (-43), 3) := by decide +kernel
theorem dc_S_loopedBuses_50 : decode cd_S_loopedBuses 50 = .ok (.iload_n 1, 1) := by decide +kernel
theorem dc_S_loopedBuses_51 : decode cd_S_loopedBuses 51 = .ok (.ireturn, 1) := by decide +kernel
theorem dc_S_runBus_0 : decode cd_S_runBus 0 = .ok (.aload_n 0, 1) := by decide +kernel
theorem dc_S_runBus_1 : decode cd_S_runBus 1 = .ok (.iload_n 1, 1) := by decide +kernel
theorem dc_S_runBus_2 : decode cd_S_runBus 2 = .ok (.invokevirtual 172, 3) := by decide +kernel
theorem dc_S_runBus_5 : decode cd_S_runBus 5 = .ok (.ifCond .eq 11, 3) := by decide +kernel
theorem dc_S_runBus_8 : decode cd_S_runBus 8 = .ok (.aload_n 0, 1) := by decide +kernel
theorem dc_S_runBus_9 : decode cd_S_runBus 9 = .ok (.iload_n 1, 1) := by decide +kernel
theorem dc_S_runBus_10 : decode cd_S_runBus 10 = .ok (.invokevirtual 237, 3) := by decide +kernel
theorem dc_S_runBus_13 : decode cd_S_runBus 13 = .ok (.goto 59, 3) := by decide +kernel
theorem dc_S_runBus_16 : decode cd_S_runBus 16 = .ok (.aload_n 0, 1) := by decide +kernel
theorem dc_S_runBus_17 : decode cd_S_runBus 17 = .ok (.getfield 25, 3) := by decide +kernel
theorem dc_S_runBus_20 : decode cd_S_runBus 20 = .ok (.iload_n 1, 1) := by decide +kernel
theorem dc_S_runBus_21 : decode cd_S_runBus 21 = .ok (.aaload, 1) := by decide +kernel
theorem dc_S_runBus_22 : decode cd_S_runBus 22 = .ok (.getfield 234, 3) := by decide +kernel
theorem dc_S_runBus_25 : decode cd_S_runBus 25 = .ok (.ifCond .ne 47, 3) := by decide +kernel
theorem dc_S_runBus_28 : decode cd_S_runBus 28 = .ok (.aload_n 0, 1) := by decide +kernel
theorem dc_S_runBus_29 : decode cd_S_runBus 29 = .ok (.getfield 25, 3) := by decide +kernel
theorem dc_S_runBus_32 : decode cd_S_runBus 32 = .ok (.iload_n 1, 1) := by decide +kernel
theorem dc_S_runBus_33 : decode cd_S_runBus 33 = .ok (.aaload, 1) := by decide +kernel
theorem dc_S_runBus_34 : decode cd_S_runBus 34 = .ok (.getfield 184, 3) := by decide +kernel
theorem dc_S_runBus_37 : decode cd_S_runBus 37 = .ok (.istore_n 2, 1) := by decide +kernel
theorem dc_S_runBus_38 : decode cd_S_runBus 38 = .ok (.aload_n 0, 1) := by decide +kernel
theorem dc_S_runBus_39 : decode cd_S_runBus 39 = .ok (.getfield 115, 3) := by decide +kernel
theorem dc_S_runBus_42 : decode cd_S_runBus 42 = .ok (.bipush 8, 2) := by decide +kernel
theorem dc_S_runBus_44 : decode cd_S_runBus 44 = .ok (.irem, 1) := by decide +kernel
theorem dc_S_runBus_45 : decode cd_S_runBus 45 = .ok (.ifCond .ne 22, 3) := by decide +kernel
theorem dc_S_runBus_48 : decode cd_S_runBus 48 = .ok (.iload_n 2, 1) := by decide +kernel
theorem dc_S_runBus_49 : decode cd_S_runBus 49 = .ok (.iconst (-1), 1) := by decide +kernel
theorem dc_S_runBus_50 : decode cd_S_runBus 50 = .ok (.if_icmp .eq 17, 3) := by decide +kernel
theorem dc_S_runBus_53 : decode cd_S_runBus 53 = .ok (.aload_n 0, 1) := by decide +kernel
theorem dc_S_runBus_54 : decode cd_S_runBus 54 = .ok (.iload_n 1, 1) := by decide +kernel
theorem dc_S_runBus_55 : decode cd_S_runBus 55 = .ok (.aload_n 0, 1) := by decide +kernel
theorem dc_S_runBus_56 : decode cd_S_runBus 56 = .ok (.getfield 25, 3) := by decide +kernel
theorem dc_S_runBus_59 : decode cd_S_runBus 59 = .ok (.iload_n 2, 1) := by decide +kernel
theorem dc_S_runBus_60 : decode cd_S_runBus 60 = .ok (.aaload, 1) := by decide +kernel
theorem dc_S_runBus_61 : decode cd_S_runBus 61 = .ok (.invokevirtual 240, 3) := by decide +kernel
theorem dc_S_runBus_64 : decode cd_S_runBus 64 = .ok (.goto 8, 3) := by decide +kernel
theorem dc_S_runBus_67 : decode cd_S_runBus 67 = .ok (.aload_n 0, 1) := by decide +kernel
theorem dc_S_runBus_68 : decode cd_S_runBus 68 = .ok (.iload_n 1, 1) := by decide +kernel
theorem dc_S_runBus_69 : decode cd_S_runBus 69 = .ok (.invokevirtual 244, 3) := by decide +kernel
theorem dc_S_runBus_72 : decode cd_S_runBus 72 = .ok (.return_, 1) := by decide +kernel
theorem dc_S_resetBus_0 : decode cd_S_resetBus 0 = .ok (.iconst 0, 1) := by decide +kernel
theorem dc_S_resetBus_1 : decode cd_S_resetBus 1 = .ok (.istore_n 2, 1) := by decide +kernel
theorem dc_S_resetBus_2 : decode cd_S_resetBus 2 = .ok (.iload_n 2, 1) := by decide +kernel
theorem dc_S_resetBus_3 : decode cd_S_resetBus 3 = .ok (.bipush 12, 2) := by decide +kernel
theorem dc_S_resetBus_5 : decode cd_S_resetBus 5 = .ok (.if_icmp .ge 30, 3) := by decide +kernel
theorem dc_S_resetBus_8 : decode cd_S_resetBus 8 = .ok (.aload_n 0, 1) := by decide +kernel
theorem dc_S_resetBus_9 : decode cd_S_resetBus 9 = .ok (.getfield 12, 3) := by decide +kernel
theorem dc_S_resetBus_12 : decode cd_S_resetBus 12 = .ok (.iload_n 2, 1) := by decide +kernel
theorem dc_S_resetBus_13 : decode cd_S_resetBus 13 = .ok (.invokevirtual 168, 3) := by decide +kernel
theorem dc_S_resetBus_16 : decode cd_S_resetBus 16 = .ok (.iload_n 1, 1) := by decide +kernel
theorem dc_S_resetBus_17 : decode cd_S_resetBus 17 = .ok (.if_icmp .ne 12, 3) := by decide +kernel
theorem dc_S_resetBus_20 : decode cd_S_resetBus 20 = .ok (.aload_n 0, 1) := by decide +kernel
theorem dc_S_resetBus_21 : decode cd_S_resetBus 21 = .ok (.getfield 25, 3) := by decide +kernel
theorem dc_S_resetBus_24 : decode cd_S_resetBus 24 = .ok (.iload_n 2, 1) := by decide +kernel
theorem dc_S_resetBus_25 : decode cd_S_resetBus 25 = .ok (.aaload, 1) := by decide +kernel
theorem dc_S_resetBus_26 : decode cd_S_resetBus 26 = .ok (.invokevirtual 247, 3) := by decide +kernel
theorem dc_S_resetBus_29 : decode cd_S_resetBus 29 = .ok (.iinc 2 1, 3) := by decide +kernel
theorem dc_S_resetBus_32 : decode cd_S_resetBus 32 = .ok (.goto (-30), 3) := by decide +kernel
theorem dc_S_resetBus_35 : decode cd_S_resetBus 35 = .ok (.aload_n 0, 1) := by decide +kernel
theorem dc_S_resetBus_36 : decode cd_S_resetBus 36 = .ok (.getfield 19, 3) := by decide +kernel
theorem dc_S_resetBus_39 : decode cd_S_resetBus 39 = .ok (.aload_n 0, 1) := by decide +kernel
theorem dc_S_resetBus_40 : decode cd_S_resetBus 40 = .ok (.getfield 12, 3) := by decide +kernel
theorem dc_S_resetBus_43 : decode cd_S_resetBus 43 = .ok (.aload_n 0, 1) := by decide +kernel
theorem dc_S_resetBus_44 : decode cd_S_resetBus 44 = .ok (.getfield 25, 3) := by decide +kernel
theorem dc_S_resetBus_47 : decode cd_S_resetBus 47 = .ok (.iload_n 1, 1) := by decide +kernel
theorem dc_S_resetBus_48 : decode cd_S_resetBus 48 = .ok (.invokevirtual 250, 3) := by decide +kernel
theorem dc_S_resetBus_51 : decode cd_S_resetBus 51 = .ok (.ifCond .ne 7, 3) := by decide +kernel
theorem dc_S_resetBus_54 : decode cd_S_resetBus 54 = .ok (.iconst 1, 1) := by decide +kernel
theorem dc_S_resetBus_55 : decode cd_S_resetBus 55 = .ok (.goto 4, 3) := by decide +kernel
theorem dc_S_resetBus_58 : decode cd_S_resetBus 58 = .ok (.iconst 0, 1) := by decide +kernel
theorem dc_S_resetBus_59 : decode cd_S_resetBus 59 = .ok (.istore_n 2, 1) := by decide +kernel
theorem dc_S_resetBus_60 : decode cd_S_resetBus 60 = .ok (.aload_n 0, 1) := by decide +kernel
theorem dc_S_resetBus_61 : decode cd_S_resetBus 61 = .ok (.getfield 19, 3) := by decide +kernel
theorem dc_S_resetBus_64 : decode cd_S_resetBus 64 = .ok (.aload_n 0, 1) := by decide +kernel
theorem dc_S_resetBus_65 : decode cd_S_resetBus 65 = .ok (.getfield 12, 3) := by decide +kernel
theorem dc_S_resetBus_68 : decode cd_S_resetBus 68 = .ok (.aload_n 0, 1) := by decide +kernel
theorem dc_S_resetBus_69 : decode cd_S_resetBus 69 = .ok (.getfield 25, 3) := by decide +kernel
theorem dc_S_resetBus_72 : decode cd_S_resetBus 72 = .ok (.iload_n 1, 1) := by decide +kernel
theorem dc_S_resetBus_73 : decode cd_S_resetBus 73 = .ok (.iload_n 2, 1) := by decide +kernel
theorem dc_S_resetBus_74 : decode cd_S_resetBus 74 = .ok (.invokevirtual 254, 3) := by decide +kernel
theorem dc_S_resetBus_77 : decode cd_S_resetBus 77 = .ok (.aload_n 0, 1) := by decide +kernel
theorem dc_S_resetBus_78 : decode cd_S_resetBus 78 = .ok (.dup, 1) := by decide +kernel
theorem dc_S_resetBus_79 : decode cd_S_resetBus 79 = .ok (.getfield 208, 3) := by decide +kernel
theorem dc_S_resetBus_82 : decode cd_S_resetBus 82 = .ok (.iconst 1, 1) := by decide +kernel
theorem dc_S_resetBus_83 : decode cd_S_resetBus 83 = .ok (.iadd, 1) := by decide +kernel
theorem dc_S_resetBus_84 : decode cd_S_resetBus 84 = .ok (.putfield 208, 3) := by decide +kernel
theorem dc_S_resetBus_87 : decode cd_S_resetBus 87 = .ok (.return_, 1) := by decide +kernel
theorem dc_S_runSlot_0 : decode cd_S_runSlot 0 = .ok (.aconst_null, 1) := by decide +kernel
theorem dc_S_runSlot_1 : decode cd_S_runSlot 1 = .ok (.astore_n 2, 1) := by decide +kernel
theorem dc_S_runSlot_2 : decode cd_S_runSlot 2 = .ok (.iconst 0, 1) := by decide +kernel
theorem dc_S_runSlot_3 : decode cd_S_runSlot 3 = .ok (.istore_n 3, 1) := by decide +kernel
theorem dc_S_runSlot_4 : decode cd_S_runSlot 4 = .ok (.iconst 0, 1) := by decide +kernel
theorem dc_S_runSlot_5 : decode cd_S_runSlot 5 = .ok (.istore 4, 2) := by decide +kernel
theorem dc_S_runSlot_7 : decode cd_S_runSlot 7 = .ok (.iload 4, 2) := by decide +kernel
theorem dc_S_runSlot_9 : decode cd_S_runSlot 9 = .ok (.bipush 12, 2) := by decide +kernel
theorem dc_S_runSlot_11 : decode cd_S_runSlot 11 = .ok (.if_icmp .ge 71, 3) := by decide +kernel
theorem dc_S_runSlot_14 : decode cd_S_runSlot 14 = .ok (.aload_n 0, 1) := by decide +kernel
theorem dc_S_runSlot_15 : decode cd_S_runSlot 15 = .ok (.getfield 25, 3) := by decide +kernel
theorem dc_S_runSlot_18 : decode cd_S_runSlot 18 = .ok (.iload 4, 2) := by decide +kernel
theorem dc_S_runSlot_20 : decode cd_S_runSlot 20 = .ok (.aaload, 1) := by decide +kernel
theorem dc_S_runSlot_21 : decode cd_S_runSlot 21 = .ok (.astore 5, 2) := by decide +kernel
theorem dc_S_runSlot_23 : decode cd_S_runSlot 23 = .ok (.aload_n 0, 1) := by decide +kernel
theorem dc_S_runSlot_24 : decode cd_S_runSlot 24 = .ok (.getfield 12, 3) := by decide +kernel
theorem dc_S_runSlot_27 : decode cd_S_runSlot 27 = .ok (.iload 4, 2) := by decide +kernel
theorem dc_S_runSlot_29 : decode cd_S_runSlot 29 = .ok (.invokevirtual 168, 3) := by decide +kernel
theorem dc_S_runSlot_32 : decode cd_S_runSlot 32 = .ok (.iload_n 1, 1) := by decide +kernel
theorem dc_S_runSlot_33 : decode cd_S_runSlot 33 = .ok (.if_icmp .ne 43, 3) := by decide +kernel
theorem dc_S_runSlot_36 : decode cd_S_runSlot 36 = .ok (.aload 5, 2) := by decide +kernel
theorem dc_S_runSlot_38 : decode cd_S_runSlot 38 = .ok (.getfield 98, 3) := by decide +kernel
theorem dc_S_runSlot_41 : decode cd_S_runSlot 41 = .ok (.invokevirtual 258, 3) := by decide +kernel
theorem dc_S_runSlot_44 : decode cd_S_runSlot 44 = .ok (.ifCond .ne 32, 3) := by decide +kernel
theorem dc_S_runSlot_47 : decode cd_S_runSlot 47 = .ok (.iconst 1, 1) := by decide +kernel
theorem dc_S_runSlot_48 : decode cd_S_runSlot 48 = .ok (.istore_n 3, 1) := by decide +kernel
theorem dc_S_runSlot_49 : decode cd_S_runSlot 49 = .ok (.aload 5, 2) := by decide +kernel
theorem dc_S_runSlot_51 : decode cd_S_runSlot 51 = .ok (.getfield 196, 3) := by decide +kernel
theorem dc_S_runSlot_54 : decode cd_S_runSlot 54 = .ok (.ifCond .ne 22, 3) := by decide +kernel
theorem dc_S_runSlot_57 : decode cd_S_runSlot 57 = .ok (.aload_n 2, 1) := by decide +kernel
theorem dc_S_runSlot_58 : decode cd_S_runSlot 58 = .ok (.ifnull 15, 3) := by decide +kernel
theorem dc_S_runSlot_61 : decode cd_S_runSlot 61 = .ok (.aload 5, 2) := by decide +kernel
theorem dc_S_runSlot_63 : decode cd_S_runSlot 63 = .ok (.getfield 175, 3) := by decide +kernel
theorem dc_S_runSlot_66 : decode cd_S_runSlot 66 = .ok (.aload_n 2, 1) := by decide +kernel
theorem dc_S_runSlot_67 : decode cd_S_runSlot 67 = .ok (.getfield 175, 3) := by decide +kernel
theorem dc_S_runSlot_70 : decode cd_S_runSlot 70 = .ok (.if_icmp .le 6, 3) := by decide +kernel
theorem dc_S_runSlot_73 : decode cd_S_runSlot 73 = .ok (.aload 5, 2) := by decide +kernel
theorem dc_S_runSlot_75 : decode cd_S_runSlot 75 = .ok (.astore_n 2, 1) := by decide +kernel
theorem dc_S_runSlot_76 : decode cd_S_runSlot 76 = .ok (.iinc 4 1, 3) := by decide +kernel
theorem dc_S_runSlot_79 : decode cd_S_runSlot 79 = .ok (.goto (-72), 3) := by decide +kernel
theorem dc_S_runSlot_82 : decode cd_S_runSlot 82 = .ok (.aload_n 2, 1) := by decide +kernel
theorem dc_S_runSlot_83 : decode cd_S_runSlot 83 = .ok (.ifnull 12, 3) := by decide +kernel
theorem dc_S_runSlot_86 : decode cd_S_runSlot 86 = .ok (.aload_n 0, 1) := by decide +kernel
theorem dc_S_runSlot_87 : decode cd_S_runSlot 87 = .ok (.aload_n 2, 1) := by decide +kernel
theorem dc_S_runSlot_88 : decode cd_S_runSlot 88 = .ok (.iload_n 1, 1) := by decide +kernel
theorem dc_S_runSlot_89 : decode cd_S_runSlot 89 = .ok (.invokevirtual 261, 3) := by decide +kernel
theorem dc_S_runSlot_92 : decode cd_S_runSlot 92 = .ok (.goto 12, 3) := by decide +kernel
theorem dc_S_runSlot_95 : decode cd_S_runSlot 95 = .ok (.iload_n 3, 1) := by decide +kernel
theorem dc_S_runSlot_96 : decode cd_S_runSlot 96 = .ok (.ifCond .eq 8, 3) := by decide +kernel
theorem dc_S_runSlot_99 : decode cd_S_runSlot 99 = .ok (.aload_n 0, 1) := by decide +kernel
theorem dc_S_runSlot_100 : decode cd_S_runSlot 100 = .ok (.iload_n 1, 1) := by decide +kernel
theorem dc_S_runSlot_101 : decode cd_S_runSlot 101 = .ok (.invokevirtual 265, 3) := by decide +kernel
theorem dc_S_runSlot_104 : decode cd_S_runSlot 104 = .ok (.return_, 1) := by decide +kernel
theorem dc_S_takeUsedFromAll_0 : decode cd_S_takeUsedFromAll 0 = .ok (.iconst 0, 1) := by decide +kernel
theorem dc_S_takeUsedFromAll_1 : decode cd_S_takeUsedFromAll 1 = .ok (.istore_n 2, 1) := by decide +kernel
theorem dc_S_takeUsedFromAll_2 : decode cd_S_takeUsedFromAll 2 = .ok (.iload_n 2, 1) := by decide +kernel
theorem dc_S_takeUsedFromAll_3 : decode cd_S_takeUsedFromAll 3 = .ok (.bipush 12, 2) := by decide +kernel
theorem dc_S_takeUsedFromAll_5 : decode cd_S_takeUsedFromAll 5 = .ok (.if_icmp .ge 31, 3) := by decide +kernel
theorem dc_S_takeUsedFromAll_8 : decode cd_S_takeUsedFromAll 8 = .ok (.aload_n 0, 1) := by decide +kernel
theorem dc_S_takeUsedFromAll_9 : decode cd_S_takeUsedFromAll 9 = .ok (.getfield 12, 3) := by decide +kernel
theorem dc_S_takeUsedFromAll_12 : decode cd_S_takeUsedFromAll 12 = .ok (.iload_n 2, 1) := by decide +kernel
theorem dc_S_takeUsedFromAll_13 : decode cd_S_takeUsedFromAll 13 = .ok (.invokevirtual 168, 3) := by decide +kernel
theorem dc_S_takeUsedFromAll_16 : decode cd_S_takeUsedFromAll 16 = .ok (.iload_n 1, 1) := by decide +kernel
theorem dc_S_takeUsedFromAll_17 : decode cd_S_takeUsedFromAll 17 = .ok (.if_icmp .ne 13, 3) := by decide +kernel
theorem dc_S_takeUsedFromAll_20 : decode cd_S_takeUsedFromAll 20 = .ok (.aload_n 0, 1) := by decide +kernel
theorem dc_S_takeUsedFromAll_21 : decode cd_S_takeUsedFromAll 21 = .ok (.getfield 25, 3) := by decide +kernel
theorem dc_S_takeUsedFromAll_24 : decode cd_S_takeUsedFromAll 24 = .ok (.iload_n 2, 1) := by decide +kernel
theorem dc_S_takeUsedFromAll_25 : decode cd_S_takeUsedFromAll 25 = .ok (.aaload, 1) := by decide +kernel
theorem dc_S_takeUsedFromAll_26 : decode cd_S_takeUsedFromAll 26 = .ok (.iconst 0, 1) := by decide +kernel
theorem dc_S_takeUsedFromAll_27 : decode cd_S_takeUsedFromAll 27 = .ok (.putfield 196, 3) := by decide +kernel
theorem dc_S_takeUsedFromAll_30 : decode cd_S_takeUsedFromAll 30 = .ok (.iinc 2 1, 3) := by decide +kernel
theorem dc_S_takeUsedFromAll_33 : decode cd_S_takeUsedFromAll 33 = .ok (.goto (-31), 3) := by decide +kernel
theorem dc_S_takeUsedFromAll_36 : decode cd_S_takeUsedFromAll 36 = .ok (.aload_n 0, 1) := by decide +kernel
theorem dc_S_takeUsedFromAll_37 : decode cd_S_takeUsedFromAll 37 = .ok (.dup, 1) := by decide +kernel
theorem dc_S_takeUsedFromAll_38 : decode cd_S_takeUsedFromAll 38 = .ok (.getfield 217, 3) := by decide +kernel
theorem dc_S_takeUsedFromAll_41 : decode cd_S_takeUsedFromAll 41 = .ok (.iconst 1, 1) := by decide +kernel
theorem dc_S_takeUsedFromAll_42 : decode cd_S_takeUsedFromAll 42 = .ok (.iadd, 1) := by decide +kernel
theorem dc_S_takeUsedFromAll_43 : decode cd_S_takeUsedFromAll 43 = .ok (.putfield 217, 3) := by decide +kernel
theorem dc_S_takeUsedFromAll_46 : decode cd_S_takeUsedFromAll 46 = .ok (.return_, 1) := by decide +kernel
theorem dc_S_sendFirstPacket_0 : decode cd_S_sendFirstPacket 0 = .ok (.aload_n 1, 1) := by decide +kernel
theorem dc_S_sendFirstPacket_1 : decode cd_S_sendFirstPacket 1 = .ok (.getfield 98, 3) := by decide +kernel
theorem dc_S_sendFirstPacket_4 : decode cd_S_sendFirstPacket 4 = .ok (.invokevirtual 268, 3) := by decide +kernel
theorem dc_S_sendFirstPacket_7 : decode cd_S_sendFirstPacket 7 = .ok (.astore_n 3, 1) := by decide +kernel
theorem dc_S_sendFirstPacket_8 : decode cd_S_sendFirstPacket 8 = .ok (.aload_n 3, 1) := by decide +kernel
theorem dc_S_sendFirstPacket_9 : decode cd_S_sendFirstPacket 9 = .ok (.ifnonnull 4, 3) := by decide +kernel
theorem dc_S_sendFirstPacket_12 : decode cd_S_sendFirstPacket 12 = .ok (.return_, 1) := by decide +kernel
theorem dc_S_sendFirstPacket_13 : decode cd_S_sendFirstPacket 13 = .ok (.aload_n 1, 1) := by decide +kernel
theorem dc_S_sendFirstPacket_14 : decode cd_S_sendFirstPacket 14 = .ok (.iconst 1, 1) := by decide +kernel
theorem dc_S_sendFirstPacket_15 : decode cd_S_sendFirstPacket 15 = .ok (.putfield 196, 3) := by decide +kernel
theorem dc_S_sendFirstPacket_18 : decode cd_S_sendFirstPacket 18 = .ok (.aload_n 0, 1) := by decide +kernel
theorem dc_S_sendFirstPacket_19 : decode cd_S_sendFirstPacket 19 = .ok (.dup, 1) := by decide +kernel
theorem dc_S_sendFirstPacket_20 : decode cd_S_sendFirstPacket 20 = .ok (.getfield 211, 3) := by decide +kernel
theorem dc_S_sendFirstPacket_23 : decode cd_S_sendFirstPacket 23 = .ok (.iconst 1, 1) := by decide +kernel
theorem dc_S_sendFirstPacket_24 : decode cd_S_sendFirstPacket 24 = .ok (.iadd, 1) := by decide +kernel
theorem dc_S_sendFirstPacket_25 : decode cd_S_sendFirstPacket 25 = .ok (.putfield 211, 3) := by decide +kernel
theorem dc_S_sendFirstPacket_28 : decode cd_S_sendFirstPacket 28 = .ok (.aload_n 3, 1) := by decide +kernel
theorem dc_S_sendFirstPacket_29 : decode cd_S_sendFirstPacket 29 = .ok (.getfield 272, 3) := by decide +kernel
theorem dc_S_sendFirstPacket_32 : decode cd_S_sendFirstPacket 32 = .ok (.ifCond .eq 11, 3) := by decide +kernel
theorem dc_S_sendFirstPacket_35 : decode cd_S_sendFirstPacket 35 = .ok (.aload_n 3, 1) := by decide +kernel
theorem dc_S_sendFirstPacket_36 : decode cd_S_sendFirstPacket 36 = .ok (.iconst 0, 1) := by decide +kernel
theorem dc_S_sendFirstPacket_37 : decode cd_S_sendFirstPacket 37 = .ok (.invokevirtual 275, 3) := by decide +kernel
theorem dc_S_sendFirstPacket_40 : decode cd_S_sendFirstPacket 40 = .ok (.goto 10, 3) := by decide +kernel
theorem dc_S_sendFirstPacket_43 : decode cd_S_sendFirstPacket 43 = .ok (.aload_n 0, 1) := by decide +kernel
theorem dc_S_sendFirstPacket_44 : decode cd_S_sendFirstPacket 44 = .ok (.aload_n 3, 1) := by decide +kernel
theorem dc_S_sendFirstPacket_45 : decode cd_S_sendFirstPacket 45 = .ok (.aload_n 1, 1) := by decide +kernel
theorem dc_S_sendFirstPacket_46 : decode cd_S_sendFirstPacket 46 = .ok (.iload_n 2, 1) := by decide +kernel
theorem dc_S_sendFirstPacket_47 : decode cd_S_sendFirstPacket 47 = .ok (.invokevirtual 278, 3) := by decide +kernel
theorem dc_S_sendFirstPacket_50 : decode cd_S_sendFirstPacket 50 = .ok (.return_, 1) := by decide +kernel
theorem dc_S_sendRequest_0 : decode cd_S_sendRequest 0 = .ok (.aload_n 1, 1) := by decide +kernel
theorem dc_S_sendRequest_1 : decode cd_S_sendRequest 1 = .ok (.dup, 1) := by decide +kernel
theorem dc_S_sendRequest_2 : decode cd_S_sendRequest 2 = .ok (.getfield 282, 3) := by decide +kernel
theorem dc_S_sendRequest_5 : decode cd_S_sendRequest 5 = .ok (.iconst 1, 1) := by decide +kernel
theorem dc_S_sendRequest_6 : decode cd_S_sendRequest 6 = .ok (.iadd, 1) := by decide +kernel
theorem dc_S_sendRequest_7 : decode cd_S_sendRequest 7 = .ok (.putfield 282, 3) := by decide +kernel
theorem dc_S_sendRequest_10 : decode cd_S_sendRequest 10 = .ok (.aload_n 0, 1) := by decide +kernel
theorem dc_S_sendRequest_11 : decode cd_S_sendRequest 11 = .ok (.getfield 12, 3) := by decide +kernel
theorem dc_S_sendRequest_14 : decode cd_S_sendRequest 14 = .ok (.aload_n 1, 1) := by decide +kernel
theorem dc_S_sendRequest_15 : decode cd_S_sendRequest 15 = .ok (.getfield 285, 3) := by decide +kernel
theorem dc_S_sendRequest_18 : decode cd_S_sendRequest 18 = .ok (.invokevirtual 168, 3) := by decide +kernel
theorem dc_S_sendRequest_21 : decode cd_S_sendRequest 21 = .ok (.iload_n 3, 1) := by decide +kernel
theorem dc_S_sendRequest_22 : decode cd_S_sendRequest 22 = .ok (.if_icmp .eq 9, 3) := by decide +kernel
theorem dc_S_sendRequest_25 : decode cd_S_sendRequest 25 = .ok (.aload_n 1, 1) := by decide +kernel
theorem dc_S_sendRequest_26 : decode cd_S_sendRequest 26 = .ok (.iconst 3, 1) := by decide +kernel
theorem dc_S_sendRequest_27 : decode cd_S_sendRequest 27 = .ok (.invokevirtual 275, 3) := by decide +kernel
theorem dc_S_sendRequest_30 : decode cd_S_sendRequest 30 = .ok (.return_, 1) := by decide +kernel
theorem dc_S_sendRequest_31 : decode cd_S_sendRequest 31 = .ok (.aload_n 0, 1) := by decide +kernel
theorem dc_S_sendRequest_32 : decode cd_S_sendRequest 32 = .ok (.getfield 25, 3) := by decide +kernel
theorem dc_S_sendRequest_35 : decode cd_S_sendRequest 35 = .ok (.aload_n 1, 1) := by decide +kernel
theorem dc_S_sendRequest_36 : decode cd_S_sendRequest 36 = .ok (.getfield 285, 3) := by decide +kernel
theorem dc_S_sendRequest_39 : decode cd_S_sendRequest 39 = .ok (.aaload, 1) := by decide +kernel
theorem dc_S_sendRequest_40 : decode cd_S_sendRequest 40 = .ok (.astore 4, 2) := by decide +kernel
theorem dc_S_sendRequest_42 : decode cd_S_sendRequest 42 = .ok (.aload 4, 2) := by decide +kernel
theorem dc_S_sendRequest_44 : decode cd_S_sendRequest 44 = .ok (.getfield 98, 3) := by decide +kernel
theorem dc_S_sendRequest_47 : decode cd_S_sendRequest 47 = .ok (.invokevirtual 102, 3) := by decide +kernel
theorem dc_S_sendRequest_50 : decode cd_S_sendRequest 50 = .ok (.ifCond .ne 24, 3) := by decide +kernel
theorem dc_S_sendRequest_53 : decode cd_S_sendRequest 53 = .ok (.aload_n 1, 1) := by decide +kernel
theorem dc_S_sendRequest_54 : decode cd_S_sendRequest 54 = .ok (.aload 4, 2) := by decide +kernel
theorem dc_S_sendRequest_56 : decode cd_S_sendRequest 56 = .ok (.getfield 201, 3) := by decide +kernel
theorem dc_S_sendRequest_59 : decode cd_S_sendRequest 59 = .ok (.invokevirtual 288, 3) := by decide +kernel
theorem dc_S_sendRequest_62 : decode cd_S_sendRequest 62 = .ok (.aload 4, 2) := by decide +kernel
theorem dc_S_sendRequest_64 : decode cd_S_sendRequest 64 = .ok (.getfield 98, 3) := by decide +kernel
theorem dc_S_sendRequest_67 : decode cd_S_sendRequest 67 = .ok (.aload_n 1, 1) := by decide +kernel
theorem dc_S_sendRequest_68 : decode cd_S_sendRequest 68 = .ok (.invokevirtual 125, 3) := by decide +kernel
theorem dc_S_sendRequest_71 : decode cd_S_sendRequest 71 = .ok (.goto 27, 3) := by decide +kernel
theorem dc_S_sendRequest_74 : decode cd_S_sendRequest 74 = .ok (.aload_n 1, 1) := by decide +kernel
theorem dc_S_sendRequest_75 : decode cd_S_sendRequest 75 = .ok (.getfield 282, 3) := by decide +kernel
theorem dc_S_sendRequest_78 : decode cd_S_sendRequest 78 = .ok (.iconst 4, 1) := by decide +kernel
theorem dc_S_sendRequest_79 : decode cd_S_sendRequest 79 = .ok (.if_icmp .ge 14, 3) := by decide +kernel
theorem dc_S_sendRequest_82 : decode cd_S_sendRequest 82 = .ok (.aload_n 2, 1) := by decide +kernel
theorem dc_S_sendRequest_83 : decode cd_S_sendRequest 83 = .ok (.getfield 98, 3) := by decide +kernel
theorem dc_S_sendRequest_86 : decode cd_S_sendRequest 86 = .ok (.aload_n 1, 1) := by decide +kernel
theorem dc_S_sendRequest_87 : decode cd_S_sendRequest 87 = .ok (.invokevirtual 125, 3) := by decide +kernel
theorem dc_S_sendRequest_90 : decode cd_S_sendRequest 90 = .ok (.goto 8, 3) := by decide +kernel
theorem dc_S_sendRequest_93 : decode cd_S_sendRequest 93 = .ok (.aload_n 1, 1) := by decide +kernel
theorem dc_S_sendRequest_94 : decode cd_S_sendRequest 94 = .ok (.iconst 2, 1) := by decide +kernel
theorem dc_S_sendRequest_95 : decode cd_S_sendRequest 95 = .ok (.invokevirtual 275, 3) := by decide +kernel
theorem dc_S_sendRequest_98 : decode cd_S_sendRequest 98 = .ok (.return_, 1) := by decide +kernel
theorem dc_S_runCycle_0 : decode cd_S_runCycle 0 = .ok (.ldc2_w 292, 3) := by decide +kernel
theorem dc_S_runCycle_3 : decode cd_S_runCycle 3 = .ok (.aload_n 2, 1) := by decide +kernel
theorem dc_S_runCycle_4 : decode cd_S_runCycle 4 = .ok (.getfield 201, 3) := by decide +kernel
theorem dc_S_runCycle_7 : decode cd_S_runCycle 7 = .ok (.bipush 6, 2) := by decide +kernel
theorem dc_S_runCycle_9 : decode cd_S_runCycle 9 = .ok (.iaload, 1) := by decide +kernel
theorem dc_S_runCycle_10 : decode cd_S_runCycle 10 = .ok (.i2l, 1) := by decide +kernel
theorem dc_S_runCycle_11 : decode cd_S_runCycle 11 = .ok (.lsub, 1) := by decide +kernel
theorem dc_S_runCycle_12 : decode cd_S_runCycle 12 = .ok (.lstore_n 3, 1) := by decide +kernel
theorem dc_S_runCycle_13 : decode cd_S_runCycle 13 = .ok (.aload_n 2, 1) := by decide +kernel
theorem dc_S_runCycle_14 : decode cd_S_runCycle 14 = .ok (.getfield 201, 3) := by decide +kernel
theorem dc_S_runCycle_17 : decode cd_S_runCycle 17 = .ok (.bipush 7, 2) := by decide +kernel
theorem dc_S_runCycle_19 : decode cd_S_runCycle 19 = .ok (.iaload, 1) := by decide +kernel
theorem dc_S_runCycle_20 : decode cd_S_runCycle 20 = .ok (.istore 5, 2) := by decide +kernel
theorem dc_S_runCycle_22 : decode cd_S_runCycle 22 = .ok (.lconst 0, 1) := by decide +kernel
theorem dc_S_runCycle_23 : decode cd_S_runCycle 23 = .ok (.lstore 6, 2) := by decide +kernel
theorem dc_S_runCycle_25 : decode cd_S_runCycle 25 = .ok (.iconst 0, 1) := by decide +kernel
theorem dc_S_runCycle_26 : decode cd_S_runCycle 26 = .ok (.istore 8, 2) := by decide +kernel
theorem dc_S_runCycle_28 : decode cd_S_runCycle 28 = .ok (.iload 8, 2) := by decide +kernel
theorem dc_S_runCycle_30 : decode cd_S_runCycle 30 = .ok (.bipush 12, 2) := by decide +kernel
theorem dc_S_runCycle_32 : decode cd_S_runCycle 32 = .ok (.if_icmp .ge 109, 3) := by decide +kernel
theorem dc_S_runCycle_35 : decode cd_S_runCycle 35 = .ok (.aload_n 0, 1) := by decide +kernel
theorem dc_S_runCycle_36 : decode cd_S_runCycle 36 = .ok (.iload_n 1, 1) := by decide +kernel
theorem dc_S_runCycle_37 : decode cd_S_runCycle 37 = .ok (.iload 8, 2) := by decide +kernel
theorem dc_S_runCycle_39 : decode cd_S_runCycle 39 = .ok (.invokevirtual 294, 3) := by decide +kernel
theorem dc_S_runCycle_42 : decode cd_S_runCycle 42 = .ok (.istore 9, 2) := by decide +kernel
theorem dc_S_runCycle_44 : decode cd_S_runCycle 44 = .ok (.iload 9, 2) := by decide +kernel
theorem dc_S_runCycle_46 : decode cd_S_runCycle 46 = .ok (.iconst (-1), 1) := by decide +kernel
theorem dc_S_runCycle_47 : decode cd_S_runCycle 47 = .ok (.if_icmp .eq 88, 3) := by decide +kernel
theorem dc_S_runCycle_50 : decode cd_S_runCycle 50 = .ok (.aload_n 0, 1) := by decide +kernel
theorem dc_S_runCycle_51 : decode cd_S_runCycle 51 = .ok (.getfield 25, 3) := by decide +kernel
theorem dc_S_runCycle_54 : decode cd_S_runCycle 54 = .ok (.iload 9, 2) := by decide +kernel
theorem dc_S_runCycle_56 : decode cd_S_runCycle 56 = .ok (.aaload, 1) := by decide +kernel
theorem dc_S_runCycle_57 : decode cd_S_runCycle 57 = .ok (.getfield 136, 3) := by decide +kernel
theorem dc_S_runCycle_60 : decode cd_S_runCycle 60 = .ok (.ifCond .le 75, 3) := by decide +kernel
theorem dc_S_runCycle_63 : decode cd_S_runCycle 63 = .ok (.iload 5, 2) := by decide +kernel
theorem dc_S_runCycle_65 : decode cd_S_runCycle 65 = .ok (.aload_n 0, 1) := by decide +kernel
theorem dc_S_runCycle_66 : decode cd_S_runCycle 66 = .ok (.getfield 25, 3) := by decide +kernel
theorem dc_S_runCycle_69 : decode cd_S_runCycle 69 = .ok (.iload 9, 2) := by decide +kernel
theorem dc_S_runCycle_71 : decode cd_S_runCycle 71 = .ok (.aaload, 1) := by decide +kernel
theorem dc_S_runCycle_72 : decode cd_S_runCycle 72 = .ok (.getfield 133, 3) := by decide +kernel
theorem dc_S_runCycle_75 : decode cd_S_runCycle 75 = .ok (.ishr, 1) := by decide +kernel
theorem dc_S_runCycle_76 : decode cd_S_runCycle 76 = .ok (.iconst 1, 1) := by decide +kernel
theorem dc_S_runCycle_77 : decode cd_S_runCycle 77 = .ok (.iand, 1) := by decide +kernel
theorem dc_S_runCycle_78 : decode cd_S_runCycle 78 = .ok (.ifCond .ne 7, 3) := by decide +kernel
theorem dc_S_runCycle_81 : decode cd_S_runCycle 81 = .ok (.iconst 1, 1) := by decide +kernel
theorem dc_S_runCycle_82 : decode cd_S_runCycle 82 = .ok (.goto 4, 3) := by decide +kernel
theorem dc_S_runCycle_85 : decode cd_S_runCycle 85 = .ok (.iconst 0, 1) := by decide +kernel
theorem dc_S_runCycle_86 : decode cd_S_runCycle 86 = .ok (.istore 10, 2) := by decide +kernel
theorem dc_S_runCycle_88 : decode cd_S_runCycle 88 = .ok (.iload 10, 2) := by decide +kernel
theorem dc_S_runCycle_90 : decode cd_S_runCycle 90 = .ok (.ifCond .eq 45, 3) := by decide +kernel
theorem dc_S_runCycle_93 : decode cd_S_runCycle 93 = .ok (.lload 6, 2) := by decide +kernel
theorem dc_S_runCycle_95 : decode cd_S_runCycle 95 = .ok (.aload_n 0, 1) := by decide +kernel
theorem dc_S_runCycle_96 : decode cd_S_runCycle 96 = .ok (.getfield 25, 3) := by decide +kernel
theorem dc_S_runCycle_99 : decode cd_S_runCycle 99 = .ok (.iload 9, 2) := by decide +kernel
theorem dc_S_runCycle_101 : decode cd_S_runCycle 101 = .ok (.aaload, 1) := by decide +kernel
theorem dc_S_runCycle_102 : decode cd_S_runCycle 102 = .ok (.getfield 136, 3) := by decide +kernel
theorem dc_S_runCycle_105 : decode cd_S_runCycle 105 = .ok (.i2l, 1) := by decide +kernel
theorem dc_S_runCycle_106 : decode cd_S_runCycle 106 = .ok (.ladd, 1) := by decide +kernel
theorem dc_S_runCycle_107 : decode cd_S_runCycle 107 = .ok (.lload_n 3, 1) := by decide +kernel
theorem dc_S_runCycle_108 : decode cd_S_runCycle 108 = .ok (.lcmp, 1) := by decide +kernel
theorem dc_S_runCycle_109 : decode cd_S_runCycle 109 = .ok (.ifCond .gt 26, 3) := by decide +kernel
theorem dc_S_runCycle_112 : decode cd_S_runCycle 112 = .ok (.lload 6, 2) := by decide +kernel
theorem dc_S_runCycle_114 : decode cd_S_runCycle 114 = .ok (.aload_n 0, 1) := by decide +kernel
theorem dc_S_runCycle_115 : decode cd_S_runCycle 115 = .ok (.getfield 25, 3) := by decide +kernel
theorem dc_S_runCycle_118 : decode cd_S_runCycle 118 = .ok (.iload 9, 2) := by decide +kernel
theorem dc_S_runCycle_120 : decode cd_S_runCycle 120 = .ok (.aaload, 1) := by decide +kernel
theorem dc_S_runCycle_121 : decode cd_S_runCycle 121 = .ok (.getfield 136, 3) := by decide +kernel
theorem dc_S_runCycle_124 : decode cd_S_runCycle 124 = .ok (.i2l, 1) := by decide +kernel
theorem dc_S_runCycle_125 : decode cd_S_runCycle 125 = .ok (.ladd, 1) := by decide +kernel
theorem dc_S_runCycle_126 : decode cd_S_runCycle 126 = .ok (.lstore 6, 2) := by decide +kernel
theorem dc_S_runCycle_128 : decode cd_S_runCycle 128 = .ok (.aload_n 0, 1) := by decide +kernel
theorem dc_S_runCycle_129 : decode cd_S_runCycle 129 = .ok (.iload_n 1, 1) := by decide +kernel
theorem dc_S_runCycle_130 : decode cd_S_runCycle 130 = .ok (.iload 9, 2) := by decide +kernel
theorem dc_S_runCycle_132 : decode cd_S_runCycle 132 = .ok (.invokevirtual 297, 3) := by decide +kernel
theorem dc_S_runCycle_135 : decode cd_S_runCycle 135 = .ok (.iinc 8 1, 3) := by decide +kernel
theorem dc_S_runCycle_138 : decode cd_S_runCycle 138 = .ok (.goto (-110), 3) := by decide +kernel
theorem dc_S_runCycle_141 : decode cd_S_runCycle 141 = .ok (.return_, 1) := by decide +kernel
theorem dc_S_nodeWithNumber_0 : decode cd_S_nodeWithNumber 0 = .ok (.iconst 0, 1) := by decide +kernel
theorem dc_S_nodeWithNumber_1 : decode cd_S_nodeWithNumber 1 = .ok (.istore_n 3, 1) := by decide +kernel
theorem dc_S_nodeWithNumber_2 : decode cd_S_nodeWithNumber 2 = .ok (.iload_n 3, 1) := by decide +kernel
theorem dc_S_nodeWithNumber_3 : decode cd_S_nodeWithNumber 3 = .ok (.bipush 12, 2) := by decide +kernel
theorem dc_S_nodeWithNumber_5 : decode cd_S_nodeWithNumber 5 = .ok (.if_icmp .ge 36, 3) := by decide +kernel
theorem dc_S_nodeWithNumber_8 : decode cd_S_nodeWithNumber 8 = .ok (.aload_n 0, 1) := by decide +kernel
theorem dc_S_nodeWithNumber_9 : decode cd_S_nodeWithNumber 9 = .ok (.getfield 12, 3) := by decide +kernel
theorem dc_S_nodeWithNumber_12 : decode cd_S_nodeWithNumber 12 = .ok (.iload_n 3, 1) := by decide +kernel
theorem dc_S_nodeWithNumber_13 : decode cd_S_nodeWithNumber 13 = .ok (.invokevirtual 168, 3) := by decide +kernel
theorem dc_S_nodeWithNumber_16 : decode cd_S_nodeWithNumber 16 = .ok (.iload_n 1, 1) := by decide +kernel
theorem dc_S_nodeWithNumber_17 : decode cd_S_nodeWithNumber 17 = .ok (.if_icmp .ne 18, 3) := by decide +kernel
theorem dc_S_nodeWithNumber_20 : decode cd_S_nodeWithNumber 20 = .ok (.aload_n 0, 1) := by decide +kernel
theorem dc_S_nodeWithNumber_21 : decode cd_S_nodeWithNumber 21 = .ok (.getfield 25, 3) := by decide +kernel
theorem dc_S_nodeWithNumber_24 : decode cd_S_nodeWithNumber 24 = .ok (.iload_n 3, 1) := by decide +kernel
theorem dc_S_nodeWithNumber_25 : decode cd_S_nodeWithNumber 25 = .ok (.aaload, 1) := by decide +kernel
theorem dc_S_nodeWithNumber_26 : decode cd_S_nodeWithNumber 26 = .ok (.getfield 175, 3) := by decide +kernel
theorem dc_S_nodeWithNumber_29 : decode cd_S_nodeWithNumber 29 = .ok (.iload_n 2, 1) := by decide +kernel
theorem dc_S_nodeWithNumber_30 : decode cd_S_nodeWithNumber 30 = .ok (.if_icmp .ne 5, 3) := by decide +kernel
theorem dc_S_nodeWithNumber_33 : decode cd_S_nodeWithNumber 33 = .ok (.iload_n 3, 1) := by decide +kernel
theorem dc_S_nodeWithNumber_34 : decode cd_S_nodeWithNumber 34 = .ok (.ireturn, 1) := by decide +kernel
theorem dc_S_nodeWithNumber_35 : decode cd_S_nodeWithNumber 35 = .ok (.iinc 3 1, 3) := by decide +kernel
theorem dc_S_nodeWithNumber_38 : decode cd_S_nodeWithNumber 38 = .ok (.goto (-36), 3) := by decide +kernel
theorem dc_S_nodeWithNumber_41 : decode cd_S_nodeWithNumber 41 = .ok (.iconst (-1), 1) := by decide +kernel
theorem dc_S_nodeWithNumber_42 : decode cd_S_nodeWithNumber 42 = .ok (.ireturn, 1) := by decide +kernel
theorem dc_S_letOthersHear_0 : decode cd_S_letOthersHear 0 = .ok (.iconst 0, 1) := by decide +kernel
theorem dc_S_letOthersHear_1 : decode cd_S_letOthersHear 1 = .ok (.istore_n 3, 1) := by decide +kernel
theorem dc_S_letOthersHear_2 : decode cd_S_letOthersHear 2 = .ok (.iload_n 3, 1) := by decide +kernel
theorem dc_S_letOthersHear_3 : decode cd_S_letOthersHear 3 = .ok (.bipush 12, 2) := by decide +kernel
theorem dc_S_letOthersHear_5 : decode cd_S_letOthersHear 5 = .ok (.if_icmp .ge 41, 3) := by decide +kernel
theorem dc_S_letOthersHear_8 : decode cd_S_letOthersHear 8 = .ok (.aload_n 0, 1) := by decide +kernel
theorem dc_S_letOthersHear_9 : decode cd_S_letOthersHear 9 = .ok (.getfield 12, 3) := by decide +kernel
theorem dc_S_letOthersHear_12 : decode cd_S_letOthersHear 12 = .ok (.iload_n 3, 1) := by decide +kernel
theorem dc_S_letOthersHear_13 : decode cd_S_letOthersHear 13 = .ok (.invokevirtual 168, 3) := by decide +kernel
theorem dc_S_letOthersHear_16 : decode cd_S_letOthersHear 16 = .ok (.iload_n 1, 1) := by decide +kernel
theorem dc_S_letOthersHear_17 : decode cd_S_letOthersHear 17 = .ok (.if_icmp .ne 23, 3) := by decide +kernel
theorem dc_S_letOthersHear_20 : decode cd_S_letOthersHear 20 = .ok (.iload_n 3, 1) := by decide +kernel
theorem dc_S_letOthersHear_21 : decode cd_S_letOthersHear 21 = .ok (.iload_n 2, 1) := by decide +kernel
theorem dc_S_letOthersHear_22 : decode cd_S_letOthersHear 22 = .ok (.if_icmp .eq 18, 3) := by decide +kernel
theorem dc_S_letOthersHear_25 : decode cd_S_letOthersHear 25 = .ok (.aload_n 0, 1) := by decide +kernel
theorem dc_S_letOthersHear_26 : decode cd_S_letOthersHear 26 = .ok (.getfield 25, 3) := by decide +kernel
theorem dc_S_letOthersHear_29 : decode cd_S_letOthersHear 29 = .ok (.iload_n 3, 1) := by decide +kernel
theorem dc_S_letOthersHear_30 : decode cd_S_letOthersHear 30 = .ok (.aaload, 1) := by decide +kernel
theorem dc_S_letOthersHear_31 : decode cd_S_letOthersHear 31 = .ok (.dup, 1) := by decide +kernel
theorem dc_S_letOthersHear_32 : decode cd_S_letOthersHear 32 = .ok (.getfield 190, 3) := by decide +kernel
theorem dc_S_letOthersHear_35 : decode cd_S_letOthersHear 35 = .ok (.iconst 1, 1) := by decide +kernel
theorem dc_S_letOthersHear_36 : decode cd_S_letOthersHear 36 = .ok (.iadd, 1) := by decide +kernel
theorem dc_S_letOthersHear_37 : decode cd_S_letOthersHear 37 = .ok (.putfield 190, 3) := by decide +kernel
theorem dc_S_letOthersHear_40 : decode cd_S_letOthersHear 40 = .ok (.iinc 3 1, 3) := by decide +kernel
theorem dc_S_letOthersHear_43 : decode cd_S_letOthersHear 43 = .ok (.goto (-41), 3) := by decide +kernel
theorem dc_S_letOthersHear_46 : decode cd_S_letOthersHear 46 = .ok (.aload_n 0, 1) := by decide +kernel
theorem dc_S_letOthersHear_47 : decode cd_S_letOthersHear 47 = .ok (.dup, 1) := by decide +kernel
theorem dc_S_letOthersHear_48 : decode cd_S_letOthersHear 48 = .ok (.getfield 214, 3) := by decide +kernel
theorem dc_S_letOthersHear_51 : decode cd_S_letOthersHear 51 = .ok (.iconst 1, 1) := by decide +kernel
theorem dc_S_letOthersHear_52 : decode cd_S_letOthersHear 52 = .ok (.iadd, 1) := by decide +kernel
theorem dc_S_letOthersHear_53 : decode cd_S_letOthersHear 53 = .ok (.putfield 214, 3) := by decide +kernel
theorem dc_S_letOthersHear_56 : decode cd_S_letOthersHear 56 = .ok (.return_, 1) := by decide +kernel
theorem dc_S_endLateRequests_0 : decode cd_S_endLateRequests 0 = .ok (.iconst 0, 1) := by decide +kernel
theorem dc_S_endLateRequests_1 : decode cd_S_endLateRequests 1 = .ok (.istore_n 1, 1) := by decide +kernel
theorem dc_S_endLateRequests_2 : decode cd_S_endLateRequests 2 = .ok (.iload_n 1, 1) := by decide +kernel
theorem dc_S_endLateRequests_3 : decode cd_S_endLateRequests 3 = .ok (.bipush 12, 2) := by decide +kernel
theorem dc_S_endLateRequests_5 : decode cd_S_endLateRequests 5 = .ok (.if_icmp .ge 22, 3) := by decide +kernel
theorem dc_S_endLateRequests_8 : decode cd_S_endLateRequests 8 = .ok (.aload_n 0, 1) := by decide +kernel
theorem dc_S_endLateRequests_9 : decode cd_S_endLateRequests 9 = .ok (.getfield 25, 3) := by decide +kernel
theorem dc_S_endLateRequests_12 : decode cd_S_endLateRequests 12 = .ok (.iload_n 1, 1) := by decide +kernel
theorem dc_S_endLateRequests_13 : decode cd_S_endLateRequests 13 = .ok (.aaload, 1) := by decide +kernel
theorem dc_S_endLateRequests_14 : decode cd_S_endLateRequests 14 = .ok (.aload_n 0, 1) := by decide +kernel
theorem dc_S_endLateRequests_15 : decode cd_S_endLateRequests 15 = .ok (.getfield 115, 3) := by decide +kernel
theorem dc_S_endLateRequests_18 : decode cd_S_endLateRequests 18 = .ok (.invokevirtual 300, 3) := by decide +kernel
theorem dc_S_endLateRequests_21 : decode cd_S_endLateRequests 21 = .ok (.iinc 1 1, 3) := by decide +kernel
theorem dc_S_endLateRequests_24 : decode cd_S_endLateRequests 24 = .ok (.goto (-22), 3) := by decide +kernel
theorem dc_S_endLateRequests_27 : decode cd_S_endLateRequests 27 = .ok (.return_, 1) := by decide +kernel
