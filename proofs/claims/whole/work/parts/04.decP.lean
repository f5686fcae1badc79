theorem d_P_init_0 : decode c_P_init 0 = .ok (.aload_n 0, 1) := by decide +kernel
theorem d_P_init_1 : decode c_P_init 1 = .ok (.invokespecial 3, 3) := by decide +kernel
theorem d_P_init_4 : decode c_P_init 4 = .ok (.aload_n 0, 1) := by decide +kernel
theorem d_P_init_5 : decode c_P_init 5 = .ok (.bipush 25, 2) := by decide +kernel
theorem d_P_init_7 : decode c_P_init 7 = .ok (.newarray .int, 2) := by decide +kernel
theorem d_P_init_9 : decode c_P_init 9 = .ok (.putfield 9, 3) := by decide +kernel
theorem d_P_init_12 : decode c_P_init 12 = .ok (.aload_n 0, 1) := by decide +kernel
theorem d_P_init_13 : decode c_P_init 13 = .ok (.bipush 25, 2) := by decide +kernel
theorem d_P_init_15 : decode c_P_init 15 = .ok (.newarray .int, 2) := by decide +kernel
theorem d_P_init_17 : decode c_P_init 17 = .ok (.putfield 15, 3) := by decide +kernel
theorem d_P_init_20 : decode c_P_init 20 = .ok (.aload_n 0, 1) := by decide +kernel
theorem d_P_init_21 : decode c_P_init 21 = .ok (.bipush 25, 2) := by decide +kernel
theorem d_P_init_23 : decode c_P_init 23 = .ok (.newarray .int, 2) := by decide +kernel
theorem d_P_init_25 : decode c_P_init 25 = .ok (.putfield 18, 3) := by decide +kernel
theorem d_P_init_28 : decode c_P_init 28 = .ok (.aload_n 0, 1) := by decide +kernel
theorem d_P_init_29 : decode c_P_init 29 = .ok (.bipush 24, 2) := by decide +kernel
theorem d_P_init_31 : decode c_P_init 31 = .ok (.newarray .int, 2) := by decide +kernel
theorem d_P_init_33 : decode c_P_init 33 = .ok (.putfield 21, 3) := by decide +kernel
theorem d_P_init_36 : decode c_P_init 36 = .ok (.aload_n 0, 1) := by decide +kernel
theorem d_P_init_37 : decode c_P_init 37 = .ok (.bipush 26, 2) := by decide +kernel
theorem d_P_init_39 : decode c_P_init 39 = .ok (.newarray .int, 2) := by decide +kernel
theorem d_P_init_41 : decode c_P_init 41 = .ok (.putfield 24, 3) := by decide +kernel
theorem d_P_init_44 : decode c_P_init 44 = .ok (.return_, 1) := by decide +kernel
theorem d_P_addTask_0 : decode c_P_addTask 0 = .ok (.aload_n 0, 1) := by decide +kernel
theorem d_P_addTask_1 : decode c_P_addTask 1 = .ok (.getfield 27, 3) := by decide +kernel
theorem d_P_addTask_4 : decode c_P_addTask 4 = .ok (.bipush 24, 2) := by decide +kernel
theorem d_P_addTask_6 : decode c_P_addTask 6 = .ok (.if_icmp .lt 4, 3) := by decide +kernel
theorem d_P_addTask_9 : decode c_P_addTask 9 = .ok (.return_, 1) := by decide +kernel
theorem d_P_addTask_10 : decode c_P_addTask 10 = .ok (.aload_n 0, 1) := by decide +kernel
theorem d_P_addTask_11 : decode c_P_addTask 11 = .ok (.dup, 1) := by decide +kernel
theorem d_P_addTask_12 : decode c_P_addTask 12 = .ok (.getfield 27, 3) := by decide +kernel
theorem d_P_addTask_15 : decode c_P_addTask 15 = .ok (.iconst 1, 1) := by decide +kernel
theorem d_P_addTask_16 : decode c_P_addTask 16 = .ok (.iadd, 1) := by decide +kernel
theorem d_P_addTask_17 : decode c_P_addTask 17 = .ok (.putfield 27, 3) := by decide +kernel
theorem d_P_addTask_20 : decode c_P_addTask 20 = .ok (.aload_n 0, 1) := by decide +kernel
theorem d_P_addTask_21 : decode c_P_addTask 21 = .ok (.getfield 15, 3) := by decide +kernel
theorem d_P_addTask_24 : decode c_P_addTask 24 = .ok (.aload_n 0, 1) := by decide +kernel
theorem d_P_addTask_25 : decode c_P_addTask 25 = .ok (.getfield 27, 3) := by decide +kernel
theorem d_P_addTask_28 : decode c_P_addTask 28 = .ok (.iload_n 1, 1) := by decide +kernel
theorem d_P_addTask_29 : decode c_P_addTask 29 = .ok (.iastore, 1) := by decide +kernel
theorem d_P_addTask_30 : decode c_P_addTask 30 = .ok (.iload_n 2, 1) := by decide +kernel
theorem d_P_addTask_31 : decode c_P_addTask 31 = .ok (.istore 4, 2) := by decide +kernel
theorem d_P_addTask_33 : decode c_P_addTask 33 = .ok (.aload_n 0, 1) := by decide +kernel
theorem d_P_addTask_34 : decode c_P_addTask 34 = .ok (.getfield 24, 3) := by decide +kernel
theorem d_P_addTask_37 : decode c_P_addTask 37 = .ok (.aload_n 0, 1) := by decide +kernel
theorem d_P_addTask_38 : decode c_P_addTask 38 = .ok (.getfield 27, 3) := by decide +kernel
theorem d_P_addTask_41 : decode c_P_addTask 41 = .ok (.iaload, 1) := by decide +kernel
theorem d_P_addTask_42 : decode c_P_addTask 42 = .ok (.istore 5, 2) := by decide +kernel
theorem d_P_addTask_44 : decode c_P_addTask 44 = .ok (.iload 4, 2) := by decide +kernel
theorem d_P_addTask_46 : decode c_P_addTask 46 = .ok (.ifCond .eq 58, 3) := by decide +kernel
theorem d_P_addTask_49 : decode c_P_addTask 49 = .ok (.iload 5, 2) := by decide +kernel
theorem d_P_addTask_51 : decode c_P_addTask 51 = .ok (.aload_n 0, 1) := by decide +kernel
theorem d_P_addTask_52 : decode c_P_addTask 52 = .ok (.getfield 21, 3) := by decide +kernel
theorem d_P_addTask_55 : decode c_P_addTask 55 = .ok (.arraylength, 1) := by decide +kernel
theorem d_P_addTask_56 : decode c_P_addTask 56 = .ok (.if_icmp .ge 48, 3) := by decide +kernel
theorem d_P_addTask_59 : decode c_P_addTask 59 = .ok (.aload_n 3, 1) := by decide +kernel
theorem d_P_addTask_60 : decode c_P_addTask 60 = .ok (.iload 4, 2) := by decide +kernel
theorem d_P_addTask_62 : decode c_P_addTask 62 = .ok (.invokevirtual 55, 3) := by decide +kernel
theorem d_P_addTask_65 : decode c_P_addTask 65 = .ok (.istore 6, 2) := by decide +kernel
theorem d_P_addTask_67 : decode c_P_addTask 67 = .ok (.aload_n 0, 1) := by decide +kernel
theorem d_P_addTask_68 : decode c_P_addTask 68 = .ok (.getfield 21, 3) := by decide +kernel
theorem d_P_addTask_71 : decode c_P_addTask 71 = .ok (.iload 5, 2) := by decide +kernel
theorem d_P_addTask_73 : decode c_P_addTask 73 = .ok (.iload 6, 2) := by decide +kernel
theorem d_P_addTask_75 : decode c_P_addTask 75 = .ok (.iastore, 1) := by decide +kernel
theorem d_P_addTask_76 : decode c_P_addTask 76 = .ok (.aload_n 0, 1) := by decide +kernel
theorem d_P_addTask_77 : decode c_P_addTask 77 = .ok (.getfield 9, 3) := by decide +kernel
theorem d_P_addTask_80 : decode c_P_addTask 80 = .ok (.iload 6, 2) := by decide +kernel
theorem d_P_addTask_82 : decode c_P_addTask 82 = .ok (.aload_n 0, 1) := by decide +kernel
theorem d_P_addTask_83 : decode c_P_addTask 83 = .ok (.getfield 27, 3) := by decide +kernel
theorem d_P_addTask_86 : decode c_P_addTask 86 = .ok (.iastore, 1) := by decide +kernel
theorem d_P_addTask_87 : decode c_P_addTask 87 = .ok (.iload 4, 2) := by decide +kernel
theorem d_P_addTask_89 : decode c_P_addTask 89 = .ok (.iconst 1, 1) := by decide +kernel
theorem d_P_addTask_90 : decode c_P_addTask 90 = .ok (.iload 6, 2) := by decide +kernel
theorem d_P_addTask_92 : decode c_P_addTask 92 = .ok (.ishl, 1) := by decide +kernel
theorem d_P_addTask_93 : decode c_P_addTask 93 = .ok (.iconst (-1), 1) := by decide +kernel
theorem d_P_addTask_94 : decode c_P_addTask 94 = .ok (.ixor, 1) := by decide +kernel
theorem d_P_addTask_95 : decode c_P_addTask 95 = .ok (.iand, 1) := by decide +kernel
theorem d_P_addTask_96 : decode c_P_addTask 96 = .ok (.istore 4, 2) := by decide +kernel
theorem d_P_addTask_98 : decode c_P_addTask 98 = .ok (.iinc 5 1, 3) := by decide +kernel
theorem d_P_addTask_101 : decode c_P_addTask 101 = .ok (.goto (-57), 3) := by decide +kernel
theorem d_P_addTask_104 : decode c_P_addTask 104 = .ok (.aload_n 0, 1) := by decide +kernel
theorem d_P_addTask_105 : decode c_P_addTask 105 = .ok (.getfield 24, 3) := by decide +kernel
theorem d_P_addTask_108 : decode c_P_addTask 108 = .ok (.aload_n 0, 1) := by decide +kernel
theorem d_P_addTask_109 : decode c_P_addTask 109 = .ok (.getfield 27, 3) := by decide +kernel
theorem d_P_addTask_112 : decode c_P_addTask 112 = .ok (.iconst 1, 1) := by decide +kernel
theorem d_P_addTask_113 : decode c_P_addTask 113 = .ok (.iadd, 1) := by decide +kernel
theorem d_P_addTask_114 : decode c_P_addTask 114 = .ok (.iload 5, 2) := by decide +kernel
theorem d_P_addTask_116 : decode c_P_addTask 116 = .ok (.iastore, 1) := by decide +kernel
theorem d_P_addTask_117 : decode c_P_addTask 117 = .ok (.return_, 1) := by decide +kernel
theorem d_P_addEventTasks_0 : decode c_P_addEventTasks 0 = .ok (.aload_n 2, 1) := by decide +kernel
theorem d_P_addEventTasks_1 : decode c_P_addEventTasks 1 = .ok (.iload_n 1, 1) := by decide +kernel
theorem d_P_addEventTasks_2 : decode c_P_addEventTasks 2 = .ok (.iconst 0, 1) := by decide +kernel
theorem d_P_addEventTasks_3 : decode c_P_addEventTasks 3 = .ok (.invokevirtual 38, 3) := by decide +kernel
theorem d_P_addEventTasks_6 : decode c_P_addEventTasks 6 = .ok (.istore 4, 2) := by decide +kernel
theorem d_P_addEventTasks_8 : decode c_P_addEventTasks 8 = .ok (.iconst 1, 1) := by decide +kernel
theorem d_P_addEventTasks_9 : decode c_P_addEventTasks 9 = .ok (.istore 5, 2) := by decide +kernel
theorem d_P_addEventTasks_11 : decode c_P_addEventTasks 11 = .ok (.iload 5, 2) := by decide +kernel
theorem d_P_addEventTasks_13 : decode c_P_addEventTasks 13 = .ok (.bipush 24, 2) := by decide +kernel
theorem d_P_addEventTasks_15 : decode c_P_addEventTasks 15 = .ok (.if_icmp .gt 29, 3) := by decide +kernel
theorem d_P_addEventTasks_18 : decode c_P_addEventTasks 18 = .ok (.iload 4, 2) := by decide +kernel
theorem d_P_addEventTasks_20 : decode c_P_addEventTasks 20 = .ok (.iload 5, 2) := by decide +kernel
theorem d_P_addEventTasks_22 : decode c_P_addEventTasks 22 = .ok (.invokestatic 44, 3) := by decide +kernel
theorem d_P_addEventTasks_25 : decode c_P_addEventTasks 25 = .ok (.ifCond .eq 13, 3) := by decide +kernel
theorem d_P_addEventTasks_28 : decode c_P_addEventTasks 28 = .ok (.aload_n 0, 1) := by decide +kernel
theorem d_P_addEventTasks_29 : decode c_P_addEventTasks 29 = .ok (.iconst 0, 1) := by decide +kernel
theorem d_P_addEventTasks_30 : decode c_P_addEventTasks 30 = .ok (.iconst 1, 1) := by decide +kernel
theorem d_P_addEventTasks_31 : decode c_P_addEventTasks 31 = .ok (.iload 5, 2) := by decide +kernel
theorem d_P_addEventTasks_33 : decode c_P_addEventTasks 33 = .ok (.ishl, 1) := by decide +kernel
theorem d_P_addEventTasks_34 : decode c_P_addEventTasks 34 = .ok (.aload_n 3, 1) := by decide +kernel
theorem d_P_addEventTasks_35 : decode c_P_addEventTasks 35 = .ok (.invokevirtual 48, 3) := by decide +kernel
theorem d_P_addEventTasks_38 : decode c_P_addEventTasks 38 = .ok (.iinc 5 1, 3) := by decide +kernel
theorem d_P_addEventTasks_41 : decode c_P_addEventTasks 41 = .ok (.goto (-30), 3) := by decide +kernel
theorem d_P_addEventTasks_44 : decode c_P_addEventTasks 44 = .ok (.return_, 1) := by decide +kernel
theorem d_P_addPeriodTasks_0 : decode c_P_addPeriodTasks 0 = .ok (.aload_n 2, 1) := by decide +kernel
theorem d_P_addPeriodTasks_1 : decode c_P_addPeriodTasks 1 = .ok (.iload_n 1, 1) := by decide +kernel
theorem d_P_addPeriodTasks_2 : decode c_P_addPeriodTasks 2 = .ok (.iconst 0, 1) := by decide +kernel
theorem d_P_addPeriodTasks_3 : decode c_P_addPeriodTasks 3 = .ok (.invokevirtual 52, 3) := by decide +kernel
theorem d_P_addPeriodTasks_6 : decode c_P_addPeriodTasks 6 = .ok (.istore 4, 2) := by decide +kernel
theorem d_P_addPeriodTasks_8 : decode c_P_addPeriodTasks 8 = .ok (.iconst 0, 1) := by decide +kernel
theorem d_P_addPeriodTasks_9 : decode c_P_addPeriodTasks 9 = .ok (.istore 5, 2) := by decide +kernel
theorem d_P_addPeriodTasks_11 : decode c_P_addPeriodTasks 11 = .ok (.iload 5, 2) := by decide +kernel
theorem d_P_addPeriodTasks_13 : decode c_P_addPeriodTasks 13 = .ok (.bipush 24, 2) := by decide +kernel
theorem d_P_addPeriodTasks_15 : decode c_P_addPeriodTasks 15 = .ok (.if_icmp .ge 37, 3) := by decide +kernel
theorem d_P_addPeriodTasks_18 : decode c_P_addPeriodTasks 18 = .ok (.iload 4, 2) := by decide +kernel
theorem d_P_addPeriodTasks_20 : decode c_P_addPeriodTasks 20 = .ok (.ifCond .le 32, 3) := by decide +kernel
theorem d_P_addPeriodTasks_23 : decode c_P_addPeriodTasks 23 = .ok (.aload_n 0, 1) := by decide +kernel
theorem d_P_addPeriodTasks_24 : decode c_P_addPeriodTasks 24 = .ok (.iload 4, 2) := by decide +kernel
theorem d_P_addPeriodTasks_26 : decode c_P_addPeriodTasks 26 = .ok (.aload_n 2, 1) := by decide +kernel
theorem d_P_addPeriodTasks_27 : decode c_P_addPeriodTasks 27 = .ok (.iload_n 1, 1) := by decide +kernel
theorem d_P_addPeriodTasks_28 : decode c_P_addPeriodTasks 28 = .ok (.iload 4, 2) := by decide +kernel
theorem d_P_addPeriodTasks_30 : decode c_P_addPeriodTasks 30 = .ok (.invokevirtual 38, 3) := by decide +kernel
theorem d_P_addPeriodTasks_33 : decode c_P_addPeriodTasks 33 = .ok (.aload_n 3, 1) := by decide +kernel
theorem d_P_addPeriodTasks_34 : decode c_P_addPeriodTasks 34 = .ok (.invokevirtual 48, 3) := by decide +kernel
theorem d_P_addPeriodTasks_37 : decode c_P_addPeriodTasks 37 = .ok (.aload_n 2, 1) := by decide +kernel
theorem d_P_addPeriodTasks_38 : decode c_P_addPeriodTasks 38 = .ok (.iload_n 1, 1) := by decide +kernel
theorem d_P_addPeriodTasks_39 : decode c_P_addPeriodTasks 39 = .ok (.iload 4, 2) := by decide +kernel
theorem d_P_addPeriodTasks_41 : decode c_P_addPeriodTasks 41 = .ok (.invokevirtual 52, 3) := by decide +kernel
theorem d_P_addPeriodTasks_44 : decode c_P_addPeriodTasks 44 = .ok (.istore 4, 2) := by decide +kernel
theorem d_P_addPeriodTasks_46 : decode c_P_addPeriodTasks 46 = .ok (.iinc 5 1, 3) := by decide +kernel
theorem d_P_addPeriodTasks_49 : decode c_P_addPeriodTasks 49 = .ok (.goto (-38), 3) := by decide +kernel
theorem d_P_addPeriodTasks_52 : decode c_P_addPeriodTasks 52 = .ok (.return_, 1) := by decide +kernel
theorem d_P_layOut_0 : decode c_P_layOut 0 = .ok (.aload_n 0, 1) := by decide +kernel
theorem d_P_layOut_1 : decode c_P_layOut 1 = .ok (.iconst 0, 1) := by decide +kernel
theorem d_P_layOut_2 : decode c_P_layOut 2 = .ok (.putfield 27, 3) := by decide +kernel
theorem d_P_layOut_5 : decode c_P_layOut 5 = .ok (.iconst 1, 1) := by decide +kernel
theorem d_P_layOut_6 : decode c_P_layOut 6 = .ok (.istore_n 3, 1) := by decide +kernel
theorem d_P_layOut_7 : decode c_P_layOut 7 = .ok (.iload_n 3, 1) := by decide +kernel
theorem d_P_layOut_8 : decode c_P_layOut 8 = .ok (.iconst 4, 1) := by decide +kernel
theorem d_P_layOut_9 : decode c_P_layOut 9 = .ok (.if_icmp .gt 66, 3) := by decide +kernel
theorem d_P_layOut_12 : decode c_P_layOut 12 = .ok (.aload_n 0, 1) := by decide +kernel
theorem d_P_layOut_13 : decode c_P_layOut 13 = .ok (.getfield 27, 3) := by decide +kernel
theorem d_P_layOut_16 : decode c_P_layOut 16 = .ok (.istore 4, 2) := by decide +kernel
theorem d_P_layOut_18 : decode c_P_layOut 18 = .ok (.aload_n 0, 1) := by decide +kernel
theorem d_P_layOut_19 : decode c_P_layOut 19 = .ok (.iload_n 3, 1) := by decide +kernel
theorem d_P_layOut_20 : decode c_P_layOut 20 = .ok (.aload_n 1, 1) := by decide +kernel
theorem d_P_layOut_21 : decode c_P_layOut 21 = .ok (.aload_n 2, 1) := by decide +kernel
theorem d_P_layOut_22 : decode c_P_layOut 22 = .ok (.invokevirtual 31, 3) := by decide +kernel
theorem d_P_layOut_25 : decode c_P_layOut 25 = .ok (.aload_n 0, 1) := by decide +kernel
theorem d_P_layOut_26 : decode c_P_layOut 26 = .ok (.iload_n 3, 1) := by decide +kernel
theorem d_P_layOut_27 : decode c_P_layOut 27 = .ok (.aload_n 1, 1) := by decide +kernel
theorem d_P_layOut_28 : decode c_P_layOut 28 = .ok (.aload_n 2, 1) := by decide +kernel
theorem d_P_layOut_29 : decode c_P_layOut 29 = .ok (.invokevirtual 35, 3) := by decide +kernel
theorem d_P_layOut_32 : decode c_P_layOut 32 = .ok (.iload 4, 2) := by decide +kernel
theorem d_P_layOut_34 : decode c_P_layOut 34 = .ok (.iconst 1, 1) := by decide +kernel
theorem d_P_layOut_35 : decode c_P_layOut 35 = .ok (.iadd, 1) := by decide +kernel
theorem d_P_layOut_36 : decode c_P_layOut 36 = .ok (.istore 5, 2) := by decide +kernel
theorem d_P_layOut_38 : decode c_P_layOut 38 = .ok (.iload 5, 2) := by decide +kernel
theorem d_P_layOut_40 : decode c_P_layOut 40 = .ok (.aload_n 0, 1) := by decide +kernel
theorem d_P_layOut_41 : decode c_P_layOut 41 = .ok (.getfield 27, 3) := by decide +kernel
theorem d_P_layOut_44 : decode c_P_layOut 44 = .ok (.if_icmp .gt 25, 3) := by decide +kernel
theorem d_P_layOut_47 : decode c_P_layOut 47 = .ok (.aload_n 0, 1) := by decide +kernel
theorem d_P_layOut_48 : decode c_P_layOut 48 = .ok (.getfield 18, 3) := by decide +kernel
theorem d_P_layOut_51 : decode c_P_layOut 51 = .ok (.iload 5, 2) := by decide +kernel
theorem d_P_layOut_53 : decode c_P_layOut 53 = .ok (.aload_n 0, 1) := by decide +kernel
theorem d_P_layOut_54 : decode c_P_layOut 54 = .ok (.getfield 27, 3) := by decide +kernel
theorem d_P_layOut_57 : decode c_P_layOut 57 = .ok (.iload 5, 2) := by decide +kernel
theorem d_P_layOut_59 : decode c_P_layOut 59 = .ok (.isub, 1) := by decide +kernel
theorem d_P_layOut_60 : decode c_P_layOut 60 = .ok (.iconst 1, 1) := by decide +kernel
theorem d_P_layOut_61 : decode c_P_layOut 61 = .ok (.iadd, 1) := by decide +kernel
theorem d_P_layOut_62 : decode c_P_layOut 62 = .ok (.iastore, 1) := by decide +kernel
theorem d_P_layOut_63 : decode c_P_layOut 63 = .ok (.iinc 5 1, 3) := by decide +kernel
theorem d_P_layOut_66 : decode c_P_layOut 66 = .ok (.goto (-28), 3) := by decide +kernel
theorem d_P_layOut_69 : decode c_P_layOut 69 = .ok (.iinc 3 1, 3) := by decide +kernel
theorem d_P_layOut_72 : decode c_P_layOut 72 = .ok (.goto (-65), 3) := by decide +kernel
theorem d_P_layOut_75 : decode c_P_layOut 75 = .ok (.return_, 1) := by decide +kernel
theorem d_P_hasTask_0 : decode c_P_hasTask 0 = .ok (.iload_n 1, 1) := by decide +kernel
theorem d_P_hasTask_1 : decode c_P_hasTask 1 = .ok (.iconst 1, 1) := by decide +kernel
theorem d_P_hasTask_2 : decode c_P_hasTask 2 = .ok (.aload_n 0, 1) := by decide +kernel
theorem d_P_hasTask_3 : decode c_P_hasTask 3 = .ok (.getfield 27, 3) := by decide +kernel
theorem d_P_hasTask_6 : decode c_P_hasTask 6 = .ok (.invokestatic 61, 3) := by decide +kernel
theorem d_P_hasTask_9 : decode c_P_hasTask 9 = .ok (.ireturn, 1) := by decide +kernel
theorem d_P_sizeOf_0 : decode c_P_sizeOf 0 = .ok (.aload_n 0, 1) := by decide +kernel
theorem d_P_sizeOf_1 : decode c_P_sizeOf 1 = .ok (.getfield 24, 3) := by decide +kernel
theorem d_P_sizeOf_4 : decode c_P_sizeOf 4 = .ok (.iload_n 1, 1) := by decide +kernel
theorem d_P_sizeOf_5 : decode c_P_sizeOf 5 = .ok (.iconst 1, 1) := by decide +kernel
theorem d_P_sizeOf_6 : decode c_P_sizeOf 6 = .ok (.iadd, 1) := by decide +kernel
theorem d_P_sizeOf_7 : decode c_P_sizeOf 7 = .ok (.iaload, 1) := by decide +kernel
theorem d_P_sizeOf_8 : decode c_P_sizeOf 8 = .ok (.aload_n 0, 1) := by decide +kernel
theorem d_P_sizeOf_9 : decode c_P_sizeOf 9 = .ok (.getfield 24, 3) := by decide +kernel
theorem d_P_sizeOf_12 : decode c_P_sizeOf 12 = .ok (.iload_n 1, 1) := by decide +kernel
theorem d_P_sizeOf_13 : decode c_P_sizeOf 13 = .ok (.iaload, 1) := by decide +kernel
theorem d_P_sizeOf_14 : decode c_P_sizeOf 14 = .ok (.isub, 1) := by decide +kernel
theorem d_P_sizeOf_15 : decode c_P_sizeOf 15 = .ok (.ireturn, 1) := by decide +kernel
theorem d_P_runnableAt_0 : decode c_P_runnableAt 0 = .ok (.iload_n 2, 1) := by decide +kernel
theorem d_P_runnableAt_1 : decode c_P_runnableAt 1 = .ok (.ifCond .lt 28, 3) := by decide +kernel
theorem d_P_runnableAt_4 : decode c_P_runnableAt 4 = .ok (.iload_n 2, 1) := by decide +kernel
theorem d_P_runnableAt_5 : decode c_P_runnableAt 5 = .ok (.aload_n 0, 1) := by decide +kernel
theorem d_P_runnableAt_6 : decode c_P_runnableAt 6 = .ok (.iload_n 1, 1) := by decide +kernel
theorem d_P_runnableAt_7 : decode c_P_runnableAt 7 = .ok (.invokevirtual 65, 3) := by decide +kernel
theorem d_P_runnableAt_10 : decode c_P_runnableAt 10 = .ok (.if_icmp .ge 19, 3) := by decide +kernel
theorem d_P_runnableAt_13 : decode c_P_runnableAt 13 = .ok (.aload_n 0, 1) := by decide +kernel
theorem d_P_runnableAt_14 : decode c_P_runnableAt 14 = .ok (.getfield 21, 3) := by decide +kernel
theorem d_P_runnableAt_17 : decode c_P_runnableAt 17 = .ok (.aload_n 0, 1) := by decide +kernel
theorem d_P_runnableAt_18 : decode c_P_runnableAt 18 = .ok (.getfield 24, 3) := by decide +kernel
theorem d_P_runnableAt_21 : decode c_P_runnableAt 21 = .ok (.iload_n 1, 1) := by decide +kernel
theorem d_P_runnableAt_22 : decode c_P_runnableAt 22 = .ok (.iaload, 1) := by decide +kernel
theorem d_P_runnableAt_23 : decode c_P_runnableAt 23 = .ok (.iload_n 2, 1) := by decide +kernel
theorem d_P_runnableAt_24 : decode c_P_runnableAt 24 = .ok (.iadd, 1) := by decide +kernel
theorem d_P_runnableAt_25 : decode c_P_runnableAt 25 = .ok (.iaload, 1) := by decide +kernel
theorem d_P_runnableAt_26 : decode c_P_runnableAt 26 = .ok (.goto 4, 3) := by decide +kernel
theorem d_P_runnableAt_29 : decode c_P_runnableAt 29 = .ok (.iconst 0, 1) := by decide +kernel
theorem d_P_runnableAt_30 : decode c_P_runnableAt 30 = .ok (.ireturn, 1) := by decide +kernel
theorem d_P_isWrittenAbove_0 : decode c_P_isWrittenAbove 0 = .ok (.aload_n 0, 1) := by decide +kernel
theorem d_P_isWrittenAbove_1 : decode c_P_isWrittenAbove 1 = .ok (.getfield 18, 3) := by decide +kernel
theorem d_P_isWrittenAbove_4 : decode c_P_isWrittenAbove 4 = .ok (.aload_n 0, 1) := by decide +kernel
theorem d_P_isWrittenAbove_5 : decode c_P_isWrittenAbove 5 = .ok (.getfield 9, 3) := by decide +kernel
theorem d_P_isWrittenAbove_8 : decode c_P_isWrittenAbove 8 = .ok (.iload_n 1, 1) := by decide +kernel
theorem d_P_isWrittenAbove_9 : decode c_P_isWrittenAbove 9 = .ok (.iaload, 1) := by decide +kernel
theorem d_P_isWrittenAbove_10 : decode c_P_isWrittenAbove 10 = .ok (.iaload, 1) := by decide +kernel
theorem d_P_isWrittenAbove_11 : decode c_P_isWrittenAbove 11 = .ok (.istore 4, 2) := by decide +kernel
theorem d_P_isWrittenAbove_13 : decode c_P_isWrittenAbove 13 = .ok (.iconst 1, 1) := by decide +kernel
theorem d_P_isWrittenAbove_14 : decode c_P_isWrittenAbove 14 = .ok (.istore 5, 2) := by decide +kernel
theorem d_P_isWrittenAbove_16 : decode c_P_isWrittenAbove 16 = .ok (.iload 5, 2) := by decide +kernel
theorem d_P_isWrittenAbove_18 : decode c_P_isWrittenAbove 18 = .ok (.aload_n 2, 1) := by decide +kernel
theorem d_P_isWrittenAbove_19 : decode c_P_isWrittenAbove 19 = .ok (.getfield 71, 3) := by decide +kernel
theorem d_P_isWrittenAbove_22 : decode c_P_isWrittenAbove 22 = .ok (.if_icmp .gt 70, 3) := by decide +kernel
theorem d_P_isWrittenAbove_25 : decode c_P_isWrittenAbove 25 = .ok (.aload_n 2, 1) := by decide +kernel
theorem d_P_isWrittenAbove_26 : decode c_P_isWrittenAbove 26 = .ok (.getfield 81, 3) := by decide +kernel
theorem d_P_isWrittenAbove_29 : decode c_P_isWrittenAbove 29 = .ok (.iload 5, 2) := by decide +kernel
theorem d_P_isWrittenAbove_31 : decode c_P_isWrittenAbove 31 = .ok (.iaload, 1) := by decide +kernel
theorem d_P_isWrittenAbove_32 : decode c_P_isWrittenAbove 32 = .ok (.iload_n 3, 1) := by decide +kernel
theorem d_P_isWrittenAbove_33 : decode c_P_isWrittenAbove 33 = .ok (.invokestatic 44, 3) := by decide +kernel
theorem d_P_isWrittenAbove_36 : decode c_P_isWrittenAbove 36 = .ok (.ifCond .eq 23, 3) := by decide +kernel
theorem d_P_isWrittenAbove_39 : decode c_P_isWrittenAbove 39 = .ok (.aload_n 2, 1) := by decide +kernel
theorem d_P_isWrittenAbove_40 : decode c_P_isWrittenAbove 40 = .ok (.getfield 84, 3) := by decide +kernel
theorem d_P_isWrittenAbove_43 : decode c_P_isWrittenAbove 43 = .ok (.iload 5, 2) := by decide +kernel
theorem d_P_isWrittenAbove_45 : decode c_P_isWrittenAbove 45 = .ok (.iaload, 1) := by decide +kernel
theorem d_P_isWrittenAbove_46 : decode c_P_isWrittenAbove 46 = .ok (.aload_n 2, 1) := by decide +kernel
theorem d_P_isWrittenAbove_47 : decode c_P_isWrittenAbove 47 = .ok (.getfield 84, 3) := by decide +kernel
theorem d_P_isWrittenAbove_50 : decode c_P_isWrittenAbove 50 = .ok (.iload_n 1, 1) := by decide +kernel
theorem d_P_isWrittenAbove_51 : decode c_P_isWrittenAbove 51 = .ok (.iaload, 1) := by decide +kernel
theorem d_P_isWrittenAbove_52 : decode c_P_isWrittenAbove 52 = .ok (.if_icmp .ne 7, 3) := by decide +kernel
theorem d_P_isWrittenAbove_55 : decode c_P_isWrittenAbove 55 = .ok (.iconst 1, 1) := by decide +kernel
theorem d_P_isWrittenAbove_56 : decode c_P_isWrittenAbove 56 = .ok (.goto 4, 3) := by decide +kernel
theorem d_P_isWrittenAbove_59 : decode c_P_isWrittenAbove 59 = .ok (.iconst 0, 1) := by decide +kernel
theorem d_P_isWrittenAbove_60 : decode c_P_isWrittenAbove 60 = .ok (.istore 6, 2) := by decide +kernel
theorem d_P_isWrittenAbove_62 : decode c_P_isWrittenAbove 62 = .ok (.iload 6, 2) := by decide +kernel
theorem d_P_isWrittenAbove_64 : decode c_P_isWrittenAbove 64 = .ok (.ifCond .eq 22, 3) := by decide +kernel
theorem d_P_isWrittenAbove_67 : decode c_P_isWrittenAbove 67 = .ok (.aload_n 0, 1) := by decide +kernel
theorem d_P_isWrittenAbove_68 : decode c_P_isWrittenAbove 68 = .ok (.getfield 18, 3) := by decide +kernel
theorem d_P_isWrittenAbove_71 : decode c_P_isWrittenAbove 71 = .ok (.aload_n 0, 1) := by decide +kernel
theorem d_P_isWrittenAbove_72 : decode c_P_isWrittenAbove 72 = .ok (.getfield 9, 3) := by decide +kernel
theorem d_P_isWrittenAbove_75 : decode c_P_isWrittenAbove 75 = .ok (.iload 5, 2) := by decide +kernel
theorem d_P_isWrittenAbove_77 : decode c_P_isWrittenAbove 77 = .ok (.iaload, 1) := by decide +kernel
theorem d_P_isWrittenAbove_78 : decode c_P_isWrittenAbove 78 = .ok (.iaload, 1) := by decide +kernel
theorem d_P_isWrittenAbove_79 : decode c_P_isWrittenAbove 79 = .ok (.iload 4, 2) := by decide +kernel
theorem d_P_isWrittenAbove_81 : decode c_P_isWrittenAbove 81 = .ok (.if_icmp .le 5, 3) := by decide +kernel
theorem d_P_isWrittenAbove_84 : decode c_P_isWrittenAbove 84 = .ok (.iconst 1, 1) := by decide +kernel
theorem d_P_isWrittenAbove_85 : decode c_P_isWrittenAbove 85 = .ok (.ireturn, 1) := by decide +kernel
theorem d_P_isWrittenAbove_86 : decode c_P_isWrittenAbove 86 = .ok (.iinc 5 1, 3) := by decide +kernel
theorem d_P_isWrittenAbove_89 : decode c_P_isWrittenAbove 89 = .ok (.goto (-73), 3) := by decide +kernel
theorem d_P_isWrittenAbove_92 : decode c_P_isWrittenAbove 92 = .ok (.iconst 0, 1) := by decide +kernel
theorem d_P_isWrittenAbove_93 : decode c_P_isWrittenAbove 93 = .ok (.ireturn, 1) := by decide +kernel
theorem d_P_isCopied_0 : decode c_P_isCopied 0 = .ok (.iconst 1, 1) := by decide +kernel
theorem d_P_isCopied_1 : decode c_P_isCopied 1 = .ok (.istore_n 3, 1) := by decide +kernel
theorem d_P_isCopied_2 : decode c_P_isCopied 2 = .ok (.iload_n 3, 1) := by decide +kernel
theorem d_P_isCopied_3 : decode c_P_isCopied 3 = .ok (.aload_n 1, 1) := by decide +kernel
theorem d_P_isCopied_4 : decode c_P_isCopied 4 = .ok (.getfield 71, 3) := by decide +kernel
theorem d_P_isCopied_7 : decode c_P_isCopied 7 = .ok (.if_icmp .gt 34, 3) := by decide +kernel
theorem d_P_isCopied_10 : decode c_P_isCopied 10 = .ok (.aload_n 1, 1) := by decide +kernel
theorem d_P_isCopied_11 : decode c_P_isCopied 11 = .ok (.getfield 74, 3) := by decide +kernel
theorem d_P_isCopied_14 : decode c_P_isCopied 14 = .ok (.iload_n 3, 1) := by decide +kernel
theorem d_P_isCopied_15 : decode c_P_isCopied 15 = .ok (.iaload, 1) := by decide +kernel
theorem d_P_isCopied_16 : decode c_P_isCopied 16 = .ok (.iload_n 2, 1) := by decide +kernel
theorem d_P_isCopied_17 : decode c_P_isCopied 17 = .ok (.invokestatic 44, 3) := by decide +kernel
theorem d_P_isCopied_20 : decode c_P_isCopied 20 = .ok (.ifCond .eq 15, 3) := by decide +kernel
theorem d_P_isCopied_23 : decode c_P_isCopied 23 = .ok (.aload_n 0, 1) := by decide +kernel
theorem d_P_isCopied_24 : decode c_P_isCopied 24 = .ok (.iload_n 3, 1) := by decide +kernel
theorem d_P_isCopied_25 : decode c_P_isCopied 25 = .ok (.aload_n 1, 1) := by decide +kernel
theorem d_P_isCopied_26 : decode c_P_isCopied 26 = .ok (.iload_n 2, 1) := by decide +kernel
theorem d_P_isCopied_27 : decode c_P_isCopied 27 = .ok (.invokevirtual 77, 3) := by decide +kernel
theorem d_P_isCopied_30 : decode c_P_isCopied 30 = .ok (.ifCond .eq 5, 3) := by decide +kernel
theorem d_P_isCopied_33 : decode c_P_isCopied 33 = .ok (.iconst 1, 1) := by decide +kernel
theorem d_P_isCopied_34 : decode c_P_isCopied 34 = .ok (.ireturn, 1) := by decide +kernel
theorem d_P_isCopied_35 : decode c_P_isCopied 35 = .ok (.iinc 3 1, 3) := by decide +kernel
theorem d_P_isCopied_38 : decode c_P_isCopied 38 = .ok (.goto (-36), 3) := by decide +kernel
theorem d_P_isCopied_41 : decode c_P_isCopied 41 = .ok (.iconst 0, 1) := by decide +kernel
theorem d_P_isCopied_42 : decode c_P_isCopied 42 = .ok (.ireturn, 1) := by decide +kernel
theorem d_P_startAt_0 : decode c_P_startAt 0 = .ok (.iconst 0, 1) := by decide +kernel
theorem d_P_startAt_1 : decode c_P_startAt 1 = .ok (.istore_n 3, 1) := by decide +kernel
theorem d_P_startAt_2 : decode c_P_startAt 2 = .ok (.iconst 1, 1) := by decide +kernel
theorem d_P_startAt_3 : decode c_P_startAt 3 = .ok (.istore 4, 2) := by decide +kernel
theorem d_P_startAt_5 : decode c_P_startAt 5 = .ok (.iload 4, 2) := by decide +kernel
theorem d_P_startAt_7 : decode c_P_startAt 7 = .ok (.aload_n 0, 1) := by decide +kernel
theorem d_P_startAt_8 : decode c_P_startAt 8 = .ok (.getfield 27, 3) := by decide +kernel
theorem d_P_startAt_11 : decode c_P_startAt 11 = .ok (.if_icmp .gt 42, 3) := by decide +kernel
theorem d_P_startAt_14 : decode c_P_startAt 14 = .ok (.aload_n 0, 1) := by decide +kernel
theorem d_P_startAt_15 : decode c_P_startAt 15 = .ok (.getfield 15, 3) := by decide +kernel
theorem d_P_startAt_18 : decode c_P_startAt 18 = .ok (.iload 4, 2) := by decide +kernel
theorem d_P_startAt_20 : decode c_P_startAt 20 = .ok (.iaload, 1) := by decide +kernel
theorem d_P_startAt_21 : decode c_P_startAt 21 = .ok (.ifCond .le 26, 3) := by decide +kernel
theorem d_P_startAt_24 : decode c_P_startAt 24 = .ok (.iload_n 1, 1) := by decide +kernel
theorem d_P_startAt_25 : decode c_P_startAt 25 = .ok (.aload_n 0, 1) := by decide +kernel
theorem d_P_startAt_26 : decode c_P_startAt 26 = .ok (.getfield 15, 3) := by decide +kernel
theorem d_P_startAt_29 : decode c_P_startAt 29 = .ok (.iload 4, 2) := by decide +kernel
theorem d_P_startAt_31 : decode c_P_startAt 31 = .ok (.iaload, 1) := by decide +kernel
theorem d_P_startAt_32 : decode c_P_startAt 32 = .ok (.irem, 1) := by decide +kernel
theorem d_P_startAt_33 : decode c_P_startAt 33 = .ok (.ifCond .ne 14, 3) := by decide +kernel
theorem d_P_startAt_36 : decode c_P_startAt 36 = .ok (.iload_n 3, 1) := by decide +kernel
theorem d_P_startAt_37 : decode c_P_startAt 37 = .ok (.iload_n 2, 1) := by decide +kernel
theorem d_P_startAt_38 : decode c_P_startAt 38 = .ok (.if_icmp .ne 6, 3) := by decide +kernel
theorem d_P_startAt_41 : decode c_P_startAt 41 = .ok (.iload 4, 2) := by decide +kernel
theorem d_P_startAt_43 : decode c_P_startAt 43 = .ok (.ireturn, 1) := by decide +kernel
theorem d_P_startAt_44 : decode c_P_startAt 44 = .ok (.iinc 3 1, 3) := by decide +kernel
theorem d_P_startAt_47 : decode c_P_startAt 47 = .ok (.iinc 4 1, 3) := by decide +kernel
theorem d_P_startAt_50 : decode c_P_startAt 50 = .ok (.goto (-45), 3) := by decide +kernel
theorem d_P_startAt_53 : decode c_P_startAt 53 = .ok (.iconst 0, 1) := by decide +kernel
theorem d_P_startAt_54 : decode c_P_startAt 54 = .ok (.ireturn, 1) := by decide +kernel
theorem d_P_stepsOf_0 : decode c_P_stepsOf 0 = .ok (.iconst 0, 1) := by decide +kernel
theorem d_P_stepsOf_1 : decode c_P_stepsOf 1 = .ok (.istore_n 3, 1) := by decide +kernel
theorem d_P_stepsOf_2 : decode c_P_stepsOf 2 = .ok (.aload_n 0, 1) := by decide +kernel
theorem d_P_stepsOf_3 : decode c_P_stepsOf 3 = .ok (.getfield 24, 3) := by decide +kernel
theorem d_P_stepsOf_6 : decode c_P_stepsOf 6 = .ok (.iload_n 1, 1) := by decide +kernel
theorem d_P_stepsOf_7 : decode c_P_stepsOf 7 = .ok (.iaload, 1) := by decide +kernel
theorem d_P_stepsOf_8 : decode c_P_stepsOf 8 = .ok (.istore 4, 2) := by decide +kernel
theorem d_P_stepsOf_10 : decode c_P_stepsOf 10 = .ok (.iload 4, 2) := by decide +kernel
theorem d_P_stepsOf_12 : decode c_P_stepsOf 12 = .ok (.aload_n 0, 1) := by decide +kernel
theorem d_P_stepsOf_13 : decode c_P_stepsOf 13 = .ok (.getfield 24, 3) := by decide +kernel
theorem d_P_stepsOf_16 : decode c_P_stepsOf 16 = .ok (.iload_n 1, 1) := by decide +kernel
theorem d_P_stepsOf_17 : decode c_P_stepsOf 17 = .ok (.iconst 1, 1) := by decide +kernel
theorem d_P_stepsOf_18 : decode c_P_stepsOf 18 = .ok (.iadd, 1) := by decide +kernel
theorem d_P_stepsOf_19 : decode c_P_stepsOf 19 = .ok (.iaload, 1) := by decide +kernel
theorem d_P_stepsOf_20 : decode c_P_stepsOf 20 = .ok (.if_icmp .ge 24, 3) := by decide +kernel
theorem d_P_stepsOf_23 : decode c_P_stepsOf 23 = .ok (.iload_n 3, 1) := by decide +kernel
theorem d_P_stepsOf_24 : decode c_P_stepsOf 24 = .ok (.aload_n 2, 1) := by decide +kernel
theorem d_P_stepsOf_25 : decode c_P_stepsOf 25 = .ok (.getfield 68, 3) := by decide +kernel
theorem d_P_stepsOf_28 : decode c_P_stepsOf 28 = .ok (.aload_n 0, 1) := by decide +kernel
theorem d_P_stepsOf_29 : decode c_P_stepsOf 29 = .ok (.getfield 21, 3) := by decide +kernel
theorem d_P_stepsOf_32 : decode c_P_stepsOf 32 = .ok (.iload 4, 2) := by decide +kernel
theorem d_P_stepsOf_34 : decode c_P_stepsOf 34 = .ok (.iaload, 1) := by decide +kernel
theorem d_P_stepsOf_35 : decode c_P_stepsOf 35 = .ok (.iaload, 1) := by decide +kernel
theorem d_P_stepsOf_36 : decode c_P_stepsOf 36 = .ok (.iadd, 1) := by decide +kernel
theorem d_P_stepsOf_37 : decode c_P_stepsOf 37 = .ok (.istore_n 3, 1) := by decide +kernel
theorem d_P_stepsOf_38 : decode c_P_stepsOf 38 = .ok (.iinc 4 1, 3) := by decide +kernel
theorem d_P_stepsOf_41 : decode c_P_stepsOf 41 = .ok (.goto (-31), 3) := by decide +kernel
theorem d_P_stepsOf_44 : decode c_P_stepsOf 44 = .ok (.iload_n 3, 1) := by decide +kernel
theorem d_P_stepsOf_45 : decode c_P_stepsOf 45 = .ok (.ireturn, 1) := by decide +kernel
theorem d_P_standsIn_0 : decode c_P_standsIn 0 = .ok (.aload_n 1, 1) := by decide +kernel
theorem d_P_standsIn_1 : decode c_P_standsIn 1 = .ok (.getfield 9, 3) := by decide +kernel
theorem d_P_standsIn_4 : decode c_P_standsIn 4 = .ok (.aload_n 0, 1) := by decide +kernel
theorem d_P_standsIn_5 : decode c_P_standsIn 5 = .ok (.iload_n 2, 1) := by decide +kernel
theorem d_P_standsIn_6 : decode c_P_standsIn 6 = .ok (.iconst 0, 1) := by decide +kernel
theorem d_P_standsIn_7 : decode c_P_standsIn 7 = .ok (.invokevirtual 91, 3) := by decide +kernel
theorem d_P_standsIn_10 : decode c_P_standsIn 10 = .ok (.iaload, 1) := by decide +kernel
theorem d_P_standsIn_11 : decode c_P_standsIn 11 = .ok (.istore_n 3, 1) := by decide +kernel
theorem d_P_standsIn_12 : decode c_P_standsIn 12 = .ok (.aload_n 1, 1) := by decide +kernel
theorem d_P_standsIn_13 : decode c_P_standsIn 13 = .ok (.iload_n 3, 1) := by decide +kernel
theorem d_P_standsIn_14 : decode c_P_standsIn 14 = .ok (.invokevirtual 94, 3) := by decide +kernel
theorem d_P_standsIn_17 : decode c_P_standsIn 17 = .ok (.ifCond .eq 16, 3) := by decide +kernel
theorem d_P_standsIn_20 : decode c_P_standsIn 20 = .ok (.aload_n 1, 1) := by decide +kernel
theorem d_P_standsIn_21 : decode c_P_standsIn 21 = .ok (.iload_n 3, 1) := by decide +kernel
theorem d_P_standsIn_22 : decode c_P_standsIn 22 = .ok (.invokevirtual 65, 3) := by decide +kernel
theorem d_P_standsIn_25 : decode c_P_standsIn 25 = .ok (.aload_n 0, 1) := by decide +kernel
theorem d_P_standsIn_26 : decode c_P_standsIn 26 = .ok (.iload_n 2, 1) := by decide +kernel
theorem d_P_standsIn_27 : decode c_P_standsIn 27 = .ok (.invokevirtual 65, 3) := by decide +kernel
theorem d_P_standsIn_30 : decode c_P_standsIn 30 = .ok (.if_icmp .eq 5, 3) := by decide +kernel
theorem d_P_standsIn_33 : decode c_P_standsIn 33 = .ok (.iconst 0, 1) := by decide +kernel
theorem d_P_standsIn_34 : decode c_P_standsIn 34 = .ok (.ireturn, 1) := by decide +kernel
theorem d_P_standsIn_35 : decode c_P_standsIn 35 = .ok (.iconst 0, 1) := by decide +kernel
theorem d_P_standsIn_36 : decode c_P_standsIn 36 = .ok (.istore 4, 2) := by decide +kernel
theorem d_P_standsIn_38 : decode c_P_standsIn 38 = .ok (.iload 4, 2) := by decide +kernel
theorem d_P_standsIn_40 : decode c_P_standsIn 40 = .ok (.aload_n 0, 1) := by decide +kernel
theorem d_P_standsIn_41 : decode c_P_standsIn 41 = .ok (.iload_n 2, 1) := by decide +kernel
theorem d_P_standsIn_42 : decode c_P_standsIn 42 = .ok (.invokevirtual 65, 3) := by decide +kernel
theorem d_P_standsIn_45 : decode c_P_standsIn 45 = .ok (.if_icmp .ge 28, 3) := by decide +kernel
theorem d_P_standsIn_48 : decode c_P_standsIn 48 = .ok (.aload_n 1, 1) := by decide +kernel
theorem d_P_standsIn_49 : decode c_P_standsIn 49 = .ok (.iload_n 3, 1) := by decide +kernel
theorem d_P_standsIn_50 : decode c_P_standsIn 50 = .ok (.iload 4, 2) := by decide +kernel
theorem d_P_standsIn_52 : decode c_P_standsIn 52 = .ok (.invokevirtual 91, 3) := by decide +kernel
theorem d_P_standsIn_55 : decode c_P_standsIn 55 = .ok (.aload_n 0, 1) := by decide +kernel
theorem d_P_standsIn_56 : decode c_P_standsIn 56 = .ok (.iload_n 2, 1) := by decide +kernel
theorem d_P_standsIn_57 : decode c_P_standsIn 57 = .ok (.iload 4, 2) := by decide +kernel
theorem d_P_standsIn_59 : decode c_P_standsIn 59 = .ok (.invokevirtual 91, 3) := by decide +kernel
theorem d_P_standsIn_62 : decode c_P_standsIn 62 = .ok (.if_icmp .eq 5, 3) := by decide +kernel
theorem d_P_standsIn_65 : decode c_P_standsIn 65 = .ok (.iconst 0, 1) := by decide +kernel
theorem d_P_standsIn_66 : decode c_P_standsIn 66 = .ok (.ireturn, 1) := by decide +kernel
theorem d_P_standsIn_67 : decode c_P_standsIn 67 = .ok (.iinc 4 1, 3) := by decide +kernel
theorem d_P_standsIn_70 : decode c_P_standsIn 70 = .ok (.goto (-32), 3) := by decide +kernel
theorem d_P_standsIn_73 : decode c_P_standsIn 73 = .ok (.iconst 1, 1) := by decide +kernel
theorem d_P_standsIn_74 : decode c_P_standsIn 74 = .ok (.ireturn, 1) := by decide +kernel
theorem d_P_tasksNotIn_0 : decode c_P_tasksNotIn 0 = .ok (.iconst 0, 1) := by decide +kernel
theorem d_P_tasksNotIn_1 : decode c_P_tasksNotIn 1 = .ok (.istore_n 2, 1) := by decide +kernel
theorem d_P_tasksNotIn_2 : decode c_P_tasksNotIn 2 = .ok (.iconst 1, 1) := by decide +kernel
theorem d_P_tasksNotIn_3 : decode c_P_tasksNotIn 3 = .ok (.istore_n 3, 1) := by decide +kernel
theorem d_P_tasksNotIn_4 : decode c_P_tasksNotIn 4 = .ok (.iload_n 3, 1) := by decide +kernel
theorem d_P_tasksNotIn_5 : decode c_P_tasksNotIn 5 = .ok (.aload_n 0, 1) := by decide +kernel
theorem d_P_tasksNotIn_6 : decode c_P_tasksNotIn 6 = .ok (.getfield 27, 3) := by decide +kernel
theorem d_P_tasksNotIn_9 : decode c_P_tasksNotIn 9 = .ok (.if_icmp .gt 21, 3) := by decide +kernel
theorem d_P_tasksNotIn_12 : decode c_P_tasksNotIn 12 = .ok (.aload_n 0, 1) := by decide +kernel
theorem d_P_tasksNotIn_13 : decode c_P_tasksNotIn 13 = .ok (.aload_n 1, 1) := by decide +kernel
theorem d_P_tasksNotIn_14 : decode c_P_tasksNotIn 14 = .ok (.iload_n 3, 1) := by decide +kernel
theorem d_P_tasksNotIn_15 : decode c_P_tasksNotIn 15 = .ok (.invokevirtual 87, 3) := by decide +kernel
theorem d_P_tasksNotIn_18 : decode c_P_tasksNotIn 18 = .ok (.ifCond .ne 6, 3) := by decide +kernel
theorem d_P_tasksNotIn_21 : decode c_P_tasksNotIn 21 = .ok (.iinc 2 1, 3) := by decide +kernel
theorem d_P_tasksNotIn_24 : decode c_P_tasksNotIn 24 = .ok (.iinc 3 1, 3) := by decide +kernel
theorem d_P_tasksNotIn_27 : decode c_P_tasksNotIn 27 = .ok (.goto (-23), 3) := by decide +kernel
theorem d_P_tasksNotIn_30 : decode c_P_tasksNotIn 30 = .ok (.iload_n 2, 1) := by decide +kernel
theorem d_P_tasksNotIn_31 : decode c_P_tasksNotIn 31 = .ok (.ireturn, 1) := by decide +kernel
