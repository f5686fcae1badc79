theorem d_M_init_0 : decode c_M_init 0 = .ok (.aload_n 0, 1) := by decide +kernel
theorem d_M_init_1 : decode c_M_init 1 = .ok (.invokespecial 1, 3) := by decide +kernel
theorem d_M_init_4 : decode c_M_init 4 = .ok (.aload_n 0, 1) := by decide +kernel
theorem d_M_init_5 : decode c_M_init 5 = .ok (.bipush 25, 2) := by decide +kernel
theorem d_M_init_7 : decode c_M_init 7 = .ok (.newarray .int, 2) := by decide +kernel
theorem d_M_init_9 : decode c_M_init 9 = .ok (.putfield 7, 3) := by decide +kernel
theorem d_M_init_12 : decode c_M_init 12 = .ok (.aload_n 0, 1) := by decide +kernel
theorem d_M_init_13 : decode c_M_init 13 = .ok (.bipush 25, 2) := by decide +kernel
theorem d_M_init_15 : decode c_M_init 15 = .ok (.newarray .int, 2) := by decide +kernel
theorem d_M_init_17 : decode c_M_init 17 = .ok (.putfield 13, 3) := by decide +kernel
theorem d_M_init_20 : decode c_M_init 20 = .ok (.aload_n 0, 1) := by decide +kernel
theorem d_M_init_21 : decode c_M_init 21 = .ok (.bipush 25, 2) := by decide +kernel
theorem d_M_init_23 : decode c_M_init 23 = .ok (.newarray .int, 2) := by decide +kernel
theorem d_M_init_25 : decode c_M_init 25 = .ok (.putfield 16, 3) := by decide +kernel
theorem d_M_init_28 : decode c_M_init 28 = .ok (.aload_n 0, 1) := by decide +kernel
theorem d_M_init_29 : decode c_M_init 29 = .ok (.bipush 25, 2) := by decide +kernel
theorem d_M_init_31 : decode c_M_init 31 = .ok (.newarray .int, 2) := by decide +kernel
theorem d_M_init_33 : decode c_M_init 33 = .ok (.putfield 19, 3) := by decide +kernel
theorem d_M_init_36 : decode c_M_init 36 = .ok (.aload_n 0, 1) := by decide +kernel
theorem d_M_init_37 : decode c_M_init 37 = .ok (.bipush 21, 2) := by decide +kernel
theorem d_M_init_39 : decode c_M_init 39 = .ok (.newarray .int, 2) := by decide +kernel
theorem d_M_init_41 : decode c_M_init 41 = .ok (.putfield 22, 3) := by decide +kernel
theorem d_M_init_44 : decode c_M_init 44 = .ok (.aload_n 0, 1) := by decide +kernel
theorem d_M_init_45 : decode c_M_init 45 = .ok (.bipush 21, 2) := by decide +kernel
theorem d_M_init_47 : decode c_M_init 47 = .ok (.newarray .int, 2) := by decide +kernel
theorem d_M_init_49 : decode c_M_init 49 = .ok (.putfield 25, 3) := by decide +kernel
theorem d_M_init_52 : decode c_M_init 52 = .ok (.aload_n 0, 1) := by decide +kernel
theorem d_M_init_53 : decode c_M_init 53 = .ok (.bipush 25, 2) := by decide +kernel
theorem d_M_init_55 : decode c_M_init 55 = .ok (.newarray .int, 2) := by decide +kernel
theorem d_M_init_57 : decode c_M_init 57 = .ok (.putfield 28, 3) := by decide +kernel
theorem d_M_init_60 : decode c_M_init 60 = .ok (.aload_n 0, 1) := by decide +kernel
theorem d_M_init_61 : decode c_M_init 61 = .ok (.bipush 25, 2) := by decide +kernel
theorem d_M_init_63 : decode c_M_init 63 = .ok (.newarray .int, 2) := by decide +kernel
theorem d_M_init_65 : decode c_M_init 65 = .ok (.putfield 31, 3) := by decide +kernel
theorem d_M_init_68 : decode c_M_init 68 = .ok (.aload_n 0, 1) := by decide +kernel
theorem d_M_init_69 : decode c_M_init 69 = .ok (.bipush 41, 2) := by decide +kernel
theorem d_M_init_71 : decode c_M_init 71 = .ok (.newarray .int, 2) := by decide +kernel
theorem d_M_init_73 : decode c_M_init 73 = .ok (.putfield 34, 3) := by decide +kernel
theorem d_M_init_76 : decode c_M_init 76 = .ok (.aload_n 0, 1) := by decide +kernel
theorem d_M_init_77 : decode c_M_init 77 = .ok (.sipush 984, 3) := by decide +kernel
theorem d_M_init_80 : decode c_M_init 80 = .ok (.newarray .int, 2) := by decide +kernel
theorem d_M_init_82 : decode c_M_init 82 = .ok (.putfield 37, 3) := by decide +kernel
theorem d_M_init_85 : decode c_M_init 85 = .ok (.aload_n 0, 1) := by decide +kernel
theorem d_M_init_86 : decode c_M_init 86 = .ok (.sipush 984, 3) := by decide +kernel
theorem d_M_init_89 : decode c_M_init 89 = .ok (.newarray .int, 2) := by decide +kernel
theorem d_M_init_91 : decode c_M_init 91 = .ok (.putfield 40, 3) := by decide +kernel
theorem d_M_init_94 : decode c_M_init 94 = .ok (.aload_n 0, 1) := by decide +kernel
theorem d_M_init_95 : decode c_M_init 95 = .ok (.sipush 1025, 3) := by decide +kernel
theorem d_M_init_98 : decode c_M_init 98 = .ok (.newarray .int, 2) := by decide +kernel
theorem d_M_init_100 : decode c_M_init 100 = .ok (.putfield 43, 3) := by decide +kernel
theorem d_M_init_103 : decode c_M_init 103 = .ok (.aload_n 0, 1) := by decide +kernel
theorem d_M_init_104 : decode c_M_init 104 = .ok (.sipush 984, 3) := by decide +kernel
theorem d_M_init_107 : decode c_M_init 107 = .ok (.newarray .int, 2) := by decide +kernel
theorem d_M_init_109 : decode c_M_init 109 = .ok (.putfield 46, 3) := by decide +kernel
theorem d_M_init_112 : decode c_M_init 112 = .ok (.aload_n 0, 1) := by decide +kernel
theorem d_M_init_113 : decode c_M_init 113 = .ok (.bipush 25, 2) := by decide +kernel
theorem d_M_init_115 : decode c_M_init 115 = .ok (.newarray .int, 2) := by decide +kernel
theorem d_M_init_117 : decode c_M_init 117 = .ok (.putfield 49, 3) := by decide +kernel
theorem d_M_init_120 : decode c_M_init 120 = .ok (.return_, 1) := by decide +kernel
theorem d_M_isIn_0 : decode c_M_isIn 0 = .ok (.lload_n 0, 1) := by decide +kernel
theorem d_M_isIn_1 : decode c_M_isIn 1 = .ok (.lload_n 2, 1) := by decide +kernel
theorem d_M_isIn_2 : decode c_M_isIn 2 = .ok (.lcmp, 1) := by decide +kernel
theorem d_M_isIn_3 : decode c_M_isIn 3 = .ok (.ifCond .lt 14, 3) := by decide +kernel
theorem d_M_isIn_6 : decode c_M_isIn 6 = .ok (.lload_n 0, 1) := by decide +kernel
theorem d_M_isIn_7 : decode c_M_isIn 7 = .ok (.lload 4, 2) := by decide +kernel
theorem d_M_isIn_9 : decode c_M_isIn 9 = .ok (.lcmp, 1) := by decide +kernel
theorem d_M_isIn_10 : decode c_M_isIn 10 = .ok (.ifCond .gt 7, 3) := by decide +kernel
theorem d_M_isIn_13 : decode c_M_isIn 13 = .ok (.iconst 1, 1) := by decide +kernel
theorem d_M_isIn_14 : decode c_M_isIn 14 = .ok (.goto 4, 3) := by decide +kernel
theorem d_M_isIn_17 : decode c_M_isIn 17 = .ok (.iconst 0, 1) := by decide +kernel
theorem d_M_isIn_18 : decode c_M_isIn 18 = .ok (.ireturn, 1) := by decide +kernel
theorem d_M_isRunnable_0 : decode c_M_isRunnable 0 = .ok (.iload_n 1, 1) := by decide +kernel
theorem d_M_isRunnable_1 : decode c_M_isRunnable 1 = .ok (.i2l, 1) := by decide +kernel
theorem d_M_isRunnable_2 : decode c_M_isRunnable 2 = .ok (.lconst 1, 1) := by decide +kernel
theorem d_M_isRunnable_3 : decode c_M_isRunnable 3 = .ok (.aload_n 0, 1) := by decide +kernel
theorem d_M_isRunnable_4 : decode c_M_isRunnable 4 = .ok (.getfield 56, 3) := by decide +kernel
theorem d_M_isRunnable_7 : decode c_M_isRunnable 7 = .ok (.i2l, 1) := by decide +kernel
theorem d_M_isRunnable_8 : decode c_M_isRunnable 8 = .ok (.invokestatic 59, 3) := by decide +kernel
theorem d_M_isRunnable_11 : decode c_M_isRunnable 11 = .ok (.ireturn, 1) := by decide +kernel
theorem d_M_runnable_0 : decode c_M_runnable 0 = .ok (.aload_n 0, 1) := by decide +kernel
theorem d_M_runnable_1 : decode c_M_runnable 1 = .ok (.iconst 0, 1) := by decide +kernel
theorem d_M_runnable_2 : decode c_M_runnable 2 = .ok (.putfield 52, 3) := by decide +kernel
theorem d_M_runnable_5 : decode c_M_runnable 5 = .ok (.iload_n 1, 1) := by decide +kernel
theorem d_M_runnable_6 : decode c_M_runnable 6 = .ok (.i2l, 1) := by decide +kernel
theorem d_M_runnable_7 : decode c_M_runnable 7 = .ok (.lconst 0, 1) := by decide +kernel
theorem d_M_runnable_8 : decode c_M_runnable 8 = .ok (.ldc2_w 63, 3) := by decide +kernel
theorem d_M_runnable_11 : decode c_M_runnable 11 = .ok (.invokestatic 59, 3) := by decide +kernel
theorem d_M_runnable_14 : decode c_M_runnable 14 = .ok (.ifCond .eq 27, 3) := by decide +kernel
theorem d_M_runnable_17 : decode c_M_runnable 17 = .ok (.iload_n 2, 1) := by decide +kernel
theorem d_M_runnable_18 : decode c_M_runnable 18 = .ok (.i2l, 1) := by decide +kernel
theorem d_M_runnable_19 : decode c_M_runnable 19 = .ok (.lconst 1, 1) := by decide +kernel
theorem d_M_runnable_20 : decode c_M_runnable 20 = .ok (.ldc2_w 65, 3) := by decide +kernel
theorem d_M_runnable_23 : decode c_M_runnable 23 = .ok (.invokestatic 59, 3) := by decide +kernel
theorem d_M_runnable_26 : decode c_M_runnable 26 = .ok (.ifCond .eq 15, 3) := by decide +kernel
theorem d_M_runnable_29 : decode c_M_runnable 29 = .ok (.iload_n 3, 1) := by decide +kernel
theorem d_M_runnable_30 : decode c_M_runnable 30 = .ok (.i2l, 1) := by decide +kernel
theorem d_M_runnable_31 : decode c_M_runnable 31 = .ok (.lconst 0, 1) := by decide +kernel
theorem d_M_runnable_32 : decode c_M_runnable 32 = .ok (.ldc2_w 67, 3) := by decide +kernel
theorem d_M_runnable_35 : decode c_M_runnable 35 = .ok (.invokestatic 59, 3) := by decide +kernel
theorem d_M_runnable_38 : decode c_M_runnable 38 = .ok (.ifCond .ne 6, 3) := by decide +kernel
theorem d_M_runnable_41 : decode c_M_runnable 41 = .ok (.bipush (-2), 2) := by decide +kernel
theorem d_M_runnable_43 : decode c_M_runnable 43 = .ok (.ireturn, 1) := by decide +kernel
theorem d_M_runnable_44 : decode c_M_runnable 44 = .ok (.aload_n 0, 1) := by decide +kernel
theorem d_M_runnable_45 : decode c_M_runnable 45 = .ok (.getfield 56, 3) := by decide +kernel
theorem d_M_runnable_48 : decode c_M_runnable 48 = .ok (.bipush 24, 2) := by decide +kernel
theorem d_M_runnable_50 : decode c_M_runnable 50 = .ok (.if_icmp .ne 6, 3) := by decide +kernel
theorem d_M_runnable_53 : decode c_M_runnable 53 = .ok (.bipush (-4), 2) := by decide +kernel
theorem d_M_runnable_55 : decode c_M_runnable 55 = .ok (.ireturn, 1) := by decide +kernel
theorem d_M_runnable_56 : decode c_M_runnable 56 = .ok (.aload_n 0, 1) := by decide +kernel
theorem d_M_runnable_57 : decode c_M_runnable 57 = .ok (.dup, 1) := by decide +kernel
theorem d_M_runnable_58 : decode c_M_runnable 58 = .ok (.getfield 56, 3) := by decide +kernel
theorem d_M_runnable_61 : decode c_M_runnable 61 = .ok (.iconst 1, 1) := by decide +kernel
theorem d_M_runnable_62 : decode c_M_runnable 62 = .ok (.iadd, 1) := by decide +kernel
theorem d_M_runnable_63 : decode c_M_runnable 63 = .ok (.putfield 56, 3) := by decide +kernel
theorem d_M_runnable_66 : decode c_M_runnable 66 = .ok (.aload_n 0, 1) := by decide +kernel
theorem d_M_runnable_67 : decode c_M_runnable 67 = .ok (.getfield 7, 3) := by decide +kernel
theorem d_M_runnable_70 : decode c_M_runnable 70 = .ok (.aload_n 0, 1) := by decide +kernel
theorem d_M_runnable_71 : decode c_M_runnable 71 = .ok (.getfield 56, 3) := by decide +kernel
theorem d_M_runnable_74 : decode c_M_runnable 74 = .ok (.iload_n 1, 1) := by decide +kernel
theorem d_M_runnable_75 : decode c_M_runnable 75 = .ok (.iastore, 1) := by decide +kernel
theorem d_M_runnable_76 : decode c_M_runnable 76 = .ok (.aload_n 0, 1) := by decide +kernel
theorem d_M_runnable_77 : decode c_M_runnable 77 = .ok (.getfield 13, 3) := by decide +kernel
theorem d_M_runnable_80 : decode c_M_runnable 80 = .ok (.aload_n 0, 1) := by decide +kernel
theorem d_M_runnable_81 : decode c_M_runnable 81 = .ok (.getfield 56, 3) := by decide +kernel
theorem d_M_runnable_84 : decode c_M_runnable 84 = .ok (.iload_n 2, 1) := by decide +kernel
theorem d_M_runnable_85 : decode c_M_runnable 85 = .ok (.iastore, 1) := by decide +kernel
theorem d_M_runnable_86 : decode c_M_runnable 86 = .ok (.aload_n 0, 1) := by decide +kernel
theorem d_M_runnable_87 : decode c_M_runnable 87 = .ok (.getfield 16, 3) := by decide +kernel
theorem d_M_runnable_90 : decode c_M_runnable 90 = .ok (.aload_n 0, 1) := by decide +kernel
theorem d_M_runnable_91 : decode c_M_runnable 91 = .ok (.getfield 56, 3) := by decide +kernel
theorem d_M_runnable_94 : decode c_M_runnable 94 = .ok (.iload_n 3, 1) := by decide +kernel
theorem d_M_runnable_95 : decode c_M_runnable 95 = .ok (.iastore, 1) := by decide +kernel
theorem d_M_runnable_96 : decode c_M_runnable 96 = .ok (.aload_n 0, 1) := by decide +kernel
theorem d_M_runnable_97 : decode c_M_runnable 97 = .ok (.iconst 0, 1) := by decide +kernel
theorem d_M_runnable_98 : decode c_M_runnable 98 = .ok (.putfield 69, 3) := by decide +kernel
theorem d_M_runnable_101 : decode c_M_runnable 101 = .ok (.aload_n 0, 1) := by decide +kernel
theorem d_M_runnable_102 : decode c_M_runnable 102 = .ok (.getfield 56, 3) := by decide +kernel
theorem d_M_runnable_105 : decode c_M_runnable 105 = .ok (.ireturn, 1) := by decide +kernel
theorem d_M_measure_0 : decode c_M_measure 0 = .ok (.iconst 1, 1) := by decide +kernel
theorem d_M_measure_1 : decode c_M_measure 1 = .ok (.istore_n 2, 1) := by decide +kernel
theorem d_M_measure_2 : decode c_M_measure 2 = .ok (.iload_n 2, 1) := by decide +kernel
theorem d_M_measure_3 : decode c_M_measure 3 = .ok (.aload_n 0, 1) := by decide +kernel
theorem d_M_measure_4 : decode c_M_measure 4 = .ok (.getfield 56, 3) := by decide +kernel
theorem d_M_measure_7 : decode c_M_measure 7 = .ok (.if_icmp .gt 26, 3) := by decide +kernel
theorem d_M_measure_10 : decode c_M_measure 10 = .ok (.aload_n 0, 1) := by decide +kernel
theorem d_M_measure_11 : decode c_M_measure 11 = .ok (.getfield 31, 3) := by decide +kernel
theorem d_M_measure_14 : decode c_M_measure 14 = .ok (.iload_n 2, 1) := by decide +kernel
theorem d_M_measure_15 : decode c_M_measure 15 = .ok (.iload_n 2, 1) := by decide +kernel
theorem d_M_measure_16 : decode c_M_measure 16 = .ok (.iload_n 1, 1) := by decide +kernel
theorem d_M_measure_17 : decode c_M_measure 17 = .ok (.if_icmp .ne 7, 3) := by decide +kernel
theorem d_M_measure_20 : decode c_M_measure 20 = .ok (.iconst 0, 1) := by decide +kernel
theorem d_M_measure_21 : decode c_M_measure 21 = .ok (.goto 5, 3) := by decide +kernel
theorem d_M_measure_24 : decode c_M_measure 24 = .ok (.bipush 99, 2) := by decide +kernel
theorem d_M_measure_26 : decode c_M_measure 26 = .ok (.iastore, 1) := by decide +kernel
theorem d_M_measure_27 : decode c_M_measure 27 = .ok (.iinc 2 1, 3) := by decide +kernel
theorem d_M_measure_30 : decode c_M_measure 30 = .ok (.goto (-28), 3) := by decide +kernel
theorem d_M_measure_33 : decode c_M_measure 33 = .ok (.iconst 0, 1) := by decide +kernel
theorem d_M_measure_34 : decode c_M_measure 34 = .ok (.istore_n 2, 1) := by decide +kernel
theorem d_M_measure_35 : decode c_M_measure 35 = .ok (.iload_n 2, 1) := by decide +kernel
theorem d_M_measure_36 : decode c_M_measure 36 = .ok (.aload_n 0, 1) := by decide +kernel
theorem d_M_measure_37 : decode c_M_measure 37 = .ok (.getfield 56, 3) := by decide +kernel
theorem d_M_measure_40 : decode c_M_measure 40 = .ok (.if_icmp .ge 91, 3) := by decide +kernel
theorem d_M_measure_43 : decode c_M_measure 43 = .ok (.iconst 1, 1) := by decide +kernel
theorem d_M_measure_44 : decode c_M_measure 44 = .ok (.istore_n 3, 1) := by decide +kernel
theorem d_M_measure_45 : decode c_M_measure 45 = .ok (.iload_n 3, 1) := by decide +kernel
theorem d_M_measure_46 : decode c_M_measure 46 = .ok (.aload_n 0, 1) := by decide +kernel
theorem d_M_measure_47 : decode c_M_measure 47 = .ok (.getfield 56, 3) := by decide +kernel
theorem d_M_measure_50 : decode c_M_measure 50 = .ok (.if_icmp .gt 75, 3) := by decide +kernel
theorem d_M_measure_53 : decode c_M_measure 53 = .ok (.iconst 1, 1) := by decide +kernel
theorem d_M_measure_54 : decode c_M_measure 54 = .ok (.istore 4, 2) := by decide +kernel
theorem d_M_measure_56 : decode c_M_measure 56 = .ok (.iload 4, 2) := by decide +kernel
theorem d_M_measure_58 : decode c_M_measure 58 = .ok (.aload_n 0, 1) := by decide +kernel
theorem d_M_measure_59 : decode c_M_measure 59 = .ok (.getfield 56, 3) := by decide +kernel
theorem d_M_measure_62 : decode c_M_measure 62 = .ok (.if_icmp .gt 57, 3) := by decide +kernel
theorem d_M_measure_65 : decode c_M_measure 65 = .ok (.aload_n 0, 1) := by decide +kernel
theorem d_M_measure_66 : decode c_M_measure 66 = .ok (.getfield 19, 3) := by decide +kernel
theorem d_M_measure_69 : decode c_M_measure 69 = .ok (.iload 4, 2) := by decide +kernel
theorem d_M_measure_71 : decode c_M_measure 71 = .ok (.iaload, 1) := by decide +kernel
theorem d_M_measure_72 : decode c_M_measure 72 = .ok (.iload_n 3, 1) := by decide +kernel
theorem d_M_measure_73 : decode c_M_measure 73 = .ok (.ishr, 1) := by decide +kernel
theorem d_M_measure_74 : decode c_M_measure 74 = .ok (.iconst 1, 1) := by decide +kernel
theorem d_M_measure_75 : decode c_M_measure 75 = .ok (.iand, 1) := by decide +kernel
theorem d_M_measure_76 : decode c_M_measure 76 = .ok (.iconst 1, 1) := by decide +kernel
theorem d_M_measure_77 : decode c_M_measure 77 = .ok (.if_icmp .ne 36, 3) := by decide +kernel
theorem d_M_measure_80 : decode c_M_measure 80 = .ok (.aload_n 0, 1) := by decide +kernel
theorem d_M_measure_81 : decode c_M_measure 81 = .ok (.getfield 31, 3) := by decide +kernel
theorem d_M_measure_84 : decode c_M_measure 84 = .ok (.iload 4, 2) := by decide +kernel
theorem d_M_measure_86 : decode c_M_measure 86 = .ok (.iaload, 1) := by decide +kernel
theorem d_M_measure_87 : decode c_M_measure 87 = .ok (.iconst 1, 1) := by decide +kernel
theorem d_M_measure_88 : decode c_M_measure 88 = .ok (.iadd, 1) := by decide +kernel
theorem d_M_measure_89 : decode c_M_measure 89 = .ok (.aload_n 0, 1) := by decide +kernel
theorem d_M_measure_90 : decode c_M_measure 90 = .ok (.getfield 31, 3) := by decide +kernel
theorem d_M_measure_93 : decode c_M_measure 93 = .ok (.iload_n 3, 1) := by decide +kernel
theorem d_M_measure_94 : decode c_M_measure 94 = .ok (.iaload, 1) := by decide +kernel
theorem d_M_measure_95 : decode c_M_measure 95 = .ok (.if_icmp .ge 18, 3) := by decide +kernel
theorem d_M_measure_98 : decode c_M_measure 98 = .ok (.aload_n 0, 1) := by decide +kernel
theorem d_M_measure_99 : decode c_M_measure 99 = .ok (.getfield 31, 3) := by decide +kernel
theorem d_M_measure_102 : decode c_M_measure 102 = .ok (.iload_n 3, 1) := by decide +kernel
theorem d_M_measure_103 : decode c_M_measure 103 = .ok (.aload_n 0, 1) := by decide +kernel
theorem d_M_measure_104 : decode c_M_measure 104 = .ok (.getfield 31, 3) := by decide +kernel
theorem d_M_measure_107 : decode c_M_measure 107 = .ok (.iload 4, 2) := by decide +kernel
theorem d_M_measure_109 : decode c_M_measure 109 = .ok (.iaload, 1) := by decide +kernel
theorem d_M_measure_110 : decode c_M_measure 110 = .ok (.iconst 1, 1) := by decide +kernel
theorem d_M_measure_111 : decode c_M_measure 111 = .ok (.iadd, 1) := by decide +kernel
theorem d_M_measure_112 : decode c_M_measure 112 = .ok (.iastore, 1) := by decide +kernel
theorem d_M_measure_113 : decode c_M_measure 113 = .ok (.iinc 4 1, 3) := by decide +kernel
theorem d_M_measure_116 : decode c_M_measure 116 = .ok (.goto (-60), 3) := by decide +kernel
theorem d_M_measure_119 : decode c_M_measure 119 = .ok (.iinc 3 1, 3) := by decide +kernel
theorem d_M_measure_122 : decode c_M_measure 122 = .ok (.goto (-77), 3) := by decide +kernel
theorem d_M_measure_125 : decode c_M_measure 125 = .ok (.iinc 2 1, 3) := by decide +kernel
theorem d_M_measure_128 : decode c_M_measure 128 = .ok (.goto (-93), 3) := by decide +kernel
theorem d_M_measure_131 : decode c_M_measure 131 = .ok (.return_, 1) := by decide +kernel
theorem d_M_tellRing_0 : decode c_M_tellRing 0 = .ok (.aload_n 0, 1) := by decide +kernel
theorem d_M_tellRing_1 : decode c_M_tellRing 1 = .ok (.iconst 0, 1) := by decide +kernel
theorem d_M_tellRing_2 : decode c_M_tellRing 2 = .ok (.putfield 73, 3) := by decide +kernel
theorem d_M_tellRing_5 : decode c_M_tellRing 5 = .ok (.iload_n 1, 1) := by decide +kernel
theorem d_M_tellRing_6 : decode c_M_tellRing 6 = .ok (.istore_n 2, 1) := by decide +kernel
theorem d_M_tellRing_7 : decode c_M_tellRing 7 = .ok (.aload_n 0, 1) := by decide +kernel
theorem d_M_tellRing_8 : decode c_M_tellRing 8 = .ok (.getfield 28, 3) := by decide +kernel
theorem d_M_tellRing_11 : decode c_M_tellRing 11 = .ok (.iconst 0, 1) := by decide +kernel
theorem d_M_tellRing_12 : decode c_M_tellRing 12 = .ok (.iload_n 1, 1) := by decide +kernel
theorem d_M_tellRing_13 : decode c_M_tellRing 13 = .ok (.iastore, 1) := by decide +kernel
theorem d_M_tellRing_14 : decode c_M_tellRing 14 = .ok (.aload_n 0, 1) := by decide +kernel
theorem d_M_tellRing_15 : decode c_M_tellRing 15 = .ok (.iconst 1, 1) := by decide +kernel
theorem d_M_tellRing_16 : decode c_M_tellRing 16 = .ok (.putfield 73, 3) := by decide +kernel
theorem d_M_tellRing_19 : decode c_M_tellRing 19 = .ok (.aload_n 0, 1) := by decide +kernel
theorem d_M_tellRing_20 : decode c_M_tellRing 20 = .ok (.getfield 31, 3) := by decide +kernel
theorem d_M_tellRing_23 : decode c_M_tellRing 23 = .ok (.iload_n 2, 1) := by decide +kernel
theorem d_M_tellRing_24 : decode c_M_tellRing 24 = .ok (.iaload, 1) := by decide +kernel
theorem d_M_tellRing_25 : decode c_M_tellRing 25 = .ok (.ifCond .le 66, 3) := by decide +kernel
theorem d_M_tellRing_28 : decode c_M_tellRing 28 = .ok (.iconst 1, 1) := by decide +kernel
theorem d_M_tellRing_29 : decode c_M_tellRing 29 = .ok (.istore_n 3, 1) := by decide +kernel
theorem d_M_tellRing_30 : decode c_M_tellRing 30 = .ok (.aload_n 0, 1) := by decide +kernel
theorem d_M_tellRing_31 : decode c_M_tellRing 31 = .ok (.getfield 19, 3) := by decide +kernel
theorem d_M_tellRing_34 : decode c_M_tellRing 34 = .ok (.iload_n 3, 1) := by decide +kernel
theorem d_M_tellRing_35 : decode c_M_tellRing 35 = .ok (.iaload, 1) := by decide +kernel
theorem d_M_tellRing_36 : decode c_M_tellRing 36 = .ok (.iload_n 2, 1) := by decide +kernel
theorem d_M_tellRing_37 : decode c_M_tellRing 37 = .ok (.ishr, 1) := by decide +kernel
theorem d_M_tellRing_38 : decode c_M_tellRing 38 = .ok (.iconst 1, 1) := by decide +kernel
theorem d_M_tellRing_39 : decode c_M_tellRing 39 = .ok (.iand, 1) := by decide +kernel
theorem d_M_tellRing_40 : decode c_M_tellRing 40 = .ok (.ifCond .eq 20, 3) := by decide +kernel
theorem d_M_tellRing_43 : decode c_M_tellRing 43 = .ok (.aload_n 0, 1) := by decide +kernel
theorem d_M_tellRing_44 : decode c_M_tellRing 44 = .ok (.getfield 31, 3) := by decide +kernel
theorem d_M_tellRing_47 : decode c_M_tellRing 47 = .ok (.iload_n 3, 1) := by decide +kernel
theorem d_M_tellRing_48 : decode c_M_tellRing 48 = .ok (.iaload, 1) := by decide +kernel
theorem d_M_tellRing_49 : decode c_M_tellRing 49 = .ok (.aload_n 0, 1) := by decide +kernel
theorem d_M_tellRing_50 : decode c_M_tellRing 50 = .ok (.getfield 31, 3) := by decide +kernel
theorem d_M_tellRing_53 : decode c_M_tellRing 53 = .ok (.iload_n 2, 1) := by decide +kernel
theorem d_M_tellRing_54 : decode c_M_tellRing 54 = .ok (.iaload, 1) := by decide +kernel
theorem d_M_tellRing_55 : decode c_M_tellRing 55 = .ok (.iconst 1, 1) := by decide +kernel
theorem d_M_tellRing_56 : decode c_M_tellRing 56 = .ok (.isub, 1) := by decide +kernel
theorem d_M_tellRing_57 : decode c_M_tellRing 57 = .ok (.if_icmp .eq 9, 3) := by decide +kernel
theorem d_M_tellRing_60 : decode c_M_tellRing 60 = .ok (.iinc 3 1, 3) := by decide +kernel
theorem d_M_tellRing_63 : decode c_M_tellRing 63 = .ok (.goto (-33), 3) := by decide +kernel
theorem d_M_tellRing_66 : decode c_M_tellRing 66 = .ok (.iload_n 3, 1) := by decide +kernel
theorem d_M_tellRing_67 : decode c_M_tellRing 67 = .ok (.istore_n 2, 1) := by decide +kernel
theorem d_M_tellRing_68 : decode c_M_tellRing 68 = .ok (.aload_n 0, 1) := by decide +kernel
theorem d_M_tellRing_69 : decode c_M_tellRing 69 = .ok (.getfield 28, 3) := by decide +kernel
theorem d_M_tellRing_72 : decode c_M_tellRing 72 = .ok (.aload_n 0, 1) := by decide +kernel
theorem d_M_tellRing_73 : decode c_M_tellRing 73 = .ok (.getfield 73, 3) := by decide +kernel
theorem d_M_tellRing_76 : decode c_M_tellRing 76 = .ok (.iload_n 2, 1) := by decide +kernel
theorem d_M_tellRing_77 : decode c_M_tellRing 77 = .ok (.iastore, 1) := by decide +kernel
theorem d_M_tellRing_78 : decode c_M_tellRing 78 = .ok (.aload_n 0, 1) := by decide +kernel
theorem d_M_tellRing_79 : decode c_M_tellRing 79 = .ok (.dup, 1) := by decide +kernel
theorem d_M_tellRing_80 : decode c_M_tellRing 80 = .ok (.getfield 73, 3) := by decide +kernel
theorem d_M_tellRing_83 : decode c_M_tellRing 83 = .ok (.iconst 1, 1) := by decide +kernel
theorem d_M_tellRing_84 : decode c_M_tellRing 84 = .ok (.iadd, 1) := by decide +kernel
theorem d_M_tellRing_85 : decode c_M_tellRing 85 = .ok (.putfield 73, 3) := by decide +kernel
theorem d_M_tellRing_88 : decode c_M_tellRing 88 = .ok (.goto (-69), 3) := by decide +kernel
theorem d_M_tellRing_91 : decode c_M_tellRing 91 = .ok (.return_, 1) := by decide +kernel
theorem d_M_needs_0 : decode c_M_needs 0 = .ok (.aload_n 0, 1) := by decide +kernel
theorem d_M_needs_1 : decode c_M_needs 1 = .ok (.iconst 0, 1) := by decide +kernel
theorem d_M_needs_2 : decode c_M_needs 2 = .ok (.putfield 52, 3) := by decide +kernel
theorem d_M_needs_5 : decode c_M_needs 5 = .ok (.aload_n 0, 1) := by decide +kernel
theorem d_M_needs_6 : decode c_M_needs 6 = .ok (.iload_n 1, 1) := by decide +kernel
theorem d_M_needs_7 : decode c_M_needs 7 = .ok (.invokevirtual 76, 3) := by decide +kernel
theorem d_M_needs_10 : decode c_M_needs 10 = .ok (.ifCond .eq 11, 3) := by decide +kernel
theorem d_M_needs_13 : decode c_M_needs 13 = .ok (.aload_n 0, 1) := by decide +kernel
theorem d_M_needs_14 : decode c_M_needs 14 = .ok (.iload_n 2, 1) := by decide +kernel
theorem d_M_needs_15 : decode c_M_needs 15 = .ok (.invokevirtual 76, 3) := by decide +kernel
theorem d_M_needs_18 : decode c_M_needs 18 = .ok (.ifCond .ne 5, 3) := by decide +kernel
theorem d_M_needs_21 : decode c_M_needs 21 = .ok (.iconst (-1), 1) := by decide +kernel
theorem d_M_needs_22 : decode c_M_needs 22 = .ok (.ireturn, 1) := by decide +kernel
theorem d_M_needs_23 : decode c_M_needs 23 = .ok (.iload_n 3, 1) := by decide +kernel
theorem d_M_needs_24 : decode c_M_needs 24 = .ok (.ifCond .eq 10, 3) := by decide +kernel
theorem d_M_needs_27 : decode c_M_needs 27 = .ok (.aload_n 0, 1) := by decide +kernel
theorem d_M_needs_28 : decode c_M_needs 28 = .ok (.iconst 0, 1) := by decide +kernel
theorem d_M_needs_29 : decode c_M_needs 29 = .ok (.putfield 69, 3) := by decide +kernel
theorem d_M_needs_32 : decode c_M_needs 32 = .ok (.iconst 1, 1) := by decide +kernel
theorem d_M_needs_33 : decode c_M_needs 33 = .ok (.ireturn, 1) := by decide +kernel
theorem d_M_needs_34 : decode c_M_needs 34 = .ok (.aload_n 0, 1) := by decide +kernel
theorem d_M_needs_35 : decode c_M_needs 35 = .ok (.iload_n 1, 1) := by decide +kernel
theorem d_M_needs_36 : decode c_M_needs 36 = .ok (.invokevirtual 80, 3) := by decide +kernel
theorem d_M_needs_39 : decode c_M_needs 39 = .ok (.aload_n 0, 1) := by decide +kernel
theorem d_M_needs_40 : decode c_M_needs 40 = .ok (.getfield 31, 3) := by decide +kernel
theorem d_M_needs_43 : decode c_M_needs 43 = .ok (.iload_n 2, 1) := by decide +kernel
theorem d_M_needs_44 : decode c_M_needs 44 = .ok (.iaload, 1) := by decide +kernel
theorem d_M_needs_45 : decode c_M_needs 45 = .ok (.bipush 99, 2) := by decide +kernel
theorem d_M_needs_47 : decode c_M_needs 47 = .ok (.if_icmp .ge 10, 3) := by decide +kernel
theorem d_M_needs_50 : decode c_M_needs 50 = .ok (.aload_n 0, 1) := by decide +kernel
theorem d_M_needs_51 : decode c_M_needs 51 = .ok (.iload_n 2, 1) := by decide +kernel
theorem d_M_needs_52 : decode c_M_needs 52 = .ok (.invokevirtual 84, 3) := by decide +kernel
theorem d_M_needs_55 : decode c_M_needs 55 = .ok (.iconst 0, 1) := by decide +kernel
theorem d_M_needs_56 : decode c_M_needs 56 = .ok (.ireturn, 1) := by decide +kernel
theorem d_M_needs_57 : decode c_M_needs 57 = .ok (.aload_n 0, 1) := by decide +kernel
theorem d_M_needs_58 : decode c_M_needs 58 = .ok (.iconst 0, 1) := by decide +kernel
theorem d_M_needs_59 : decode c_M_needs 59 = .ok (.putfield 69, 3) := by decide +kernel
theorem d_M_needs_62 : decode c_M_needs 62 = .ok (.aload_n 0, 1) := by decide +kernel
theorem d_M_needs_63 : decode c_M_needs 63 = .ok (.getfield 19, 3) := by decide +kernel
theorem d_M_needs_66 : decode c_M_needs 66 = .ok (.iload_n 2, 1) := by decide +kernel
theorem d_M_needs_67 : decode c_M_needs 67 = .ok (.dup2, 1) := by decide +kernel
theorem d_M_needs_68 : decode c_M_needs 68 = .ok (.iaload, 1) := by decide +kernel
theorem d_M_needs_69 : decode c_M_needs 69 = .ok (.iconst 1, 1) := by decide +kernel
theorem d_M_needs_70 : decode c_M_needs 70 = .ok (.iload_n 1, 1) := by decide +kernel
theorem d_M_needs_71 : decode c_M_needs 71 = .ok (.ishl, 1) := by decide +kernel
theorem d_M_needs_72 : decode c_M_needs 72 = .ok (.ior, 1) := by decide +kernel
theorem d_M_needs_73 : decode c_M_needs 73 = .ok (.iastore, 1) := by decide +kernel
theorem d_M_needs_74 : decode c_M_needs 74 = .ok (.iconst 1, 1) := by decide +kernel
theorem d_M_needs_75 : decode c_M_needs 75 = .ok (.ireturn, 1) := by decide +kernel
theorem d_M_ring_0 : decode c_M_ring 0 = .ok (.aload_n 0, 1) := by decide +kernel
theorem d_M_ring_1 : decode c_M_ring 1 = .ok (.iconst 0, 1) := by decide +kernel
theorem d_M_ring_2 : decode c_M_ring 2 = .ok (.putfield 52, 3) := by decide +kernel
theorem d_M_ring_5 : decode c_M_ring 5 = .ok (.iload_n 1, 1) := by decide +kernel
theorem d_M_ring_6 : decode c_M_ring 6 = .ok (.ifCond .lt 20, 3) := by decide +kernel
theorem d_M_ring_9 : decode c_M_ring 9 = .ok (.iload_n 1, 1) := by decide +kernel
theorem d_M_ring_10 : decode c_M_ring 10 = .ok (.aload_n 0, 1) := by decide +kernel
theorem d_M_ring_11 : decode c_M_ring 11 = .ok (.getfield 73, 3) := by decide +kernel
theorem d_M_ring_14 : decode c_M_ring 14 = .ok (.if_icmp .ge 12, 3) := by decide +kernel
theorem d_M_ring_17 : decode c_M_ring 17 = .ok (.aload_n 0, 1) := by decide +kernel
theorem d_M_ring_18 : decode c_M_ring 18 = .ok (.getfield 28, 3) := by decide +kernel
theorem d_M_ring_21 : decode c_M_ring 21 = .ok (.iload_n 1, 1) := by decide +kernel
theorem d_M_ring_22 : decode c_M_ring 22 = .ok (.iaload, 1) := by decide +kernel
theorem d_M_ring_23 : decode c_M_ring 23 = .ok (.goto 4, 3) := by decide +kernel
theorem d_M_ring_26 : decode c_M_ring 26 = .ok (.iconst 0, 1) := by decide +kernel
theorem d_M_ring_27 : decode c_M_ring 27 = .ok (.ireturn, 1) := by decide +kernel
theorem d_M_area_0 : decode c_M_area 0 = .ok (.aload_n 0, 1) := by decide +kernel
theorem d_M_area_1 : decode c_M_area 1 = .ok (.iconst 0, 1) := by decide +kernel
theorem d_M_area_2 : decode c_M_area 2 = .ok (.putfield 52, 3) := by decide +kernel
theorem d_M_area_5 : decode c_M_area 5 = .ok (.aload_n 0, 1) := by decide +kernel
theorem d_M_area_6 : decode c_M_area 6 = .ok (.iload_n 1, 1) := by decide +kernel
theorem d_M_area_7 : decode c_M_area 7 = .ok (.invokevirtual 76, 3) := by decide +kernel
theorem d_M_area_10 : decode c_M_area 10 = .ok (.ifCond .ne 5, 3) := by decide +kernel
theorem d_M_area_13 : decode c_M_area 13 = .ok (.iconst (-1), 1) := by decide +kernel
theorem d_M_area_14 : decode c_M_area 14 = .ok (.ireturn, 1) := by decide +kernel
theorem d_M_area_15 : decode c_M_area 15 = .ok (.iload_n 2, 1) := by decide +kernel
theorem d_M_area_16 : decode c_M_area 16 = .ok (.ifCond .ge 14, 3) := by decide +kernel
theorem d_M_area_19 : decode c_M_area 19 = .ok (.iload_n 2, 1) := by decide +kernel
theorem d_M_area_20 : decode c_M_area 20 = .ok (.bipush (-20), 2) := by decide +kernel
theorem d_M_area_22 : decode c_M_area 22 = .ok (.if_icmp .lt 8, 3) := by decide +kernel
theorem d_M_area_25 : decode c_M_area 25 = .ok (.iload_n 2, 1) := by decide +kernel
theorem d_M_area_26 : decode c_M_area 26 = .ok (.ineg, 1) := by decide +kernel
theorem d_M_area_27 : decode c_M_area 27 = .ok (.goto 4, 3) := by decide +kernel
theorem d_M_area_30 : decode c_M_area 30 = .ok (.iload_n 2, 1) := by decide +kernel
theorem d_M_area_31 : decode c_M_area 31 = .ok (.istore_n 3, 1) := by decide +kernel
theorem d_M_area_32 : decode c_M_area 32 = .ok (.iload_n 3, 1) := by decide +kernel
theorem d_M_area_33 : decode c_M_area 33 = .ok (.i2l, 1) := by decide +kernel
theorem d_M_area_34 : decode c_M_area 34 = .ok (.lconst 1, 1) := by decide +kernel
theorem d_M_area_35 : decode c_M_area 35 = .ok (.ldc2_w 87, 3) := by decide +kernel
theorem d_M_area_38 : decode c_M_area 38 = .ok (.invokestatic 59, 3) := by decide +kernel
theorem d_M_area_41 : decode c_M_area 41 = .ok (.ifCond .ne 6, 3) := by decide +kernel
theorem d_M_area_44 : decode c_M_area 44 = .ok (.bipush (-2), 2) := by decide +kernel
theorem d_M_area_46 : decode c_M_area 46 = .ok (.ireturn, 1) := by decide +kernel
theorem d_M_area_47 : decode c_M_area 47 = .ok (.iconst 1, 1) := by decide +kernel
theorem d_M_area_48 : decode c_M_area 48 = .ok (.iload_n 1, 1) := by decide +kernel
theorem d_M_area_49 : decode c_M_area 49 = .ok (.ishl, 1) := by decide +kernel
theorem d_M_area_50 : decode c_M_area 50 = .ok (.istore 4, 2) := by decide +kernel
theorem d_M_area_52 : decode c_M_area 52 = .ok (.aload_n 0, 1) := by decide +kernel
theorem d_M_area_53 : decode c_M_area 53 = .ok (.iconst 0, 1) := by decide +kernel
theorem d_M_area_54 : decode c_M_area 54 = .ok (.putfield 69, 3) := by decide +kernel
theorem d_M_area_57 : decode c_M_area 57 = .ok (.iload_n 2, 1) := by decide +kernel
theorem d_M_area_58 : decode c_M_area 58 = .ok (.ifCond .le 17, 3) := by decide +kernel
theorem d_M_area_61 : decode c_M_area 61 = .ok (.aload_n 0, 1) := by decide +kernel
theorem d_M_area_62 : decode c_M_area 62 = .ok (.getfield 22, 3) := by decide +kernel
theorem d_M_area_65 : decode c_M_area 65 = .ok (.iload_n 3, 1) := by decide +kernel
theorem d_M_area_66 : decode c_M_area 66 = .ok (.dup2, 1) := by decide +kernel
theorem d_M_area_67 : decode c_M_area 67 = .ok (.iaload, 1) := by decide +kernel
theorem d_M_area_68 : decode c_M_area 68 = .ok (.iload 4, 2) := by decide +kernel
theorem d_M_area_70 : decode c_M_area 70 = .ok (.ior, 1) := by decide +kernel
theorem d_M_area_71 : decode c_M_area 71 = .ok (.iastore, 1) := by decide +kernel
theorem d_M_area_72 : decode c_M_area 72 = .ok (.goto 14, 3) := by decide +kernel
theorem d_M_area_75 : decode c_M_area 75 = .ok (.aload_n 0, 1) := by decide +kernel
theorem d_M_area_76 : decode c_M_area 76 = .ok (.getfield 25, 3) := by decide +kernel
theorem d_M_area_79 : decode c_M_area 79 = .ok (.iload_n 3, 1) := by decide +kernel
theorem d_M_area_80 : decode c_M_area 80 = .ok (.dup2, 1) := by decide +kernel
theorem d_M_area_81 : decode c_M_area 81 = .ok (.iaload, 1) := by decide +kernel
theorem d_M_area_82 : decode c_M_area 82 = .ok (.iload 4, 2) := by decide +kernel
theorem d_M_area_84 : decode c_M_area 84 = .ok (.ior, 1) := by decide +kernel
theorem d_M_area_85 : decode c_M_area 85 = .ok (.iastore, 1) := by decide +kernel
theorem d_M_area_86 : decode c_M_area 86 = .ok (.iconst 0, 1) := by decide +kernel
theorem d_M_area_87 : decode c_M_area 87 = .ok (.istore 5, 2) := by decide +kernel
theorem d_M_area_89 : decode c_M_area 89 = .ok (.iconst 1, 1) := by decide +kernel
theorem d_M_area_90 : decode c_M_area 90 = .ok (.istore 6, 2) := by decide +kernel
theorem d_M_area_92 : decode c_M_area 92 = .ok (.iload 6, 2) := by decide +kernel
theorem d_M_area_94 : decode c_M_area 94 = .ok (.bipush 20, 2) := by decide +kernel
theorem d_M_area_96 : decode c_M_area 96 = .ok (.if_icmp .gt 40, 3) := by decide +kernel
theorem d_M_area_99 : decode c_M_area 99 = .ok (.iload 5, 2) := by decide +kernel
theorem d_M_area_101 : decode c_M_area 101 = .ok (.aload_n 0, 1) := by decide +kernel
theorem d_M_area_102 : decode c_M_area 102 = .ok (.getfield 22, 3) := by decide +kernel
theorem d_M_area_105 : decode c_M_area 105 = .ok (.iload 6, 2) := by decide +kernel
theorem d_M_area_107 : decode c_M_area 107 = .ok (.iaload, 1) := by decide +kernel
theorem d_M_area_108 : decode c_M_area 108 = .ok (.aload_n 0, 1) := by decide +kernel
theorem d_M_area_109 : decode c_M_area 109 = .ok (.getfield 25, 3) := by decide +kernel
theorem d_M_area_112 : decode c_M_area 112 = .ok (.iload 6, 2) := by decide +kernel
theorem d_M_area_114 : decode c_M_area 114 = .ok (.iaload, 1) := by decide +kernel
theorem d_M_area_115 : decode c_M_area 115 = .ok (.ior, 1) := by decide +kernel
theorem d_M_area_116 : decode c_M_area 116 = .ok (.iload 4, 2) := by decide +kernel
theorem d_M_area_118 : decode c_M_area 118 = .ok (.iand, 1) := by decide +kernel
theorem d_M_area_119 : decode c_M_area 119 = .ok (.ifCond .eq 7, 3) := by decide +kernel
theorem d_M_area_122 : decode c_M_area 122 = .ok (.iconst 1, 1) := by decide +kernel
theorem d_M_area_123 : decode c_M_area 123 = .ok (.goto 4, 3) := by decide +kernel
theorem d_M_area_126 : decode c_M_area 126 = .ok (.iconst 0, 1) := by decide +kernel
theorem d_M_area_127 : decode c_M_area 127 = .ok (.iadd, 1) := by decide +kernel
theorem d_M_area_128 : decode c_M_area 128 = .ok (.istore 5, 2) := by decide +kernel
theorem d_M_area_130 : decode c_M_area 130 = .ok (.iinc 6 1, 3) := by decide +kernel
theorem d_M_area_133 : decode c_M_area 133 = .ok (.goto (-41), 3) := by decide +kernel
theorem d_M_area_136 : decode c_M_area 136 = .ok (.iload 5, 2) := by decide +kernel
theorem d_M_area_138 : decode c_M_area 138 = .ok (.ireturn, 1) := by decide +kernel
theorem d_M_behind_0 : decode c_M_behind 0 = .ok (.aload_n 0, 1) := by decide +kernel
theorem d_M_behind_1 : decode c_M_behind 1 = .ok (.getfield 19, 3) := by decide +kernel
theorem d_M_behind_4 : decode c_M_behind 4 = .ok (.iload_n 1, 1) := by decide +kernel
theorem d_M_behind_5 : decode c_M_behind 5 = .ok (.iaload, 1) := by decide +kernel
theorem d_M_behind_6 : decode c_M_behind 6 = .ok (.istore_n 2, 1) := by decide +kernel
theorem d_M_behind_7 : decode c_M_behind 7 = .ok (.iconst 0, 1) := by decide +kernel
theorem d_M_behind_8 : decode c_M_behind 8 = .ok (.istore_n 3, 1) := by decide +kernel
theorem d_M_behind_9 : decode c_M_behind 9 = .ok (.iload_n 3, 1) := by decide +kernel
theorem d_M_behind_10 : decode c_M_behind 10 = .ok (.aload_n 0, 1) := by decide +kernel
theorem d_M_behind_11 : decode c_M_behind 11 = .ok (.getfield 56, 3) := by decide +kernel
theorem d_M_behind_14 : decode c_M_behind 14 = .ok (.if_icmp .ge 51, 3) := by decide +kernel
theorem d_M_behind_17 : decode c_M_behind 17 = .ok (.iconst 1, 1) := by decide +kernel
theorem d_M_behind_18 : decode c_M_behind 18 = .ok (.istore 4, 2) := by decide +kernel
theorem d_M_behind_20 : decode c_M_behind 20 = .ok (.iload 4, 2) := by decide +kernel
theorem d_M_behind_22 : decode c_M_behind 22 = .ok (.aload_n 0, 1) := by decide +kernel
theorem d_M_behind_23 : decode c_M_behind 23 = .ok (.getfield 56, 3) := by decide +kernel
theorem d_M_behind_26 : decode c_M_behind 26 = .ok (.if_icmp .gt 33, 3) := by decide +kernel
theorem d_M_behind_29 : decode c_M_behind 29 = .ok (.iload_n 2, 1) := by decide +kernel
theorem d_M_behind_30 : decode c_M_behind 30 = .ok (.iload_n 2, 1) := by decide +kernel
theorem d_M_behind_31 : decode c_M_behind 31 = .ok (.iload 4, 2) := by decide +kernel
theorem d_M_behind_33 : decode c_M_behind 33 = .ok (.ishr, 1) := by decide +kernel
theorem d_M_behind_34 : decode c_M_behind 34 = .ok (.iconst 1, 1) := by decide +kernel
theorem d_M_behind_35 : decode c_M_behind 35 = .ok (.iand, 1) := by decide +kernel
theorem d_M_behind_36 : decode c_M_behind 36 = .ok (.iconst 1, 1) := by decide +kernel
theorem d_M_behind_37 : decode c_M_behind 37 = .ok (.if_icmp .ne 13, 3) := by decide +kernel
theorem d_M_behind_40 : decode c_M_behind 40 = .ok (.aload_n 0, 1) := by decide +kernel
theorem d_M_behind_41 : decode c_M_behind 41 = .ok (.getfield 19, 3) := by decide +kernel
theorem d_M_behind_44 : decode c_M_behind 44 = .ok (.iload 4, 2) := by decide +kernel
theorem d_M_behind_46 : decode c_M_behind 46 = .ok (.iaload, 1) := by decide +kernel
theorem d_M_behind_47 : decode c_M_behind 47 = .ok (.goto 4, 3) := by decide +kernel
theorem d_M_behind_50 : decode c_M_behind 50 = .ok (.iconst 0, 1) := by decide +kernel
theorem d_M_behind_51 : decode c_M_behind 51 = .ok (.ior, 1) := by decide +kernel
theorem d_M_behind_52 : decode c_M_behind 52 = .ok (.istore_n 2, 1) := by decide +kernel
theorem d_M_behind_53 : decode c_M_behind 53 = .ok (.iinc 4 1, 3) := by decide +kernel
theorem d_M_behind_56 : decode c_M_behind 56 = .ok (.goto (-36), 3) := by decide +kernel
theorem d_M_behind_59 : decode c_M_behind 59 = .ok (.iinc 3 1, 3) := by decide +kernel
theorem d_M_behind_62 : decode c_M_behind 62 = .ok (.goto (-53), 3) := by decide +kernel
theorem d_M_behind_65 : decode c_M_behind 65 = .ok (.iload_n 2, 1) := by decide +kernel
theorem d_M_behind_66 : decode c_M_behind 66 = .ok (.ireturn, 1) := by decide +kernel
theorem d_M_addTask_0 : decode c_M_addTask 0 = .ok (.aload_n 0, 1) := by decide +kernel
theorem d_M_addTask_1 : decode c_M_addTask 1 = .ok (.getfield 34, 3) := by decide +kernel
theorem d_M_addTask_4 : decode c_M_addTask 4 = .ok (.iconst 0, 1) := by decide +kernel
theorem d_M_addTask_5 : decode c_M_addTask 5 = .ok (.iaload, 1) := by decide +kernel
theorem d_M_addTask_6 : decode c_M_addTask 6 = .ok (.istore 4, 2) := by decide +kernel
theorem d_M_addTask_8 : decode c_M_addTask 8 = .ok (.iload 4, 2) := by decide +kernel
theorem d_M_addTask_10 : decode c_M_addTask 10 = .ok (.ifCond .ne 7, 3) := by decide +kernel
theorem d_M_addTask_13 : decode c_M_addTask 13 = .ok (.iconst 0, 1) := by decide +kernel
theorem d_M_addTask_14 : decode c_M_addTask 14 = .ok (.goto 10, 3) := by decide +kernel
theorem d_M_addTask_17 : decode c_M_addTask 17 = .ok (.aload_n 0, 1) := by decide +kernel
theorem d_M_addTask_18 : decode c_M_addTask 18 = .ok (.getfield 43, 3) := by decide +kernel
theorem d_M_addTask_21 : decode c_M_addTask 21 = .ok (.iload 4, 2) := by decide +kernel
theorem d_M_addTask_23 : decode c_M_addTask 23 = .ok (.iaload, 1) := by decide +kernel
theorem d_M_addTask_24 : decode c_M_addTask 24 = .ok (.istore 5, 2) := by decide +kernel
theorem d_M_addTask_26 : decode c_M_addTask 26 = .ok (.iload_n 3, 1) := by decide +kernel
theorem d_M_addTask_27 : decode c_M_addTask 27 = .ok (.istore 6, 2) := by decide +kernel
theorem d_M_addTask_29 : decode c_M_addTask 29 = .ok (.iload 6, 2) := by decide +kernel
theorem d_M_addTask_31 : decode c_M_addTask 31 = .ok (.ifCond .eq 71, 3) := by decide +kernel
theorem d_M_addTask_34 : decode c_M_addTask 34 = .ok (.iconst 1, 1) := by decide +kernel
theorem d_M_addTask_35 : decode c_M_addTask 35 = .ok (.istore 7, 2) := by decide +kernel
theorem d_M_addTask_37 : decode c_M_addTask 37 = .ok (.iload 6, 2) := by decide +kernel
theorem d_M_addTask_39 : decode c_M_addTask 39 = .ok (.iload 7, 2) := by decide +kernel
theorem d_M_addTask_41 : decode c_M_addTask 41 = .ok (.ishr, 1) := by decide +kernel
theorem d_M_addTask_42 : decode c_M_addTask 42 = .ok (.iconst 1, 1) := by decide +kernel
theorem d_M_addTask_43 : decode c_M_addTask 43 = .ok (.iand, 1) := by decide +kernel
theorem d_M_addTask_44 : decode c_M_addTask 44 = .ok (.ifCond .eq 15, 3) := by decide +kernel
theorem d_M_addTask_47 : decode c_M_addTask 47 = .ok (.aload_n 0, 1) := by decide +kernel
theorem d_M_addTask_48 : decode c_M_addTask 48 = .ok (.iload 7, 2) := by decide +kernel
theorem d_M_addTask_50 : decode c_M_addTask 50 = .ok (.invokevirtual 89, 3) := by decide +kernel
theorem d_M_addTask_53 : decode c_M_addTask 53 = .ok (.iload 6, 2) := by decide +kernel
theorem d_M_addTask_55 : decode c_M_addTask 55 = .ok (.iand, 1) := by decide +kernel
theorem d_M_addTask_56 : decode c_M_addTask 56 = .ok (.ifCond .eq 9, 3) := by decide +kernel
theorem d_M_addTask_59 : decode c_M_addTask 59 = .ok (.iinc 7 1, 3) := by decide +kernel
theorem d_M_addTask_62 : decode c_M_addTask 62 = .ok (.goto (-25), 3) := by decide +kernel
theorem d_M_addTask_65 : decode c_M_addTask 65 = .ok (.aload_n 0, 1) := by decide +kernel
theorem d_M_addTask_66 : decode c_M_addTask 66 = .ok (.getfield 46, 3) := by decide +kernel
theorem d_M_addTask_69 : decode c_M_addTask 69 = .ok (.iload 5, 2) := by decide +kernel
theorem d_M_addTask_71 : decode c_M_addTask 71 = .ok (.iload 7, 2) := by decide +kernel
theorem d_M_addTask_73 : decode c_M_addTask 73 = .ok (.iastore, 1) := by decide +kernel
theorem d_M_addTask_74 : decode c_M_addTask 74 = .ok (.iinc 5 1, 3) := by decide +kernel
theorem d_M_addTask_77 : decode c_M_addTask 77 = .ok (.iload 6, 2) := by decide +kernel
theorem d_M_addTask_79 : decode c_M_addTask 79 = .ok (.iconst 1, 1) := by decide +kernel
theorem d_M_addTask_80 : decode c_M_addTask 80 = .ok (.iload 7, 2) := by decide +kernel
theorem d_M_addTask_82 : decode c_M_addTask 82 = .ok (.ishl, 1) := by decide +kernel
theorem d_M_addTask_83 : decode c_M_addTask 83 = .ok (.iconst (-1), 1) := by decide +kernel
theorem d_M_addTask_84 : decode c_M_addTask 84 = .ok (.ixor, 1) := by decide +kernel
theorem d_M_addTask_85 : decode c_M_addTask 85 = .ok (.iand, 1) := by decide +kernel
theorem d_M_addTask_86 : decode c_M_addTask 86 = .ok (.istore 6, 2) := by decide +kernel
theorem d_M_addTask_88 : decode c_M_addTask 88 = .ok (.aload_n 0, 1) := by decide +kernel
theorem d_M_addTask_89 : decode c_M_addTask 89 = .ok (.getfield 49, 3) := by decide +kernel
theorem d_M_addTask_92 : decode c_M_addTask 92 = .ok (.iload 7, 2) := by decide +kernel
theorem d_M_addTask_94 : decode c_M_addTask 94 = .ok (.iload 4, 2) := by decide +kernel
theorem d_M_addTask_96 : decode c_M_addTask 96 = .ok (.iconst 1, 1) := by decide +kernel
theorem d_M_addTask_97 : decode c_M_addTask 97 = .ok (.iadd, 1) := by decide +kernel
theorem d_M_addTask_98 : decode c_M_addTask 98 = .ok (.iastore, 1) := by decide +kernel
theorem d_M_addTask_99 : decode c_M_addTask 99 = .ok (.goto (-70), 3) := by decide +kernel
theorem d_M_addTask_102 : decode c_M_addTask 102 = .ok (.aload_n 0, 1) := by decide +kernel
theorem d_M_addTask_103 : decode c_M_addTask 103 = .ok (.getfield 37, 3) := by decide +kernel
theorem d_M_addTask_106 : decode c_M_addTask 106 = .ok (.iload 4, 2) := by decide +kernel
theorem d_M_addTask_108 : decode c_M_addTask 108 = .ok (.iload_n 1, 1) := by decide +kernel
theorem d_M_addTask_109 : decode c_M_addTask 109 = .ok (.iastore, 1) := by decide +kernel
theorem d_M_addTask_110 : decode c_M_addTask 110 = .ok (.aload_n 0, 1) := by decide +kernel
theorem d_M_addTask_111 : decode c_M_addTask 111 = .ok (.getfield 40, 3) := by decide +kernel
theorem d_M_addTask_114 : decode c_M_addTask 114 = .ok (.iload 4, 2) := by decide +kernel
theorem d_M_addTask_116 : decode c_M_addTask 116 = .ok (.iload_n 2, 1) := by decide +kernel
theorem d_M_addTask_117 : decode c_M_addTask 117 = .ok (.iastore, 1) := by decide +kernel
theorem d_M_addTask_118 : decode c_M_addTask 118 = .ok (.aload_n 0, 1) := by decide +kernel
theorem d_M_addTask_119 : decode c_M_addTask 119 = .ok (.getfield 43, 3) := by decide +kernel
theorem d_M_addTask_122 : decode c_M_addTask 122 = .ok (.iload 4, 2) := by decide +kernel
theorem d_M_addTask_124 : decode c_M_addTask 124 = .ok (.iconst 1, 1) := by decide +kernel
theorem d_M_addTask_125 : decode c_M_addTask 125 = .ok (.iadd, 1) := by decide +kernel
theorem d_M_addTask_126 : decode c_M_addTask 126 = .ok (.iload 5, 2) := by decide +kernel
theorem d_M_addTask_128 : decode c_M_addTask 128 = .ok (.iastore, 1) := by decide +kernel
theorem d_M_addTask_129 : decode c_M_addTask 129 = .ok (.aload_n 0, 1) := by decide +kernel
theorem d_M_addTask_130 : decode c_M_addTask 130 = .ok (.getfield 34, 3) := by decide +kernel
theorem d_M_addTask_133 : decode c_M_addTask 133 = .ok (.iconst 0, 1) := by decide +kernel
theorem d_M_addTask_134 : decode c_M_addTask 134 = .ok (.dup2, 1) := by decide +kernel
theorem d_M_addTask_135 : decode c_M_addTask 135 = .ok (.iaload, 1) := by decide +kernel
theorem d_M_addTask_136 : decode c_M_addTask 136 = .ok (.iconst 1, 1) := by decide +kernel
theorem d_M_addTask_137 : decode c_M_addTask 137 = .ok (.iadd, 1) := by decide +kernel
theorem d_M_addTask_138 : decode c_M_addTask 138 = .ok (.iastore, 1) := by decide +kernel
theorem d_M_addTask_139 : decode c_M_addTask 139 = .ok (.return_, 1) := by decide +kernel
theorem d_M_with_0 : decode c_M_with 0 = .ok (.iconst 0, 1) := by decide +kernel
theorem d_M_with_1 : decode c_M_with 1 = .ok (.istore_n 3, 1) := by decide +kernel
theorem d_M_with_2 : decode c_M_with 2 = .ok (.iconst 1, 1) := by decide +kernel
theorem d_M_with_3 : decode c_M_with 3 = .ok (.istore 4, 2) := by decide +kernel
theorem d_M_with_5 : decode c_M_with 5 = .ok (.iload 4, 2) := by decide +kernel
theorem d_M_with_7 : decode c_M_with 7 = .ok (.aload_n 0, 1) := by decide +kernel
theorem d_M_with_8 : decode c_M_with 8 = .ok (.getfield 56, 3) := by decide +kernel
theorem d_M_with_11 : decode c_M_with 11 = .ok (.if_icmp .gt 42, 3) := by decide +kernel
theorem d_M_with_14 : decode c_M_with 14 = .ok (.iload_n 3, 1) := by decide +kernel
theorem d_M_with_15 : decode c_M_with 15 = .ok (.aload_n 0, 1) := by decide +kernel
theorem d_M_with_16 : decode c_M_with 16 = .ok (.getfield 13, 3) := by decide +kernel
theorem d_M_with_19 : decode c_M_with 19 = .ok (.iload 4, 2) := by decide +kernel
theorem d_M_with_21 : decode c_M_with 21 = .ok (.iaload, 1) := by decide +kernel
theorem d_M_with_22 : decode c_M_with 22 = .ok (.iload_n 1, 1) := by decide +kernel
theorem d_M_with_23 : decode c_M_with 23 = .ok (.if_icmp .ne 21, 3) := by decide +kernel
theorem d_M_with_26 : decode c_M_with 26 = .ok (.aload_n 0, 1) := by decide +kernel
theorem d_M_with_27 : decode c_M_with 27 = .ok (.getfield 7, 3) := by decide +kernel
theorem d_M_with_30 : decode c_M_with 30 = .ok (.iload 4, 2) := by decide +kernel
theorem d_M_with_32 : decode c_M_with 32 = .ok (.iaload, 1) := by decide +kernel
theorem d_M_with_33 : decode c_M_with 33 = .ok (.iload_n 2, 1) := by decide +kernel
theorem d_M_with_34 : decode c_M_with 34 = .ok (.if_icmp .ne 10, 3) := by decide +kernel
theorem d_M_with_37 : decode c_M_with 37 = .ok (.iconst 1, 1) := by decide +kernel
theorem d_M_with_38 : decode c_M_with 38 = .ok (.iload 4, 2) := by decide +kernel
theorem d_M_with_40 : decode c_M_with 40 = .ok (.ishl, 1) := by decide +kernel
theorem d_M_with_41 : decode c_M_with 41 = .ok (.goto 4, 3) := by decide +kernel
theorem d_M_with_44 : decode c_M_with 44 = .ok (.iconst 0, 1) := by decide +kernel
theorem d_M_with_45 : decode c_M_with 45 = .ok (.ior, 1) := by decide +kernel
theorem d_M_with_46 : decode c_M_with 46 = .ok (.istore_n 3, 1) := by decide +kernel
theorem d_M_with_47 : decode c_M_with 47 = .ok (.iinc 4 1, 3) := by decide +kernel
theorem d_M_with_50 : decode c_M_with 50 = .ok (.goto (-45), 3) := by decide +kernel
theorem d_M_with_53 : decode c_M_with 53 = .ok (.iload_n 3, 1) := by decide +kernel
theorem d_M_with_54 : decode c_M_with 54 = .ok (.ireturn, 1) := by decide +kernel
theorem d_M_tasksOn_0 : decode c_M_tasksOn 0 = .ok (.iconst 0, 1) := by decide +kernel
theorem d_M_tasksOn_1 : decode c_M_tasksOn 1 = .ok (.istore_n 2, 1) := by decide +kernel
theorem d_M_tasksOn_2 : decode c_M_tasksOn 2 = .ok (.iconst 1, 1) := by decide +kernel
theorem d_M_tasksOn_3 : decode c_M_tasksOn 3 = .ok (.istore_n 3, 1) := by decide +kernel
theorem d_M_tasksOn_4 : decode c_M_tasksOn 4 = .ok (.iload_n 3, 1) := by decide +kernel
theorem d_M_tasksOn_5 : decode c_M_tasksOn 5 = .ok (.aload_n 0, 1) := by decide +kernel
theorem d_M_tasksOn_6 : decode c_M_tasksOn 6 = .ok (.getfield 56, 3) := by decide +kernel
theorem d_M_tasksOn_9 : decode c_M_tasksOn 9 = .ok (.if_icmp .gt 102, 3) := by decide +kernel
theorem d_M_tasksOn_12 : decode c_M_tasksOn 12 = .ok (.aload_n 0, 1) := by decide +kernel
theorem d_M_tasksOn_13 : decode c_M_tasksOn 13 = .ok (.getfield 13, 3) := by decide +kernel
theorem d_M_tasksOn_16 : decode c_M_tasksOn 16 = .ok (.iload_n 3, 1) := by decide +kernel
theorem d_M_tasksOn_17 : decode c_M_tasksOn 17 = .ok (.iaload, 1) := by decide +kernel
theorem d_M_tasksOn_18 : decode c_M_tasksOn 18 = .ok (.iload_n 1, 1) := by decide +kernel
theorem d_M_tasksOn_19 : decode c_M_tasksOn 19 = .ok (.if_icmp .ne 7, 3) := by decide +kernel
theorem d_M_tasksOn_22 : decode c_M_tasksOn 22 = .ok (.iconst 1, 1) := by decide +kernel
theorem d_M_tasksOn_23 : decode c_M_tasksOn 23 = .ok (.goto 4, 3) := by decide +kernel
theorem d_M_tasksOn_26 : decode c_M_tasksOn 26 = .ok (.iconst 0, 1) := by decide +kernel
theorem d_M_tasksOn_27 : decode c_M_tasksOn 27 = .ok (.istore 4, 2) := by decide +kernel
theorem d_M_tasksOn_29 : decode c_M_tasksOn 29 = .ok (.iconst 1, 1) := by decide +kernel
theorem d_M_tasksOn_30 : decode c_M_tasksOn 30 = .ok (.istore 5, 2) := by decide +kernel
theorem d_M_tasksOn_32 : decode c_M_tasksOn 32 = .ok (.iload 5, 2) := by decide +kernel
theorem d_M_tasksOn_34 : decode c_M_tasksOn 34 = .ok (.iload_n 3, 1) := by decide +kernel
theorem d_M_tasksOn_35 : decode c_M_tasksOn 35 = .ok (.if_icmp .ge 57, 3) := by decide +kernel
theorem d_M_tasksOn_38 : decode c_M_tasksOn 38 = .ok (.iload 4, 2) := by decide +kernel
theorem d_M_tasksOn_40 : decode c_M_tasksOn 40 = .ok (.ifCond .eq 43, 3) := by decide +kernel
theorem d_M_tasksOn_43 : decode c_M_tasksOn 43 = .ok (.aload_n 0, 1) := by decide +kernel
theorem d_M_tasksOn_44 : decode c_M_tasksOn 44 = .ok (.getfield 7, 3) := by decide +kernel
theorem d_M_tasksOn_47 : decode c_M_tasksOn 47 = .ok (.iload_n 3, 1) := by decide +kernel
theorem d_M_tasksOn_48 : decode c_M_tasksOn 48 = .ok (.iaload, 1) := by decide +kernel
theorem d_M_tasksOn_49 : decode c_M_tasksOn 49 = .ok (.ifCond .eq 30, 3) := by decide +kernel
theorem d_M_tasksOn_52 : decode c_M_tasksOn 52 = .ok (.aload_n 0, 1) := by decide +kernel
theorem d_M_tasksOn_53 : decode c_M_tasksOn 53 = .ok (.getfield 13, 3) := by decide +kernel
theorem d_M_tasksOn_56 : decode c_M_tasksOn 56 = .ok (.iload 5, 2) := by decide +kernel
theorem d_M_tasksOn_58 : decode c_M_tasksOn 58 = .ok (.iaload, 1) := by decide +kernel
theorem d_M_tasksOn_59 : decode c_M_tasksOn 59 = .ok (.iload_n 1, 1) := by decide +kernel
theorem d_M_tasksOn_60 : decode c_M_tasksOn 60 = .ok (.if_icmp .ne 19, 3) := by decide +kernel
theorem d_M_tasksOn_63 : decode c_M_tasksOn 63 = .ok (.aload_n 0, 1) := by decide +kernel
theorem d_M_tasksOn_64 : decode c_M_tasksOn 64 = .ok (.getfield 7, 3) := by decide +kernel
theorem d_M_tasksOn_67 : decode c_M_tasksOn 67 = .ok (.iload 5, 2) := by decide +kernel
theorem d_M_tasksOn_69 : decode c_M_tasksOn 69 = .ok (.iaload, 1) := by decide +kernel
theorem d_M_tasksOn_70 : decode c_M_tasksOn 70 = .ok (.aload_n 0, 1) := by decide +kernel
theorem d_M_tasksOn_71 : decode c_M_tasksOn 71 = .ok (.getfield 7, 3) := by decide +kernel
theorem d_M_tasksOn_74 : decode c_M_tasksOn 74 = .ok (.iload_n 3, 1) := by decide +kernel
theorem d_M_tasksOn_75 : decode c_M_tasksOn 75 = .ok (.iaload, 1) := by decide +kernel
theorem d_M_tasksOn_76 : decode c_M_tasksOn 76 = .ok (.if_icmp .eq 7, 3) := by decide +kernel
theorem d_M_tasksOn_79 : decode c_M_tasksOn 79 = .ok (.iconst 1, 1) := by decide +kernel
theorem d_M_tasksOn_80 : decode c_M_tasksOn 80 = .ok (.goto 4, 3) := by decide +kernel
theorem d_M_tasksOn_83 : decode c_M_tasksOn 83 = .ok (.iconst 0, 1) := by decide +kernel
theorem d_M_tasksOn_84 : decode c_M_tasksOn 84 = .ok (.istore 4, 2) := by decide +kernel
theorem d_M_tasksOn_86 : decode c_M_tasksOn 86 = .ok (.iinc 5 1, 3) := by decide +kernel
theorem d_M_tasksOn_89 : decode c_M_tasksOn 89 = .ok (.goto (-57), 3) := by decide +kernel
theorem d_M_tasksOn_92 : decode c_M_tasksOn 92 = .ok (.iload_n 2, 1) := by decide +kernel
theorem d_M_tasksOn_93 : decode c_M_tasksOn 93 = .ok (.iload 4, 2) := by decide +kernel
theorem d_M_tasksOn_95 : decode c_M_tasksOn 95 = .ok (.ifCond .eq 7, 3) := by decide +kernel
theorem d_M_tasksOn_98 : decode c_M_tasksOn 98 = .ok (.iconst 1, 1) := by decide +kernel
theorem d_M_tasksOn_99 : decode c_M_tasksOn 99 = .ok (.goto 4, 3) := by decide +kernel
theorem d_M_tasksOn_102 : decode c_M_tasksOn 102 = .ok (.iconst 0, 1) := by decide +kernel
theorem d_M_tasksOn_103 : decode c_M_tasksOn 103 = .ok (.iadd, 1) := by decide +kernel
theorem d_M_tasksOn_104 : decode c_M_tasksOn 104 = .ok (.istore_n 2, 1) := by decide +kernel
theorem d_M_tasksOn_105 : decode c_M_tasksOn 105 = .ok (.iinc 3 1, 3) := by decide +kernel
theorem d_M_tasksOn_108 : decode c_M_tasksOn 108 = .ok (.goto (-104), 3) := by decide +kernel
theorem d_M_tasksOn_111 : decode c_M_tasksOn 111 = .ok (.iload_n 2, 1) := by decide +kernel
theorem d_M_tasksOn_112 : decode c_M_tasksOn 112 = .ok (.ireturn, 1) := by decide +kernel
theorem d_M_makeTasks_0 : decode c_M_makeTasks 0 = .ok (.iconst 1, 1) := by decide +kernel
theorem d_M_makeTasks_1 : decode c_M_makeTasks 1 = .ok (.istore_n 2, 1) := by decide +kernel
theorem d_M_makeTasks_2 : decode c_M_makeTasks 2 = .ok (.iload_n 2, 1) := by decide +kernel
theorem d_M_makeTasks_3 : decode c_M_makeTasks 3 = .ok (.aload_n 0, 1) := by decide +kernel
theorem d_M_makeTasks_4 : decode c_M_makeTasks 4 = .ok (.getfield 56, 3) := by decide +kernel
theorem d_M_makeTasks_7 : decode c_M_makeTasks 7 = .ok (.if_icmp .gt 37, 3) := by decide +kernel
theorem d_M_makeTasks_10 : decode c_M_makeTasks 10 = .ok (.aload_n 0, 1) := by decide +kernel
theorem d_M_makeTasks_11 : decode c_M_makeTasks 11 = .ok (.getfield 13, 3) := by decide +kernel
theorem d_M_makeTasks_14 : decode c_M_makeTasks 14 = .ok (.iload_n 2, 1) := by decide +kernel
theorem d_M_makeTasks_15 : decode c_M_makeTasks 15 = .ok (.iaload, 1) := by decide +kernel
theorem d_M_makeTasks_16 : decode c_M_makeTasks 16 = .ok (.iload_n 1, 1) := by decide +kernel
theorem d_M_makeTasks_17 : decode c_M_makeTasks 17 = .ok (.if_icmp .ne 21, 3) := by decide +kernel
theorem d_M_makeTasks_20 : decode c_M_makeTasks 20 = .ok (.aload_n 0, 1) := by decide +kernel
theorem d_M_makeTasks_21 : decode c_M_makeTasks 21 = .ok (.getfield 7, 3) := by decide +kernel
theorem d_M_makeTasks_24 : decode c_M_makeTasks 24 = .ok (.iload_n 2, 1) := by decide +kernel
theorem d_M_makeTasks_25 : decode c_M_makeTasks 25 = .ok (.iaload, 1) := by decide +kernel
theorem d_M_makeTasks_26 : decode c_M_makeTasks 26 = .ok (.ifCond .ne 12, 3) := by decide +kernel
theorem d_M_makeTasks_29 : decode c_M_makeTasks 29 = .ok (.aload_n 0, 1) := by decide +kernel
theorem d_M_makeTasks_30 : decode c_M_makeTasks 30 = .ok (.iload_n 1, 1) := by decide +kernel
theorem d_M_makeTasks_31 : decode c_M_makeTasks 31 = .ok (.iconst 0, 1) := by decide +kernel
theorem d_M_makeTasks_32 : decode c_M_makeTasks 32 = .ok (.iconst 1, 1) := by decide +kernel
theorem d_M_makeTasks_33 : decode c_M_makeTasks 33 = .ok (.iload_n 2, 1) := by decide +kernel
theorem d_M_makeTasks_34 : decode c_M_makeTasks 34 = .ok (.ishl, 1) := by decide +kernel
theorem d_M_makeTasks_35 : decode c_M_makeTasks 35 = .ok (.invokevirtual 93, 3) := by decide +kernel
theorem d_M_makeTasks_38 : decode c_M_makeTasks 38 = .ok (.iinc 2 1, 3) := by decide +kernel
theorem d_M_makeTasks_41 : decode c_M_makeTasks 41 = .ok (.goto (-39), 3) := by decide +kernel
theorem d_M_makeTasks_44 : decode c_M_makeTasks 44 = .ok (.iconst 1, 1) := by decide +kernel
theorem d_M_makeTasks_45 : decode c_M_makeTasks 45 = .ok (.istore_n 2, 1) := by decide +kernel
theorem d_M_makeTasks_46 : decode c_M_makeTasks 46 = .ok (.iload_n 2, 1) := by decide +kernel
theorem d_M_makeTasks_47 : decode c_M_makeTasks 47 = .ok (.sipush 1000, 3) := by decide +kernel
theorem d_M_makeTasks_50 : decode c_M_makeTasks 50 = .ok (.if_icmp .gt 27, 3) := by decide +kernel
theorem d_M_makeTasks_53 : decode c_M_makeTasks 53 = .ok (.aload_n 0, 1) := by decide +kernel
theorem d_M_makeTasks_54 : decode c_M_makeTasks 54 = .ok (.iload_n 1, 1) := by decide +kernel
theorem d_M_makeTasks_55 : decode c_M_makeTasks 55 = .ok (.iload_n 2, 1) := by decide +kernel
theorem d_M_makeTasks_56 : decode c_M_makeTasks 56 = .ok (.invokevirtual 97, 3) := by decide +kernel
theorem d_M_makeTasks_59 : decode c_M_makeTasks 59 = .ok (.istore_n 3, 1) := by decide +kernel
theorem d_M_makeTasks_60 : decode c_M_makeTasks 60 = .ok (.iload_n 3, 1) := by decide +kernel
theorem d_M_makeTasks_61 : decode c_M_makeTasks 61 = .ok (.ifCond .eq 10, 3) := by decide +kernel
theorem d_M_makeTasks_64 : decode c_M_makeTasks 64 = .ok (.aload_n 0, 1) := by decide +kernel
theorem d_M_makeTasks_65 : decode c_M_makeTasks 65 = .ok (.iload_n 1, 1) := by decide +kernel
theorem d_M_makeTasks_66 : decode c_M_makeTasks 66 = .ok (.iload_n 2, 1) := by decide +kernel
theorem d_M_makeTasks_67 : decode c_M_makeTasks 67 = .ok (.iload_n 3, 1) := by decide +kernel
theorem d_M_makeTasks_68 : decode c_M_makeTasks 68 = .ok (.invokevirtual 93, 3) := by decide +kernel
theorem d_M_makeTasks_71 : decode c_M_makeTasks 71 = .ok (.iinc 2 1, 3) := by decide +kernel
theorem d_M_makeTasks_74 : decode c_M_makeTasks 74 = .ok (.goto (-28), 3) := by decide +kernel
theorem d_M_makeTasks_77 : decode c_M_makeTasks 77 = .ok (.return_, 1) := by decide +kernel
theorem d_M_keep_0 : decode c_M_keep 0 = .ok (.aload_n 0, 1) := by decide +kernel
theorem d_M_keep_1 : decode c_M_keep 1 = .ok (.getfield 34, 3) := by decide +kernel
theorem d_M_keep_4 : decode c_M_keep 4 = .ok (.iload_n 1, 1) := by decide +kernel
theorem d_M_keep_5 : decode c_M_keep 5 = .ok (.aload_n 0, 1) := by decide +kernel
theorem d_M_keep_6 : decode c_M_keep 6 = .ok (.getfield 34, 3) := by decide +kernel
theorem d_M_keep_9 : decode c_M_keep 9 = .ok (.iconst 0, 1) := by decide +kernel
theorem d_M_keep_10 : decode c_M_keep 10 = .ok (.iaload, 1) := by decide +kernel
theorem d_M_keep_11 : decode c_M_keep 11 = .ok (.iastore, 1) := by decide +kernel
theorem d_M_keep_12 : decode c_M_keep 12 = .ok (.iconst 0, 1) := by decide +kernel
theorem d_M_keep_13 : decode c_M_keep 13 = .ok (.istore_n 2, 1) := by decide +kernel
theorem d_M_keep_14 : decode c_M_keep 14 = .ok (.iload_n 2, 1) := by decide +kernel
theorem d_M_keep_15 : decode c_M_keep 15 = .ok (.bipush 24, 2) := by decide +kernel
theorem d_M_keep_17 : decode c_M_keep 17 = .ok (.if_icmp .ge 60, 3) := by decide +kernel
theorem d_M_keep_20 : decode c_M_keep 20 = .ok (.aload_n 0, 1) := by decide +kernel
theorem d_M_keep_21 : decode c_M_keep 21 = .ok (.getfield 37, 3) := by decide +kernel
theorem d_M_keep_24 : decode c_M_keep 24 = .ok (.bipush 24, 2) := by decide +kernel
theorem d_M_keep_26 : decode c_M_keep 26 = .ok (.iload_n 1, 1) := by decide +kernel
theorem d_M_keep_27 : decode c_M_keep 27 = .ok (.imul, 1) := by decide +kernel
theorem d_M_keep_28 : decode c_M_keep 28 = .ok (.iload_n 2, 1) := by decide +kernel
theorem d_M_keep_29 : decode c_M_keep 29 = .ok (.iadd, 1) := by decide +kernel
theorem d_M_keep_30 : decode c_M_keep 30 = .ok (.aload_n 0, 1) := by decide +kernel
theorem d_M_keep_31 : decode c_M_keep 31 = .ok (.getfield 37, 3) := by decide +kernel
