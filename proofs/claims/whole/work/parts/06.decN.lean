theorem d_M_keep_34 : decode c_M_keep 34 = .ok (.iload_n 2, 1) := by decide +kernel
theorem d_M_keep_35 : decode c_M_keep 35 = .ok (.iaload, 1) := by decide +kernel
theorem d_M_keep_36 : decode c_M_keep 36 = .ok (.iastore, 1) := by decide +kernel
theorem d_M_keep_37 : decode c_M_keep 37 = .ok (.aload_n 0, 1) := by decide +kernel
theorem d_M_keep_38 : decode c_M_keep 38 = .ok (.getfield 40, 3) := by decide +kernel
theorem d_M_keep_41 : decode c_M_keep 41 = .ok (.bipush 24, 2) := by decide +kernel
theorem d_M_keep_43 : decode c_M_keep 43 = .ok (.iload_n 1, 1) := by decide +kernel
theorem d_M_keep_44 : decode c_M_keep 44 = .ok (.imul, 1) := by decide +kernel
theorem d_M_keep_45 : decode c_M_keep 45 = .ok (.iload_n 2, 1) := by decide +kernel
theorem d_M_keep_46 : decode c_M_keep 46 = .ok (.iadd, 1) := by decide +kernel
theorem d_M_keep_47 : decode c_M_keep 47 = .ok (.aload_n 0, 1) := by decide +kernel
theorem d_M_keep_48 : decode c_M_keep 48 = .ok (.getfield 40, 3) := by decide +kernel
theorem d_M_keep_51 : decode c_M_keep 51 = .ok (.iload_n 2, 1) := by decide +kernel
theorem d_M_keep_52 : decode c_M_keep 52 = .ok (.iaload, 1) := by decide +kernel
theorem d_M_keep_53 : decode c_M_keep 53 = .ok (.iastore, 1) := by decide +kernel
theorem d_M_keep_54 : decode c_M_keep 54 = .ok (.aload_n 0, 1) := by decide +kernel
theorem d_M_keep_55 : decode c_M_keep 55 = .ok (.getfield 46, 3) := by decide +kernel
theorem d_M_keep_58 : decode c_M_keep 58 = .ok (.bipush 24, 2) := by decide +kernel
theorem d_M_keep_60 : decode c_M_keep 60 = .ok (.iload_n 1, 1) := by decide +kernel
theorem d_M_keep_61 : decode c_M_keep 61 = .ok (.imul, 1) := by decide +kernel
theorem d_M_keep_62 : decode c_M_keep 62 = .ok (.iload_n 2, 1) := by decide +kernel
theorem d_M_keep_63 : decode c_M_keep 63 = .ok (.iadd, 1) := by decide +kernel
theorem d_M_keep_64 : decode c_M_keep 64 = .ok (.aload_n 0, 1) := by decide +kernel
theorem d_M_keep_65 : decode c_M_keep 65 = .ok (.getfield 46, 3) := by decide +kernel
theorem d_M_keep_68 : decode c_M_keep 68 = .ok (.iload_n 2, 1) := by decide +kernel
theorem d_M_keep_69 : decode c_M_keep 69 = .ok (.iaload, 1) := by decide +kernel
theorem d_M_keep_70 : decode c_M_keep 70 = .ok (.iastore, 1) := by decide +kernel
theorem d_M_keep_71 : decode c_M_keep 71 = .ok (.iinc 2 1, 3) := by decide +kernel
theorem d_M_keep_74 : decode c_M_keep 74 = .ok (.goto (-60), 3) := by decide +kernel
theorem d_M_keep_77 : decode c_M_keep 77 = .ok (.iconst 0, 1) := by decide +kernel
theorem d_M_keep_78 : decode c_M_keep 78 = .ok (.istore_n 2, 1) := by decide +kernel
theorem d_M_keep_79 : decode c_M_keep 79 = .ok (.iload_n 2, 1) := by decide +kernel
theorem d_M_keep_80 : decode c_M_keep 80 = .ok (.bipush 25, 2) := by decide +kernel
theorem d_M_keep_82 : decode c_M_keep 82 = .ok (.if_icmp .ge 26, 3) := by decide +kernel
theorem d_M_keep_85 : decode c_M_keep 85 = .ok (.aload_n 0, 1) := by decide +kernel
theorem d_M_keep_86 : decode c_M_keep 86 = .ok (.getfield 43, 3) := by decide +kernel
theorem d_M_keep_89 : decode c_M_keep 89 = .ok (.bipush 25, 2) := by decide +kernel
theorem d_M_keep_91 : decode c_M_keep 91 = .ok (.iload_n 1, 1) := by decide +kernel
theorem d_M_keep_92 : decode c_M_keep 92 = .ok (.imul, 1) := by decide +kernel
theorem d_M_keep_93 : decode c_M_keep 93 = .ok (.iload_n 2, 1) := by decide +kernel
theorem d_M_keep_94 : decode c_M_keep 94 = .ok (.iadd, 1) := by decide +kernel
theorem d_M_keep_95 : decode c_M_keep 95 = .ok (.aload_n 0, 1) := by decide +kernel
theorem d_M_keep_96 : decode c_M_keep 96 = .ok (.getfield 43, 3) := by decide +kernel
theorem d_M_keep_99 : decode c_M_keep 99 = .ok (.iload_n 2, 1) := by decide +kernel
theorem d_M_keep_100 : decode c_M_keep 100 = .ok (.iaload, 1) := by decide +kernel
theorem d_M_keep_101 : decode c_M_keep 101 = .ok (.iastore, 1) := by decide +kernel
theorem d_M_keep_102 : decode c_M_keep 102 = .ok (.iinc 2 1, 3) := by decide +kernel
theorem d_M_keep_105 : decode c_M_keep 105 = .ok (.goto (-26), 3) := by decide +kernel
theorem d_M_keep_108 : decode c_M_keep 108 = .ok (.return_, 1) := by decide +kernel
theorem d_M_build_0 : decode c_M_build 0 = .ok (.aload_n 0, 1) := by decide +kernel
theorem d_M_build_1 : decode c_M_build 1 = .ok (.iconst 0, 1) := by decide +kernel
theorem d_M_build_2 : decode c_M_build 2 = .ok (.putfield 52, 3) := by decide +kernel
theorem d_M_build_5 : decode c_M_build 5 = .ok (.aload_n 0, 1) := by decide +kernel
theorem d_M_build_6 : decode c_M_build 6 = .ok (.iconst 0, 1) := by decide +kernel
theorem d_M_build_7 : decode c_M_build 7 = .ok (.putfield 69, 3) := by decide +kernel
theorem d_M_build_10 : decode c_M_build 10 = .ok (.iconst 1, 1) := by decide +kernel
theorem d_M_build_11 : decode c_M_build 11 = .ok (.istore_n 1, 1) := by decide +kernel
theorem d_M_build_12 : decode c_M_build 12 = .ok (.iload_n 1, 1) := by decide +kernel
theorem d_M_build_13 : decode c_M_build 13 = .ok (.iconst 4, 1) := by decide +kernel
theorem d_M_build_14 : decode c_M_build 14 = .ok (.if_icmp .gt 22, 3) := by decide +kernel
theorem d_M_build_17 : decode c_M_build 17 = .ok (.aload_n 0, 1) := by decide +kernel
theorem d_M_build_18 : decode c_M_build 18 = .ok (.iload_n 1, 1) := by decide +kernel
theorem d_M_build_19 : decode c_M_build 19 = .ok (.invokevirtual 101, 3) := by decide +kernel
theorem d_M_build_22 : decode c_M_build 22 = .ok (.bipush 12, 2) := by decide +kernel
theorem d_M_build_24 : decode c_M_build 24 = .ok (.if_icmp .le 6, 3) := by decide +kernel
theorem d_M_build_27 : decode c_M_build 27 = .ok (.bipush (-4), 2) := by decide +kernel
theorem d_M_build_29 : decode c_M_build 29 = .ok (.ireturn, 1) := by decide +kernel
theorem d_M_build_30 : decode c_M_build 30 = .ok (.iinc 1 1, 3) := by decide +kernel
theorem d_M_build_33 : decode c_M_build 33 = .ok (.goto (-21), 3) := by decide +kernel
theorem d_M_build_36 : decode c_M_build 36 = .ok (.aload_n 0, 1) := by decide +kernel
theorem d_M_build_37 : decode c_M_build 37 = .ok (.getfield 34, 3) := by decide +kernel
theorem d_M_build_40 : decode c_M_build 40 = .ok (.iconst 0, 1) := by decide +kernel
theorem d_M_build_41 : decode c_M_build 41 = .ok (.iconst 0, 1) := by decide +kernel
theorem d_M_build_42 : decode c_M_build 42 = .ok (.iastore, 1) := by decide +kernel
theorem d_M_build_43 : decode c_M_build 43 = .ok (.iconst 1, 1) := by decide +kernel
theorem d_M_build_44 : decode c_M_build 44 = .ok (.istore_n 1, 1) := by decide +kernel
theorem d_M_build_45 : decode c_M_build 45 = .ok (.iload_n 1, 1) := by decide +kernel
theorem d_M_build_46 : decode c_M_build 46 = .ok (.iconst 4, 1) := by decide +kernel
theorem d_M_build_47 : decode c_M_build 47 = .ok (.if_icmp .gt 14, 3) := by decide +kernel
theorem d_M_build_50 : decode c_M_build 50 = .ok (.aload_n 0, 1) := by decide +kernel
theorem d_M_build_51 : decode c_M_build 51 = .ok (.iload_n 1, 1) := by decide +kernel
theorem d_M_build_52 : decode c_M_build 52 = .ok (.invokevirtual 104, 3) := by decide +kernel
theorem d_M_build_55 : decode c_M_build 55 = .ok (.iinc 1 1, 3) := by decide +kernel
theorem d_M_build_58 : decode c_M_build 58 = .ok (.goto (-13), 3) := by decide +kernel
theorem d_M_build_61 : decode c_M_build 61 = .ok (.aload_n 0, 1) := by decide +kernel
theorem d_M_build_62 : decode c_M_build 62 = .ok (.iconst 1, 1) := by decide +kernel
theorem d_M_build_63 : decode c_M_build 63 = .ok (.putfield 69, 3) := by decide +kernel
theorem d_M_build_66 : decode c_M_build 66 = .ok (.aload_n 0, 1) := by decide +kernel
theorem d_M_build_67 : decode c_M_build 67 = .ok (.dup, 1) := by decide +kernel
theorem d_M_build_68 : decode c_M_build 68 = .ok (.getfield 107, 3) := by decide +kernel
theorem d_M_build_71 : decode c_M_build 71 = .ok (.iconst 1, 1) := by decide +kernel
theorem d_M_build_72 : decode c_M_build 72 = .ok (.iadd, 1) := by decide +kernel
theorem d_M_build_73 : decode c_M_build 73 = .ok (.putfield 107, 3) := by decide +kernel
theorem d_M_build_76 : decode c_M_build 76 = .ok (.aload_n 0, 1) := by decide +kernel
theorem d_M_build_77 : decode c_M_build 77 = .ok (.getfield 107, 3) := by decide +kernel
theorem d_M_build_80 : decode c_M_build 80 = .ok (.bipush 40, 2) := by decide +kernel
theorem d_M_build_82 : decode c_M_build 82 = .ok (.if_icmp .gt 11, 3) := by decide +kernel
theorem d_M_build_85 : decode c_M_build 85 = .ok (.aload_n 0, 1) := by decide +kernel
theorem d_M_build_86 : decode c_M_build 86 = .ok (.aload_n 0, 1) := by decide +kernel
theorem d_M_build_87 : decode c_M_build 87 = .ok (.getfield 107, 3) := by decide +kernel
theorem d_M_build_90 : decode c_M_build 90 = .ok (.invokevirtual 110, 3) := by decide +kernel
theorem d_M_build_93 : decode c_M_build 93 = .ok (.aload_n 0, 1) := by decide +kernel
theorem d_M_build_94 : decode c_M_build 94 = .ok (.getfield 34, 3) := by decide +kernel
theorem d_M_build_97 : decode c_M_build 97 = .ok (.iconst 0, 1) := by decide +kernel
theorem d_M_build_98 : decode c_M_build 98 = .ok (.iaload, 1) := by decide +kernel
theorem d_M_build_99 : decode c_M_build 99 = .ok (.ireturn, 1) := by decide +kernel
theorem d_M_from_0 : decode c_M_from 0 = .ok (.iload_n 2, 1) := by decide +kernel
theorem d_M_from_1 : decode c_M_from 1 = .ok (.ifCond .ne 7, 3) := by decide +kernel
theorem d_M_from_4 : decode c_M_from 4 = .ok (.iconst 0, 1) := by decide +kernel
theorem d_M_from_5 : decode c_M_from 5 = .ok (.goto 14, 3) := by decide +kernel
theorem d_M_from_8 : decode c_M_from 8 = .ok (.aload_n 0, 1) := by decide +kernel
theorem d_M_from_9 : decode c_M_from 9 = .ok (.getfield 43, 3) := by decide +kernel
theorem d_M_from_12 : decode c_M_from 12 = .ok (.bipush 25, 2) := by decide +kernel
theorem d_M_from_14 : decode c_M_from 14 = .ok (.iload_n 1, 1) := by decide +kernel
theorem d_M_from_15 : decode c_M_from 15 = .ok (.imul, 1) := by decide +kernel
theorem d_M_from_16 : decode c_M_from 16 = .ok (.iload_n 2, 1) := by decide +kernel
theorem d_M_from_17 : decode c_M_from 17 = .ok (.iadd, 1) := by decide +kernel
theorem d_M_from_18 : decode c_M_from 18 = .ok (.iaload, 1) := by decide +kernel
theorem d_M_from_19 : decode c_M_from 19 = .ok (.ireturn, 1) := by decide +kernel
theorem d_M_isTask_0 : decode c_M_isTask 0 = .ok (.iload_n 1, 1) := by decide +kernel
theorem d_M_isTask_1 : decode c_M_isTask 1 = .ok (.i2l, 1) := by decide +kernel
theorem d_M_isTask_2 : decode c_M_isTask 2 = .ok (.lconst 1, 1) := by decide +kernel
theorem d_M_isTask_3 : decode c_M_isTask 3 = .ok (.aload_n 0, 1) := by decide +kernel
theorem d_M_isTask_4 : decode c_M_isTask 4 = .ok (.getfield 34, 3) := by decide +kernel
theorem d_M_isTask_7 : decode c_M_isTask 7 = .ok (.iconst 0, 1) := by decide +kernel
theorem d_M_isTask_8 : decode c_M_isTask 8 = .ok (.iaload, 1) := by decide +kernel
theorem d_M_isTask_9 : decode c_M_isTask 9 = .ok (.i2l, 1) := by decide +kernel
theorem d_M_isTask_10 : decode c_M_isTask 10 = .ok (.invokestatic 59, 3) := by decide +kernel
theorem d_M_isTask_13 : decode c_M_isTask 13 = .ok (.ireturn, 1) := by decide +kernel
theorem d_M_task_0 : decode c_M_task 0 = .ok (.aload_n 0, 1) := by decide +kernel
theorem d_M_task_1 : decode c_M_task 1 = .ok (.iconst 0, 1) := by decide +kernel
theorem d_M_task_2 : decode c_M_task 2 = .ok (.putfield 52, 3) := by decide +kernel
theorem d_M_task_5 : decode c_M_task 5 = .ok (.aload_n 0, 1) := by decide +kernel
theorem d_M_task_6 : decode c_M_task 6 = .ok (.iload_n 1, 1) := by decide +kernel
theorem d_M_task_7 : decode c_M_task 7 = .ok (.invokevirtual 76, 3) := by decide +kernel
theorem d_M_task_10 : decode c_M_task 10 = .ok (.ifCond .ne 7, 3) := by decide +kernel
theorem d_M_task_13 : decode c_M_task 13 = .ok (.iconst (-1), 1) := by decide +kernel
theorem d_M_task_14 : decode c_M_task 14 = .ok (.goto 21, 3) := by decide +kernel
theorem d_M_task_17 : decode c_M_task 17 = .ok (.aload_n 0, 1) := by decide +kernel
theorem d_M_task_18 : decode c_M_task 18 = .ok (.getfield 69, 3) := by decide +kernel
theorem d_M_task_21 : decode c_M_task 21 = .ok (.ifCond .ne 8, 3) := by decide +kernel
theorem d_M_task_24 : decode c_M_task 24 = .ok (.bipush (-3), 2) := by decide +kernel
theorem d_M_task_26 : decode c_M_task 26 = .ok (.goto 9, 3) := by decide +kernel
theorem d_M_task_29 : decode c_M_task 29 = .ok (.aload_n 0, 1) := by decide +kernel
theorem d_M_task_30 : decode c_M_task 30 = .ok (.getfield 49, 3) := by decide +kernel
theorem d_M_task_33 : decode c_M_task 33 = .ok (.iload_n 1, 1) := by decide +kernel
theorem d_M_task_34 : decode c_M_task 34 = .ok (.iaload, 1) := by decide +kernel
theorem d_M_task_35 : decode c_M_task 35 = .ok (.ireturn, 1) := by decide +kernel
theorem d_M_order_0 : decode c_M_order 0 = .ok (.aload_n 0, 1) := by decide +kernel
theorem d_M_order_1 : decode c_M_order 1 = .ok (.iconst 0, 1) := by decide +kernel
theorem d_M_order_2 : decode c_M_order 2 = .ok (.putfield 52, 3) := by decide +kernel
theorem d_M_order_5 : decode c_M_order 5 = .ok (.aload_n 0, 1) := by decide +kernel
theorem d_M_order_6 : decode c_M_order 6 = .ok (.getfield 69, 3) := by decide +kernel
theorem d_M_order_9 : decode c_M_order 9 = .ok (.ifCond .ne 6, 3) := by decide +kernel
theorem d_M_order_12 : decode c_M_order 12 = .ok (.bipush (-3), 2) := by decide +kernel
theorem d_M_order_14 : decode c_M_order 14 = .ok (.ireturn, 1) := by decide +kernel
theorem d_M_order_15 : decode c_M_order 15 = .ok (.aload_n 0, 1) := by decide +kernel
theorem d_M_order_16 : decode c_M_order 16 = .ok (.iload_n 1, 1) := by decide +kernel
theorem d_M_order_17 : decode c_M_order 17 = .ok (.invokevirtual 113, 3) := by decide +kernel
theorem d_M_order_20 : decode c_M_order 20 = .ok (.ifCond .ne 5, 3) := by decide +kernel
theorem d_M_order_23 : decode c_M_order 23 = .ok (.iconst (-1), 1) := by decide +kernel
theorem d_M_order_24 : decode c_M_order 24 = .ok (.ireturn, 1) := by decide +kernel
theorem d_M_order_25 : decode c_M_order 25 = .ok (.aload_n 0, 1) := by decide +kernel
theorem d_M_order_26 : decode c_M_order 26 = .ok (.getfield 43, 3) := by decide +kernel
theorem d_M_order_29 : decode c_M_order 29 = .ok (.iload_n 1, 1) := by decide +kernel
theorem d_M_order_30 : decode c_M_order 30 = .ok (.iaload, 1) := by decide +kernel
theorem d_M_order_31 : decode c_M_order 31 = .ok (.aload_n 0, 1) := by decide +kernel
theorem d_M_order_32 : decode c_M_order 32 = .ok (.iconst 0, 1) := by decide +kernel
theorem d_M_order_33 : decode c_M_order 33 = .ok (.iload_n 1, 1) := by decide +kernel
theorem d_M_order_34 : decode c_M_order 34 = .ok (.iconst 1, 1) := by decide +kernel
theorem d_M_order_35 : decode c_M_order 35 = .ok (.isub, 1) := by decide +kernel
theorem d_M_order_36 : decode c_M_order 36 = .ok (.invokevirtual 116, 3) := by decide +kernel
theorem d_M_order_39 : decode c_M_order 39 = .ok (.isub, 1) := by decide +kernel
theorem d_M_order_40 : decode c_M_order 40 = .ok (.istore_n 3, 1) := by decide +kernel
theorem d_M_order_41 : decode c_M_order 41 = .ok (.iload_n 2, 1) := by decide +kernel
theorem d_M_order_42 : decode c_M_order 42 = .ok (.ifCond .lt 26, 3) := by decide +kernel
theorem d_M_order_45 : decode c_M_order 45 = .ok (.iload_n 2, 1) := by decide +kernel
theorem d_M_order_46 : decode c_M_order 46 = .ok (.iload_n 3, 1) := by decide +kernel
theorem d_M_order_47 : decode c_M_order 47 = .ok (.if_icmp .ge 21, 3) := by decide +kernel
theorem d_M_order_50 : decode c_M_order 50 = .ok (.aload_n 0, 1) := by decide +kernel
theorem d_M_order_51 : decode c_M_order 51 = .ok (.getfield 46, 3) := by decide +kernel
theorem d_M_order_54 : decode c_M_order 54 = .ok (.aload_n 0, 1) := by decide +kernel
theorem d_M_order_55 : decode c_M_order 55 = .ok (.iconst 0, 1) := by decide +kernel
theorem d_M_order_56 : decode c_M_order 56 = .ok (.iload_n 1, 1) := by decide +kernel
theorem d_M_order_57 : decode c_M_order 57 = .ok (.iconst 1, 1) := by decide +kernel
theorem d_M_order_58 : decode c_M_order 58 = .ok (.isub, 1) := by decide +kernel
theorem d_M_order_59 : decode c_M_order 59 = .ok (.invokevirtual 116, 3) := by decide +kernel
theorem d_M_order_62 : decode c_M_order 62 = .ok (.iload_n 2, 1) := by decide +kernel
theorem d_M_order_63 : decode c_M_order 63 = .ok (.iadd, 1) := by decide +kernel
theorem d_M_order_64 : decode c_M_order 64 = .ok (.iaload, 1) := by decide +kernel
theorem d_M_order_65 : decode c_M_order 65 = .ok (.goto 4, 3) := by decide +kernel
theorem d_M_order_68 : decode c_M_order 68 = .ok (.iconst 0, 1) := by decide +kernel
theorem d_M_order_69 : decode c_M_order 69 = .ok (.ireturn, 1) := by decide +kernel
theorem d_M_rankOf_0 : decode c_M_rankOf 0 = .ok (.iconst 0, 1) := by decide +kernel
theorem d_M_rankOf_1 : decode c_M_rankOf 1 = .ok (.istore_n 2, 1) := by decide +kernel
theorem d_M_rankOf_2 : decode c_M_rankOf 2 = .ok (.iload_n 1, 1) := by decide +kernel
theorem d_M_rankOf_3 : decode c_M_rankOf 3 = .ok (.istore_n 3, 1) := by decide +kernel
theorem d_M_rankOf_4 : decode c_M_rankOf 4 = .ok (.iload_n 3, 1) := by decide +kernel
theorem d_M_rankOf_5 : decode c_M_rankOf 5 = .ok (.aload_n 0, 1) := by decide +kernel
theorem d_M_rankOf_6 : decode c_M_rankOf 6 = .ok (.getfield 34, 3) := by decide +kernel
theorem d_M_rankOf_9 : decode c_M_rankOf 9 = .ok (.iconst 0, 1) := by decide +kernel
theorem d_M_rankOf_10 : decode c_M_rankOf 10 = .ok (.iaload, 1) := by decide +kernel
theorem d_M_rankOf_11 : decode c_M_rankOf 11 = .ok (.if_icmp .gt 36, 3) := by decide +kernel
theorem d_M_rankOf_14 : decode c_M_rankOf 14 = .ok (.iload_n 2, 1) := by decide +kernel
theorem d_M_rankOf_15 : decode c_M_rankOf 15 = .ok (.aload_n 0, 1) := by decide +kernel
theorem d_M_rankOf_16 : decode c_M_rankOf 16 = .ok (.getfield 37, 3) := by decide +kernel
theorem d_M_rankOf_19 : decode c_M_rankOf 19 = .ok (.iload_n 3, 1) := by decide +kernel
theorem d_M_rankOf_20 : decode c_M_rankOf 20 = .ok (.iconst 1, 1) := by decide +kernel
theorem d_M_rankOf_21 : decode c_M_rankOf 21 = .ok (.isub, 1) := by decide +kernel
theorem d_M_rankOf_22 : decode c_M_rankOf 22 = .ok (.iaload, 1) := by decide +kernel
theorem d_M_rankOf_23 : decode c_M_rankOf 23 = .ok (.aload_n 0, 1) := by decide +kernel
theorem d_M_rankOf_24 : decode c_M_rankOf 24 = .ok (.getfield 37, 3) := by decide +kernel
theorem d_M_rankOf_27 : decode c_M_rankOf 27 = .ok (.iload_n 1, 1) := by decide +kernel
theorem d_M_rankOf_28 : decode c_M_rankOf 28 = .ok (.iconst 1, 1) := by decide +kernel
theorem d_M_rankOf_29 : decode c_M_rankOf 29 = .ok (.isub, 1) := by decide +kernel
theorem d_M_rankOf_30 : decode c_M_rankOf 30 = .ok (.iaload, 1) := by decide +kernel
theorem d_M_rankOf_31 : decode c_M_rankOf 31 = .ok (.if_icmp .ne 7, 3) := by decide +kernel
theorem d_M_rankOf_34 : decode c_M_rankOf 34 = .ok (.iconst 1, 1) := by decide +kernel
theorem d_M_rankOf_35 : decode c_M_rankOf 35 = .ok (.goto 4, 3) := by decide +kernel
theorem d_M_rankOf_38 : decode c_M_rankOf 38 = .ok (.iconst 0, 1) := by decide +kernel
theorem d_M_rankOf_39 : decode c_M_rankOf 39 = .ok (.iadd, 1) := by decide +kernel
theorem d_M_rankOf_40 : decode c_M_rankOf 40 = .ok (.istore_n 2, 1) := by decide +kernel
theorem d_M_rankOf_41 : decode c_M_rankOf 41 = .ok (.iinc 3 1, 3) := by decide +kernel
theorem d_M_rankOf_44 : decode c_M_rankOf 44 = .ok (.goto (-40), 3) := by decide +kernel
theorem d_M_rankOf_47 : decode c_M_rankOf 47 = .ok (.iload_n 2, 1) := by decide +kernel
theorem d_M_rankOf_48 : decode c_M_rankOf 48 = .ok (.ireturn, 1) := by decide +kernel
theorem d_M_rank_0 : decode c_M_rank 0 = .ok (.aload_n 0, 1) := by decide +kernel
theorem d_M_rank_1 : decode c_M_rank 1 = .ok (.iconst 0, 1) := by decide +kernel
theorem d_M_rank_2 : decode c_M_rank 2 = .ok (.putfield 52, 3) := by decide +kernel
theorem d_M_rank_5 : decode c_M_rank 5 = .ok (.aload_n 0, 1) := by decide +kernel
theorem d_M_rank_6 : decode c_M_rank 6 = .ok (.getfield 69, 3) := by decide +kernel
theorem d_M_rank_9 : decode c_M_rank 9 = .ok (.ifCond .ne 8, 3) := by decide +kernel
theorem d_M_rank_12 : decode c_M_rank 12 = .ok (.bipush (-3), 2) := by decide +kernel
theorem d_M_rank_14 : decode c_M_rank 14 = .ok (.goto 20, 3) := by decide +kernel
theorem d_M_rank_17 : decode c_M_rank 17 = .ok (.aload_n 0, 1) := by decide +kernel
theorem d_M_rank_18 : decode c_M_rank 18 = .ok (.iload_n 1, 1) := by decide +kernel
theorem d_M_rank_19 : decode c_M_rank 19 = .ok (.invokevirtual 113, 3) := by decide +kernel
theorem d_M_rank_22 : decode c_M_rank 22 = .ok (.ifCond .ne 7, 3) := by decide +kernel
theorem d_M_rank_25 : decode c_M_rank 25 = .ok (.iconst (-1), 1) := by decide +kernel
theorem d_M_rank_26 : decode c_M_rank 26 = .ok (.goto 8, 3) := by decide +kernel
theorem d_M_rank_29 : decode c_M_rank 29 = .ok (.aload_n 0, 1) := by decide +kernel
theorem d_M_rank_30 : decode c_M_rank 30 = .ok (.iload_n 1, 1) := by decide +kernel
theorem d_M_rank_31 : decode c_M_rank 31 = .ok (.invokevirtual 119, 3) := by decide +kernel
theorem d_M_rank_34 : decode c_M_rank 34 = .ok (.ireturn, 1) := by decide +kernel
theorem d_M_isCopied_0 : decode c_M_isCopied 0 = .ok (.iconst 0, 1) := by decide +kernel
theorem d_M_isCopied_1 : decode c_M_isCopied 1 = .ok (.istore_n 2, 1) := by decide +kernel
theorem d_M_isCopied_2 : decode c_M_isCopied 2 = .ok (.iconst 1, 1) := by decide +kernel
theorem d_M_isCopied_3 : decode c_M_isCopied 3 = .ok (.istore_n 3, 1) := by decide +kernel
theorem d_M_isCopied_4 : decode c_M_isCopied 4 = .ok (.iload_n 3, 1) := by decide +kernel
theorem d_M_isCopied_5 : decode c_M_isCopied 5 = .ok (.aload_n 0, 1) := by decide +kernel
theorem d_M_isCopied_6 : decode c_M_isCopied 6 = .ok (.getfield 56, 3) := by decide +kernel
theorem d_M_isCopied_9 : decode c_M_isCopied 9 = .ok (.if_icmp .gt 118, 3) := by decide +kernel
theorem d_M_isCopied_12 : decode c_M_isCopied 12 = .ok (.iconst 1, 1) := by decide +kernel
theorem d_M_isCopied_13 : decode c_M_isCopied 13 = .ok (.istore 4, 2) := by decide +kernel
theorem d_M_isCopied_15 : decode c_M_isCopied 15 = .ok (.iload 4, 2) := by decide +kernel
theorem d_M_isCopied_17 : decode c_M_isCopied 17 = .ok (.aload_n 0, 1) := by decide +kernel
theorem d_M_isCopied_18 : decode c_M_isCopied 18 = .ok (.getfield 56, 3) := by decide +kernel
theorem d_M_isCopied_21 : decode c_M_isCopied 21 = .ok (.if_icmp .gt 100, 3) := by decide +kernel
theorem d_M_isCopied_24 : decode c_M_isCopied 24 = .ok (.aload_n 0, 1) := by decide +kernel
theorem d_M_isCopied_25 : decode c_M_isCopied 25 = .ok (.getfield 22, 3) := by decide +kernel
theorem d_M_isCopied_28 : decode c_M_isCopied 28 = .ok (.iload_n 1, 1) := by decide +kernel
theorem d_M_isCopied_29 : decode c_M_isCopied 29 = .ok (.iaload, 1) := by decide +kernel
theorem d_M_isCopied_30 : decode c_M_isCopied 30 = .ok (.iload_n 3, 1) := by decide +kernel
theorem d_M_isCopied_31 : decode c_M_isCopied 31 = .ok (.ishr, 1) := by decide +kernel
theorem d_M_isCopied_32 : decode c_M_isCopied 32 = .ok (.iconst 1, 1) := by decide +kernel
theorem d_M_isCopied_33 : decode c_M_isCopied 33 = .ok (.iand, 1) := by decide +kernel
theorem d_M_isCopied_34 : decode c_M_isCopied 34 = .ok (.iconst 1, 1) := by decide +kernel
theorem d_M_isCopied_35 : decode c_M_isCopied 35 = .ok (.if_icmp .ne 38, 3) := by decide +kernel
theorem d_M_isCopied_38 : decode c_M_isCopied 38 = .ok (.aload_n 0, 1) := by decide +kernel
theorem d_M_isCopied_39 : decode c_M_isCopied 39 = .ok (.getfield 25, 3) := by decide +kernel
theorem d_M_isCopied_42 : decode c_M_isCopied 42 = .ok (.iload_n 1, 1) := by decide +kernel
theorem d_M_isCopied_43 : decode c_M_isCopied 43 = .ok (.iaload, 1) := by decide +kernel
theorem d_M_isCopied_44 : decode c_M_isCopied 44 = .ok (.iload 4, 2) := by decide +kernel
theorem d_M_isCopied_46 : decode c_M_isCopied 46 = .ok (.ishr, 1) := by decide +kernel
theorem d_M_isCopied_47 : decode c_M_isCopied 47 = .ok (.iconst 1, 1) := by decide +kernel
theorem d_M_isCopied_48 : decode c_M_isCopied 48 = .ok (.iand, 1) := by decide +kernel
theorem d_M_isCopied_49 : decode c_M_isCopied 49 = .ok (.iconst 1, 1) := by decide +kernel
theorem d_M_isCopied_50 : decode c_M_isCopied 50 = .ok (.if_icmp .ne 23, 3) := by decide +kernel
theorem d_M_isCopied_53 : decode c_M_isCopied 53 = .ok (.aload_n 0, 1) := by decide +kernel
theorem d_M_isCopied_54 : decode c_M_isCopied 54 = .ok (.getfield 13, 3) := by decide +kernel
theorem d_M_isCopied_57 : decode c_M_isCopied 57 = .ok (.iload_n 3, 1) := by decide +kernel
theorem d_M_isCopied_58 : decode c_M_isCopied 58 = .ok (.iaload, 1) := by decide +kernel
theorem d_M_isCopied_59 : decode c_M_isCopied 59 = .ok (.aload_n 0, 1) := by decide +kernel
theorem d_M_isCopied_60 : decode c_M_isCopied 60 = .ok (.getfield 13, 3) := by decide +kernel
theorem d_M_isCopied_63 : decode c_M_isCopied 63 = .ok (.iload 4, 2) := by decide +kernel
theorem d_M_isCopied_65 : decode c_M_isCopied 65 = .ok (.iaload, 1) := by decide +kernel
theorem d_M_isCopied_66 : decode c_M_isCopied 66 = .ok (.if_icmp .ne 7, 3) := by decide +kernel
theorem d_M_isCopied_69 : decode c_M_isCopied 69 = .ok (.iconst 1, 1) := by decide +kernel
theorem d_M_isCopied_70 : decode c_M_isCopied 70 = .ok (.goto 4, 3) := by decide +kernel
theorem d_M_isCopied_73 : decode c_M_isCopied 73 = .ok (.iconst 0, 1) := by decide +kernel
theorem d_M_isCopied_74 : decode c_M_isCopied 74 = .ok (.istore 5, 2) := by decide +kernel
theorem d_M_isCopied_76 : decode c_M_isCopied 76 = .ok (.iload_n 2, 1) := by decide +kernel
theorem d_M_isCopied_77 : decode c_M_isCopied 77 = .ok (.ifCond .ne 32, 3) := by decide +kernel
theorem d_M_isCopied_80 : decode c_M_isCopied 80 = .ok (.iload 5, 2) := by decide +kernel
theorem d_M_isCopied_82 : decode c_M_isCopied 82 = .ok (.ifCond .eq 31, 3) := by decide +kernel
theorem d_M_isCopied_85 : decode c_M_isCopied 85 = .ok (.aload_n 0, 1) := by decide +kernel
theorem d_M_isCopied_86 : decode c_M_isCopied 86 = .ok (.aload_n 0, 1) := by decide +kernel
theorem d_M_isCopied_87 : decode c_M_isCopied 87 = .ok (.getfield 49, 3) := by decide +kernel
theorem d_M_isCopied_90 : decode c_M_isCopied 90 = .ok (.iload 4, 2) := by decide +kernel
theorem d_M_isCopied_92 : decode c_M_isCopied 92 = .ok (.iaload, 1) := by decide +kernel
theorem d_M_isCopied_93 : decode c_M_isCopied 93 = .ok (.invokevirtual 119, 3) := by decide +kernel
theorem d_M_isCopied_96 : decode c_M_isCopied 96 = .ok (.aload_n 0, 1) := by decide +kernel
theorem d_M_isCopied_97 : decode c_M_isCopied 97 = .ok (.aload_n 0, 1) := by decide +kernel
theorem d_M_isCopied_98 : decode c_M_isCopied 98 = .ok (.getfield 49, 3) := by decide +kernel
theorem d_M_isCopied_101 : decode c_M_isCopied 101 = .ok (.iload_n 3, 1) := by decide +kernel
theorem d_M_isCopied_102 : decode c_M_isCopied 102 = .ok (.iaload, 1) := by decide +kernel
theorem d_M_isCopied_103 : decode c_M_isCopied 103 = .ok (.invokevirtual 119, 3) := by decide +kernel
theorem d_M_isCopied_106 : decode c_M_isCopied 106 = .ok (.if_icmp .le 7, 3) := by decide +kernel
theorem d_M_isCopied_109 : decode c_M_isCopied 109 = .ok (.iconst 1, 1) := by decide +kernel
theorem d_M_isCopied_110 : decode c_M_isCopied 110 = .ok (.goto 4, 3) := by decide +kernel
theorem d_M_isCopied_113 : decode c_M_isCopied 113 = .ok (.iconst 0, 1) := by decide +kernel
theorem d_M_isCopied_114 : decode c_M_isCopied 114 = .ok (.istore_n 2, 1) := by decide +kernel
theorem d_M_isCopied_115 : decode c_M_isCopied 115 = .ok (.iinc 4 1, 3) := by decide +kernel
theorem d_M_isCopied_118 : decode c_M_isCopied 118 = .ok (.goto (-103), 3) := by decide +kernel
theorem d_M_isCopied_121 : decode c_M_isCopied 121 = .ok (.iinc 3 1, 3) := by decide +kernel
theorem d_M_isCopied_124 : decode c_M_isCopied 124 = .ok (.goto (-120), 3) := by decide +kernel
theorem d_M_isCopied_127 : decode c_M_isCopied 127 = .ok (.iload_n 2, 1) := by decide +kernel
theorem d_M_isCopied_128 : decode c_M_isCopied 128 = .ok (.ireturn, 1) := by decide +kernel
theorem d_M_buffer_0 : decode c_M_buffer 0 = .ok (.aload_n 0, 1) := by decide +kernel
theorem d_M_buffer_1 : decode c_M_buffer 1 = .ok (.iconst 0, 1) := by decide +kernel
theorem d_M_buffer_2 : decode c_M_buffer 2 = .ok (.putfield 52, 3) := by decide +kernel
theorem d_M_buffer_5 : decode c_M_buffer 5 = .ok (.iload_n 1, 1) := by decide +kernel
theorem d_M_buffer_6 : decode c_M_buffer 6 = .ok (.i2l, 1) := by decide +kernel
theorem d_M_buffer_7 : decode c_M_buffer 7 = .ok (.lconst 1, 1) := by decide +kernel
theorem d_M_buffer_8 : decode c_M_buffer 8 = .ok (.ldc2_w 87, 3) := by decide +kernel
theorem d_M_buffer_11 : decode c_M_buffer 11 = .ok (.invokestatic 59, 3) := by decide +kernel
theorem d_M_buffer_14 : decode c_M_buffer 14 = .ok (.ifCond .ne 6, 3) := by decide +kernel
theorem d_M_buffer_17 : decode c_M_buffer 17 = .ok (.bipush (-2), 2) := by decide +kernel
theorem d_M_buffer_19 : decode c_M_buffer 19 = .ok (.ireturn, 1) := by decide +kernel
theorem d_M_buffer_20 : decode c_M_buffer 20 = .ok (.aload_n 0, 1) := by decide +kernel
theorem d_M_buffer_21 : decode c_M_buffer 21 = .ok (.getfield 69, 3) := by decide +kernel
theorem d_M_buffer_24 : decode c_M_buffer 24 = .ok (.ifCond .ne 8, 3) := by decide +kernel
theorem d_M_buffer_27 : decode c_M_buffer 27 = .ok (.bipush (-3), 2) := by decide +kernel
theorem d_M_buffer_29 : decode c_M_buffer 29 = .ok (.goto 16, 3) := by decide +kernel
theorem d_M_buffer_32 : decode c_M_buffer 32 = .ok (.aload_n 0, 1) := by decide +kernel
theorem d_M_buffer_33 : decode c_M_buffer 33 = .ok (.iload_n 1, 1) := by decide +kernel
theorem d_M_buffer_34 : decode c_M_buffer 34 = .ok (.invokevirtual 122, 3) := by decide +kernel
theorem d_M_buffer_37 : decode c_M_buffer 37 = .ok (.ifCond .eq 7, 3) := by decide +kernel
theorem d_M_buffer_40 : decode c_M_buffer 40 = .ok (.iconst 1, 1) := by decide +kernel
theorem d_M_buffer_41 : decode c_M_buffer 41 = .ok (.goto 4, 3) := by decide +kernel
theorem d_M_buffer_44 : decode c_M_buffer 44 = .ok (.iconst 0, 1) := by decide +kernel
theorem d_M_buffer_45 : decode c_M_buffer 45 = .ok (.ireturn, 1) := by decide +kernel
theorem d_M_table_0 : decode c_M_table 0 = .ok (.aload_n 0, 1) := by decide +kernel
theorem d_M_table_1 : decode c_M_table 1 = .ok (.iconst 0, 1) := by decide +kernel
theorem d_M_table_2 : decode c_M_table 2 = .ok (.putfield 52, 3) := by decide +kernel
theorem d_M_table_5 : decode c_M_table 5 = .ok (.iload_n 1, 1) := by decide +kernel
theorem d_M_table_6 : decode c_M_table 6 = .ok (.ifCond .ge 6, 3) := by decide +kernel
theorem d_M_table_9 : decode c_M_table 9 = .ok (.bipush (-2), 2) := by decide +kernel
theorem d_M_table_11 : decode c_M_table 11 = .ok (.ireturn, 1) := by decide +kernel
theorem d_M_table_12 : decode c_M_table 12 = .ok (.aload_n 0, 1) := by decide +kernel
theorem d_M_table_13 : decode c_M_table 13 = .ok (.getfield 69, 3) := by decide +kernel
theorem d_M_table_16 : decode c_M_table 16 = .ok (.ifCond .ne 6, 3) := by decide +kernel
theorem d_M_table_19 : decode c_M_table 19 = .ok (.bipush (-3), 2) := by decide +kernel
theorem d_M_table_21 : decode c_M_table 21 = .ok (.ireturn, 1) := by decide +kernel
theorem d_M_table_22 : decode c_M_table 22 = .ok (.iconst 0, 1) := by decide +kernel
theorem d_M_table_23 : decode c_M_table 23 = .ok (.istore_n 3, 1) := by decide +kernel
theorem d_M_table_24 : decode c_M_table 24 = .ok (.iconst 1, 1) := by decide +kernel
theorem d_M_table_25 : decode c_M_table 25 = .ok (.istore 4, 2) := by decide +kernel
theorem d_M_table_27 : decode c_M_table 27 = .ok (.iload 4, 2) := by decide +kernel
theorem d_M_table_29 : decode c_M_table 29 = .ok (.aload_n 0, 1) := by decide +kernel
theorem d_M_table_30 : decode c_M_table 30 = .ok (.getfield 34, 3) := by decide +kernel
theorem d_M_table_33 : decode c_M_table 33 = .ok (.iconst 0, 1) := by decide +kernel
theorem d_M_table_34 : decode c_M_table 34 = .ok (.iaload, 1) := by decide +kernel
theorem d_M_table_35 : decode c_M_table 35 = .ok (.if_icmp .gt 46, 3) := by decide +kernel
theorem d_M_table_38 : decode c_M_table 38 = .ok (.aload_n 0, 1) := by decide +kernel
theorem d_M_table_39 : decode c_M_table 39 = .ok (.getfield 40, 3) := by decide +kernel
theorem d_M_table_42 : decode c_M_table 42 = .ok (.iload 4, 2) := by decide +kernel
theorem d_M_table_44 : decode c_M_table 44 = .ok (.iconst 1, 1) := by decide +kernel
theorem d_M_table_45 : decode c_M_table 45 = .ok (.isub, 1) := by decide +kernel
theorem d_M_table_46 : decode c_M_table 46 = .ok (.iaload, 1) := by decide +kernel
theorem d_M_table_47 : decode c_M_table 47 = .ok (.ifCond .le 28, 3) := by decide +kernel
theorem d_M_table_50 : decode c_M_table 50 = .ok (.iload_n 1, 1) := by decide +kernel
theorem d_M_table_51 : decode c_M_table 51 = .ok (.aload_n 0, 1) := by decide +kernel
theorem d_M_table_52 : decode c_M_table 52 = .ok (.getfield 40, 3) := by decide +kernel
theorem d_M_table_55 : decode c_M_table 55 = .ok (.iload 4, 2) := by decide +kernel
theorem d_M_table_57 : decode c_M_table 57 = .ok (.iconst 1, 1) := by decide +kernel
theorem d_M_table_58 : decode c_M_table 58 = .ok (.isub, 1) := by decide +kernel
theorem d_M_table_59 : decode c_M_table 59 = .ok (.iaload, 1) := by decide +kernel
theorem d_M_table_60 : decode c_M_table 60 = .ok (.irem, 1) := by decide +kernel
theorem d_M_table_61 : decode c_M_table 61 = .ok (.ifCond .ne 14, 3) := by decide +kernel
theorem d_M_table_64 : decode c_M_table 64 = .ok (.iload_n 3, 1) := by decide +kernel
theorem d_M_table_65 : decode c_M_table 65 = .ok (.iload_n 2, 1) := by decide +kernel
theorem d_M_table_66 : decode c_M_table 66 = .ok (.if_icmp .ne 6, 3) := by decide +kernel
theorem d_M_table_69 : decode c_M_table 69 = .ok (.iload 4, 2) := by decide +kernel
theorem d_M_table_71 : decode c_M_table 71 = .ok (.ireturn, 1) := by decide +kernel
theorem d_M_table_72 : decode c_M_table 72 = .ok (.iinc 3 1, 3) := by decide +kernel
theorem d_M_table_75 : decode c_M_table 75 = .ok (.iinc 4 1, 3) := by decide +kernel
theorem d_M_table_78 : decode c_M_table 78 = .ok (.goto (-51), 3) := by decide +kernel
theorem d_M_table_81 : decode c_M_table 81 = .ok (.iconst 0, 1) := by decide +kernel
theorem d_M_table_82 : decode c_M_table 82 = .ok (.ireturn, 1) := by decide +kernel
theorem d_M_cross_0 : decode c_M_cross 0 = .ok (.aload_n 0, 1) := by decide +kernel
theorem d_M_cross_1 : decode c_M_cross 1 = .ok (.iconst 0, 1) := by decide +kernel
theorem d_M_cross_2 : decode c_M_cross 2 = .ok (.putfield 52, 3) := by decide +kernel
theorem d_M_cross_5 : decode c_M_cross 5 = .ok (.iload_n 1, 1) := by decide +kernel
theorem d_M_cross_6 : decode c_M_cross 6 = .ok (.i2l, 1) := by decide +kernel
theorem d_M_cross_7 : decode c_M_cross 7 = .ok (.lconst 1, 1) := by decide +kernel
theorem d_M_cross_8 : decode c_M_cross 8 = .ok (.ldc2_w 87, 3) := by decide +kernel
theorem d_M_cross_11 : decode c_M_cross 11 = .ok (.invokestatic 59, 3) := by decide +kernel
theorem d_M_cross_14 : decode c_M_cross 14 = .ok (.ifCond .ne 6, 3) := by decide +kernel
theorem d_M_cross_17 : decode c_M_cross 17 = .ok (.bipush (-2), 2) := by decide +kernel
theorem d_M_cross_19 : decode c_M_cross 19 = .ok (.ireturn, 1) := by decide +kernel
theorem d_M_cross_20 : decode c_M_cross 20 = .ok (.aload_n 0, 1) := by decide +kernel
theorem d_M_cross_21 : decode c_M_cross 21 = .ok (.getfield 69, 3) := by decide +kernel
theorem d_M_cross_24 : decode c_M_cross 24 = .ok (.ifCond .ne 6, 3) := by decide +kernel
theorem d_M_cross_27 : decode c_M_cross 27 = .ok (.bipush (-3), 2) := by decide +kernel
theorem d_M_cross_29 : decode c_M_cross 29 = .ok (.ireturn, 1) := by decide +kernel
theorem d_M_cross_30 : decode c_M_cross 30 = .ok (.iconst 0, 1) := by decide +kernel
theorem d_M_cross_31 : decode c_M_cross 31 = .ok (.istore_n 2, 1) := by decide +kernel
theorem d_M_cross_32 : decode c_M_cross 32 = .ok (.iconst 1, 1) := by decide +kernel
theorem d_M_cross_33 : decode c_M_cross 33 = .ok (.istore_n 3, 1) := by decide +kernel
theorem d_M_cross_34 : decode c_M_cross 34 = .ok (.iload_n 3, 1) := by decide +kernel
theorem d_M_cross_35 : decode c_M_cross 35 = .ok (.iconst 4, 1) := by decide +kernel
theorem d_M_cross_36 : decode c_M_cross 36 = .ok (.if_icmp .gt 127, 3) := by decide +kernel
theorem d_M_cross_39 : decode c_M_cross 39 = .ok (.iconst 0, 1) := by decide +kernel
theorem d_M_cross_40 : decode c_M_cross 40 = .ok (.istore 4, 2) := by decide +kernel
theorem d_M_cross_42 : decode c_M_cross 42 = .ok (.iconst 0, 1) := by decide +kernel
theorem d_M_cross_43 : decode c_M_cross 43 = .ok (.istore 5, 2) := by decide +kernel
theorem d_M_cross_45 : decode c_M_cross 45 = .ok (.iconst 1, 1) := by decide +kernel
theorem d_M_cross_46 : decode c_M_cross 46 = .ok (.istore 6, 2) := by decide +kernel
theorem d_M_cross_48 : decode c_M_cross 48 = .ok (.iload 6, 2) := by decide +kernel
theorem d_M_cross_50 : decode c_M_cross 50 = .ok (.aload_n 0, 1) := by decide +kernel
theorem d_M_cross_51 : decode c_M_cross 51 = .ok (.getfield 56, 3) := by decide +kernel
theorem d_M_cross_54 : decode c_M_cross 54 = .ok (.if_icmp .gt 85, 3) := by decide +kernel
theorem d_M_cross_57 : decode c_M_cross 57 = .ok (.iload 4, 2) := by decide +kernel
theorem d_M_cross_59 : decode c_M_cross 59 = .ok (.ifCond .ne 29, 3) := by decide +kernel
theorem d_M_cross_62 : decode c_M_cross 62 = .ok (.aload_n 0, 1) := by decide +kernel
theorem d_M_cross_63 : decode c_M_cross 63 = .ok (.getfield 13, 3) := by decide +kernel
theorem d_M_cross_66 : decode c_M_cross 66 = .ok (.iload 6, 2) := by decide +kernel
theorem d_M_cross_68 : decode c_M_cross 68 = .ok (.iaload, 1) := by decide +kernel
theorem d_M_cross_69 : decode c_M_cross 69 = .ok (.iload_n 3, 1) := by decide +kernel
theorem d_M_cross_70 : decode c_M_cross 70 = .ok (.if_icmp .ne 22, 3) := by decide +kernel
theorem d_M_cross_73 : decode c_M_cross 73 = .ok (.aload_n 0, 1) := by decide +kernel
theorem d_M_cross_74 : decode c_M_cross 74 = .ok (.getfield 22, 3) := by decide +kernel
theorem d_M_cross_77 : decode c_M_cross 77 = .ok (.iload_n 1, 1) := by decide +kernel
theorem d_M_cross_78 : decode c_M_cross 78 = .ok (.iaload, 1) := by decide +kernel
theorem d_M_cross_79 : decode c_M_cross 79 = .ok (.iload 6, 2) := by decide +kernel
theorem d_M_cross_81 : decode c_M_cross 81 = .ok (.ishr, 1) := by decide +kernel
theorem d_M_cross_82 : decode c_M_cross 82 = .ok (.iconst 1, 1) := by decide +kernel
theorem d_M_cross_83 : decode c_M_cross 83 = .ok (.iand, 1) := by decide +kernel
theorem d_M_cross_84 : decode c_M_cross 84 = .ok (.iconst 1, 1) := by decide +kernel
theorem d_M_cross_85 : decode c_M_cross 85 = .ok (.if_icmp .ne 7, 3) := by decide +kernel
theorem d_M_cross_88 : decode c_M_cross 88 = .ok (.iconst 1, 1) := by decide +kernel
theorem d_M_cross_89 : decode c_M_cross 89 = .ok (.goto 4, 3) := by decide +kernel
theorem d_M_cross_92 : decode c_M_cross 92 = .ok (.iconst 0, 1) := by decide +kernel
theorem d_M_cross_93 : decode c_M_cross 93 = .ok (.istore 4, 2) := by decide +kernel
theorem d_M_cross_95 : decode c_M_cross 95 = .ok (.iload 5, 2) := by decide +kernel
theorem d_M_cross_97 : decode c_M_cross 97 = .ok (.ifCond .ne 29, 3) := by decide +kernel
theorem d_M_cross_100 : decode c_M_cross 100 = .ok (.aload_n 0, 1) := by decide +kernel
theorem d_M_cross_101 : decode c_M_cross 101 = .ok (.getfield 13, 3) := by decide +kernel
theorem d_M_cross_104 : decode c_M_cross 104 = .ok (.iload 6, 2) := by decide +kernel
theorem d_M_cross_106 : decode c_M_cross 106 = .ok (.iaload, 1) := by decide +kernel
theorem d_M_cross_107 : decode c_M_cross 107 = .ok (.iload_n 3, 1) := by decide +kernel
theorem d_M_cross_108 : decode c_M_cross 108 = .ok (.if_icmp .eq 22, 3) := by decide +kernel
theorem d_M_cross_111 : decode c_M_cross 111 = .ok (.aload_n 0, 1) := by decide +kernel
theorem d_M_cross_112 : decode c_M_cross 112 = .ok (.getfield 25, 3) := by decide +kernel
theorem d_M_cross_115 : decode c_M_cross 115 = .ok (.iload_n 1, 1) := by decide +kernel
theorem d_M_cross_116 : decode c_M_cross 116 = .ok (.iaload, 1) := by decide +kernel
theorem d_M_cross_117 : decode c_M_cross 117 = .ok (.iload 6, 2) := by decide +kernel
theorem d_M_cross_119 : decode c_M_cross 119 = .ok (.ishr, 1) := by decide +kernel
theorem d_M_cross_120 : decode c_M_cross 120 = .ok (.iconst 1, 1) := by decide +kernel
theorem d_M_cross_121 : decode c_M_cross 121 = .ok (.iand, 1) := by decide +kernel
theorem d_M_cross_122 : decode c_M_cross 122 = .ok (.iconst 1, 1) := by decide +kernel
theorem d_M_cross_123 : decode c_M_cross 123 = .ok (.if_icmp .ne 7, 3) := by decide +kernel
theorem d_M_cross_126 : decode c_M_cross 126 = .ok (.iconst 1, 1) := by decide +kernel
theorem d_M_cross_127 : decode c_M_cross 127 = .ok (.goto 4, 3) := by decide +kernel
theorem d_M_cross_130 : decode c_M_cross 130 = .ok (.iconst 0, 1) := by decide +kernel
theorem d_M_cross_131 : decode c_M_cross 131 = .ok (.istore 5, 2) := by decide +kernel
theorem d_M_cross_133 : decode c_M_cross 133 = .ok (.iinc 6 1, 3) := by decide +kernel
theorem d_M_cross_136 : decode c_M_cross 136 = .ok (.goto (-88), 3) := by decide +kernel
theorem d_M_cross_139 : decode c_M_cross 139 = .ok (.iload_n 2, 1) := by decide +kernel
theorem d_M_cross_140 : decode c_M_cross 140 = .ok (.iload 4, 2) := by decide +kernel
theorem d_M_cross_142 : decode c_M_cross 142 = .ok (.ifCond .eq 12, 3) := by decide +kernel
theorem d_M_cross_145 : decode c_M_cross 145 = .ok (.iload 5, 2) := by decide +kernel
theorem d_M_cross_147 : decode c_M_cross 147 = .ok (.ifCond .eq 7, 3) := by decide +kernel
theorem d_M_cross_150 : decode c_M_cross 150 = .ok (.iconst 1, 1) := by decide +kernel
theorem d_M_cross_151 : decode c_M_cross 151 = .ok (.goto 4, 3) := by decide +kernel
theorem d_M_cross_154 : decode c_M_cross 154 = .ok (.iconst 0, 1) := by decide +kernel
theorem d_M_cross_155 : decode c_M_cross 155 = .ok (.iadd, 1) := by decide +kernel
theorem d_M_cross_156 : decode c_M_cross 156 = .ok (.istore_n 2, 1) := by decide +kernel
theorem d_M_cross_157 : decode c_M_cross 157 = .ok (.iinc 3 1, 3) := by decide +kernel
theorem d_M_cross_160 : decode c_M_cross 160 = .ok (.goto (-126), 3) := by decide +kernel
theorem d_M_cross_163 : decode c_M_cross 163 = .ok (.iload_n 2, 1) := by decide +kernel
theorem d_M_cross_164 : decode c_M_cross 164 = .ok (.ireturn, 1) := by decide +kernel
theorem d_M_budget_0 : decode c_M_budget 0 = .ok (.aload_n 0, 1) := by decide +kernel
theorem d_M_budget_1 : decode c_M_budget 1 = .ok (.iconst 0, 1) := by decide +kernel
theorem d_M_budget_2 : decode c_M_budget 2 = .ok (.putfield 52, 3) := by decide +kernel
theorem d_M_budget_5 : decode c_M_budget 5 = .ok (.aload_n 0, 1) := by decide +kernel
theorem d_M_budget_6 : decode c_M_budget 6 = .ok (.getfield 69, 3) := by decide +kernel
theorem d_M_budget_9 : decode c_M_budget 9 = .ok (.ifCond .ne 6, 3) := by decide +kernel
theorem d_M_budget_12 : decode c_M_budget 12 = .ok (.bipush (-3), 2) := by decide +kernel
theorem d_M_budget_14 : decode c_M_budget 14 = .ok (.ireturn, 1) := by decide +kernel
theorem d_M_budget_15 : decode c_M_budget 15 = .ok (.aload_n 0, 1) := by decide +kernel
theorem d_M_budget_16 : decode c_M_budget 16 = .ok (.iload_n 1, 1) := by decide +kernel
theorem d_M_budget_17 : decode c_M_budget 17 = .ok (.invokevirtual 113, 3) := by decide +kernel
theorem d_M_budget_20 : decode c_M_budget 20 = .ok (.ifCond .ne 5, 3) := by decide +kernel
theorem d_M_budget_23 : decode c_M_budget 23 = .ok (.iconst (-1), 1) := by decide +kernel
theorem d_M_budget_24 : decode c_M_budget 24 = .ok (.ireturn, 1) := by decide +kernel
theorem d_M_budget_25 : decode c_M_budget 25 = .ok (.lload_n 2, 1) := by decide +kernel
theorem d_M_budget_26 : decode c_M_budget 26 = .ok (.lconst 0, 1) := by decide +kernel
theorem d_M_budget_27 : decode c_M_budget 27 = .ok (.lcmp, 1) := by decide +kernel
theorem d_M_budget_28 : decode c_M_budget 28 = .ok (.ifCond .ge 6, 3) := by decide +kernel
theorem d_M_budget_31 : decode c_M_budget 31 = .ok (.bipush (-2), 2) := by decide +kernel
theorem d_M_budget_33 : decode c_M_budget 33 = .ok (.ireturn, 1) := by decide +kernel
theorem d_M_budget_34 : decode c_M_budget 34 = .ok (.lconst 0, 1) := by decide +kernel
theorem d_M_budget_35 : decode c_M_budget 35 = .ok (.lstore 4, 2) := by decide +kernel
theorem d_M_budget_37 : decode c_M_budget 37 = .ok (.aload_n 0, 1) := by decide +kernel
theorem d_M_budget_38 : decode c_M_budget 38 = .ok (.iconst 0, 1) := by decide +kernel
theorem d_M_budget_39 : decode c_M_budget 39 = .ok (.iload_n 1, 1) := by decide +kernel
theorem d_M_budget_40 : decode c_M_budget 40 = .ok (.iconst 1, 1) := by decide +kernel
theorem d_M_budget_41 : decode c_M_budget 41 = .ok (.isub, 1) := by decide +kernel
theorem d_M_budget_42 : decode c_M_budget 42 = .ok (.invokevirtual 116, 3) := by decide +kernel
theorem d_M_budget_45 : decode c_M_budget 45 = .ok (.istore 6, 2) := by decide +kernel
theorem d_M_budget_47 : decode c_M_budget 47 = .ok (.iload 6, 2) := by decide +kernel
theorem d_M_budget_49 : decode c_M_budget 49 = .ok (.aload_n 0, 1) := by decide +kernel
theorem d_M_budget_50 : decode c_M_budget 50 = .ok (.getfield 43, 3) := by decide +kernel
theorem d_M_budget_53 : decode c_M_budget 53 = .ok (.iload_n 1, 1) := by decide +kernel
theorem d_M_budget_54 : decode c_M_budget 54 = .ok (.iaload, 1) := by decide +kernel
theorem d_M_budget_55 : decode c_M_budget 55 = .ok (.if_icmp .ge 27, 3) := by decide +kernel
theorem d_M_budget_58 : decode c_M_budget 58 = .ok (.lload 4, 2) := by decide +kernel
theorem d_M_budget_60 : decode c_M_budget 60 = .ok (.aload_n 0, 1) := by decide +kernel
theorem d_M_budget_61 : decode c_M_budget 61 = .ok (.getfield 16, 3) := by decide +kernel
theorem d_M_budget_64 : decode c_M_budget 64 = .ok (.aload_n 0, 1) := by decide +kernel
theorem d_M_budget_65 : decode c_M_budget 65 = .ok (.getfield 46, 3) := by decide +kernel
theorem d_M_budget_68 : decode c_M_budget 68 = .ok (.iload 6, 2) := by decide +kernel
theorem d_M_budget_70 : decode c_M_budget 70 = .ok (.iaload, 1) := by decide +kernel
theorem d_M_budget_71 : decode c_M_budget 71 = .ok (.iaload, 1) := by decide +kernel
theorem d_M_budget_72 : decode c_M_budget 72 = .ok (.i2l, 1) := by decide +kernel
theorem d_M_budget_73 : decode c_M_budget 73 = .ok (.ladd, 1) := by decide +kernel
theorem d_M_budget_74 : decode c_M_budget 74 = .ok (.lstore 4, 2) := by decide +kernel
theorem d_M_budget_76 : decode c_M_budget 76 = .ok (.iinc 6 1, 3) := by decide +kernel
theorem d_M_budget_79 : decode c_M_budget 79 = .ok (.goto (-32), 3) := by decide +kernel
theorem d_M_budget_82 : decode c_M_budget 82 = .ok (.lload 4, 2) := by decide +kernel
theorem d_M_budget_84 : decode c_M_budget 84 = .ok (.lload_n 2, 1) := by decide +kernel
theorem d_M_budget_85 : decode c_M_budget 85 = .ok (.lcmp, 1) := by decide +kernel
theorem d_M_budget_86 : decode c_M_budget 86 = .ok (.ifCond .gt 7, 3) := by decide +kernel
theorem d_M_budget_89 : decode c_M_budget 89 = .ok (.iconst 1, 1) := by decide +kernel
theorem d_M_budget_90 : decode c_M_budget 90 = .ok (.goto 4, 3) := by decide +kernel
theorem d_M_budget_93 : decode c_M_budget 93 = .ok (.iconst 0, 1) := by decide +kernel
theorem d_M_budget_94 : decode c_M_budget 94 = .ok (.ireturn, 1) := by decide +kernel
theorem d_M_isSame_0 : decode c_M_isSame 0 = .ok (.aload_n 0, 1) := by decide +kernel
theorem d_M_isSame_1 : decode c_M_isSame 1 = .ok (.iconst 0, 1) := by decide +kernel
theorem d_M_isSame_2 : decode c_M_isSame 2 = .ok (.iload_n 1, 1) := by decide +kernel
theorem d_M_isSame_3 : decode c_M_isSame 3 = .ok (.invokevirtual 116, 3) := by decide +kernel
theorem d_M_isSame_6 : decode c_M_isSame 6 = .ok (.istore 4, 2) := by decide +kernel
theorem d_M_isSame_8 : decode c_M_isSame 8 = .ok (.aload_n 0, 1) := by decide +kernel
theorem d_M_isSame_9 : decode c_M_isSame 9 = .ok (.iload_n 2, 1) := by decide +kernel
theorem d_M_isSame_10 : decode c_M_isSame 10 = .ok (.iload_n 3, 1) := by decide +kernel
theorem d_M_isSame_11 : decode c_M_isSame 11 = .ok (.invokevirtual 116, 3) := by decide +kernel
theorem d_M_isSame_14 : decode c_M_isSame 14 = .ok (.istore 5, 2) := by decide +kernel
theorem d_M_isSame_16 : decode c_M_isSame 16 = .ok (.aload_n 0, 1) := by decide +kernel
theorem d_M_isSame_17 : decode c_M_isSame 17 = .ok (.getfield 43, 3) := by decide +kernel
theorem d_M_isSame_20 : decode c_M_isSame 20 = .ok (.iload_n 1, 1) := by decide +kernel
theorem d_M_isSame_21 : decode c_M_isSame 21 = .ok (.iconst 1, 1) := by decide +kernel
theorem d_M_isSame_22 : decode c_M_isSame 22 = .ok (.iadd, 1) := by decide +kernel
theorem d_M_isSame_23 : decode c_M_isSame 23 = .ok (.iaload, 1) := by decide +kernel
theorem d_M_isSame_24 : decode c_M_isSame 24 = .ok (.iload 4, 2) := by decide +kernel
theorem d_M_isSame_26 : decode c_M_isSame 26 = .ok (.isub, 1) := by decide +kernel
theorem d_M_isSame_27 : decode c_M_isSame 27 = .ok (.istore 6, 2) := by decide +kernel
theorem d_M_isSame_29 : decode c_M_isSame 29 = .ok (.aload_n 0, 1) := by decide +kernel
theorem d_M_isSame_30 : decode c_M_isSame 30 = .ok (.getfield 37, 3) := by decide +kernel
theorem d_M_isSame_33 : decode c_M_isSame 33 = .ok (.iload_n 1, 1) := by decide +kernel
theorem d_M_isSame_34 : decode c_M_isSame 34 = .ok (.iaload, 1) := by decide +kernel
theorem d_M_isSame_35 : decode c_M_isSame 35 = .ok (.aload_n 0, 1) := by decide +kernel
theorem d_M_isSame_36 : decode c_M_isSame 36 = .ok (.getfield 37, 3) := by decide +kernel
theorem d_M_isSame_39 : decode c_M_isSame 39 = .ok (.bipush 24, 2) := by decide +kernel
theorem d_M_isSame_41 : decode c_M_isSame 41 = .ok (.iload_n 2, 1) := by decide +kernel
theorem d_M_isSame_42 : decode c_M_isSame 42 = .ok (.imul, 1) := by decide +kernel
theorem d_M_isSame_43 : decode c_M_isSame 43 = .ok (.iload_n 3, 1) := by decide +kernel
theorem d_M_isSame_44 : decode c_M_isSame 44 = .ok (.iadd, 1) := by decide +kernel
theorem d_M_isSame_45 : decode c_M_isSame 45 = .ok (.iaload, 1) := by decide +kernel
theorem d_M_isSame_46 : decode c_M_isSame 46 = .ok (.if_icmp .ne 48, 3) := by decide +kernel
theorem d_M_isSame_49 : decode c_M_isSame 49 = .ok (.aload_n 0, 1) := by decide +kernel
theorem d_M_isSame_50 : decode c_M_isSame 50 = .ok (.getfield 40, 3) := by decide +kernel
theorem d_M_isSame_53 : decode c_M_isSame 53 = .ok (.iload_n 1, 1) := by decide +kernel
theorem d_M_isSame_54 : decode c_M_isSame 54 = .ok (.iaload, 1) := by decide +kernel
theorem d_M_isSame_55 : decode c_M_isSame 55 = .ok (.aload_n 0, 1) := by decide +kernel
theorem d_M_isSame_56 : decode c_M_isSame 56 = .ok (.getfield 40, 3) := by decide +kernel
theorem d_M_isSame_59 : decode c_M_isSame 59 = .ok (.bipush 24, 2) := by decide +kernel
theorem d_M_isSame_61 : decode c_M_isSame 61 = .ok (.iload_n 2, 1) := by decide +kernel
theorem d_M_isSame_62 : decode c_M_isSame 62 = .ok (.imul, 1) := by decide +kernel
theorem d_M_isSame_63 : decode c_M_isSame 63 = .ok (.iload_n 3, 1) := by decide +kernel
theorem d_M_isSame_64 : decode c_M_isSame 64 = .ok (.iadd, 1) := by decide +kernel
theorem d_M_isSame_65 : decode c_M_isSame 65 = .ok (.iaload, 1) := by decide +kernel
theorem d_M_isSame_66 : decode c_M_isSame 66 = .ok (.if_icmp .ne 28, 3) := by decide +kernel
theorem d_M_isSame_69 : decode c_M_isSame 69 = .ok (.aload_n 0, 1) := by decide +kernel
theorem d_M_isSame_70 : decode c_M_isSame 70 = .ok (.getfield 43, 3) := by decide +kernel
theorem d_M_isSame_73 : decode c_M_isSame 73 = .ok (.bipush 25, 2) := by decide +kernel
theorem d_M_isSame_75 : decode c_M_isSame 75 = .ok (.iload_n 2, 1) := by decide +kernel
theorem d_M_isSame_76 : decode c_M_isSame 76 = .ok (.imul, 1) := by decide +kernel
theorem d_M_isSame_77 : decode c_M_isSame 77 = .ok (.iload_n 3, 1) := by decide +kernel
theorem d_M_isSame_78 : decode c_M_isSame 78 = .ok (.iadd, 1) := by decide +kernel
theorem d_M_isSame_79 : decode c_M_isSame 79 = .ok (.iconst 1, 1) := by decide +kernel
theorem d_M_isSame_80 : decode c_M_isSame 80 = .ok (.iadd, 1) := by decide +kernel
theorem d_M_isSame_81 : decode c_M_isSame 81 = .ok (.iaload, 1) := by decide +kernel
theorem d_M_isSame_82 : decode c_M_isSame 82 = .ok (.iload 5, 2) := by decide +kernel
theorem d_M_isSame_84 : decode c_M_isSame 84 = .ok (.isub, 1) := by decide +kernel
theorem d_M_isSame_85 : decode c_M_isSame 85 = .ok (.iload 6, 2) := by decide +kernel
theorem d_M_isSame_87 : decode c_M_isSame 87 = .ok (.if_icmp .ne 7, 3) := by decide +kernel
theorem d_M_isSame_90 : decode c_M_isSame 90 = .ok (.iconst 1, 1) := by decide +kernel
theorem d_M_isSame_91 : decode c_M_isSame 91 = .ok (.goto 4, 3) := by decide +kernel
theorem d_M_isSame_94 : decode c_M_isSame 94 = .ok (.iconst 0, 1) := by decide +kernel
theorem d_M_isSame_95 : decode c_M_isSame 95 = .ok (.istore 7, 2) := by decide +kernel
theorem d_M_isSame_97 : decode c_M_isSame 97 = .ok (.iconst 0, 1) := by decide +kernel
theorem d_M_isSame_98 : decode c_M_isSame 98 = .ok (.istore 8, 2) := by decide +kernel
theorem d_M_isSame_100 : decode c_M_isSame 100 = .ok (.iload 8, 2) := by decide +kernel
theorem d_M_isSame_102 : decode c_M_isSame 102 = .ok (.iload 6, 2) := by decide +kernel
theorem d_M_isSame_104 : decode c_M_isSame 104 = .ok (.if_icmp .ge 49, 3) := by decide +kernel
theorem d_M_isSame_107 : decode c_M_isSame 107 = .ok (.iload 7, 2) := by decide +kernel
theorem d_M_isSame_109 : decode c_M_isSame 109 = .ok (.ifCond .eq 44, 3) := by decide +kernel
theorem d_M_isSame_112 : decode c_M_isSame 112 = .ok (.aload_n 0, 1) := by decide +kernel
theorem d_M_isSame_113 : decode c_M_isSame 113 = .ok (.getfield 46, 3) := by decide +kernel
theorem d_M_isSame_116 : decode c_M_isSame 116 = .ok (.iload 4, 2) := by decide +kernel
theorem d_M_isSame_118 : decode c_M_isSame 118 = .ok (.iload 8, 2) := by decide +kernel
theorem d_M_isSame_120 : decode c_M_isSame 120 = .ok (.iadd, 1) := by decide +kernel
theorem d_M_isSame_121 : decode c_M_isSame 121 = .ok (.iaload, 1) := by decide +kernel
theorem d_M_isSame_122 : decode c_M_isSame 122 = .ok (.aload_n 0, 1) := by decide +kernel
theorem d_M_isSame_123 : decode c_M_isSame 123 = .ok (.getfield 46, 3) := by decide +kernel
theorem d_M_isSame_126 : decode c_M_isSame 126 = .ok (.bipush 24, 2) := by decide +kernel
theorem d_M_isSame_128 : decode c_M_isSame 128 = .ok (.iload_n 2, 1) := by decide +kernel
theorem d_M_isSame_129 : decode c_M_isSame 129 = .ok (.imul, 1) := by decide +kernel
theorem d_M_isSame_130 : decode c_M_isSame 130 = .ok (.iload 5, 2) := by decide +kernel
theorem d_M_isSame_132 : decode c_M_isSame 132 = .ok (.iadd, 1) := by decide +kernel
theorem d_M_isSame_133 : decode c_M_isSame 133 = .ok (.iload 8, 2) := by decide +kernel
theorem d_M_isSame_135 : decode c_M_isSame 135 = .ok (.iadd, 1) := by decide +kernel
theorem d_M_isSame_136 : decode c_M_isSame 136 = .ok (.iaload, 1) := by decide +kernel
theorem d_M_isSame_137 : decode c_M_isSame 137 = .ok (.if_icmp .ne 7, 3) := by decide +kernel
theorem d_M_isSame_140 : decode c_M_isSame 140 = .ok (.iconst 1, 1) := by decide +kernel
theorem d_M_isSame_141 : decode c_M_isSame 141 = .ok (.goto 4, 3) := by decide +kernel
theorem d_M_isSame_144 : decode c_M_isSame 144 = .ok (.iconst 0, 1) := by decide +kernel
theorem d_M_isSame_145 : decode c_M_isSame 145 = .ok (.istore 7, 2) := by decide +kernel
theorem d_M_isSame_147 : decode c_M_isSame 147 = .ok (.iinc 8 1, 3) := by decide +kernel
theorem d_M_isSame_150 : decode c_M_isSame 150 = .ok (.goto (-50), 3) := by decide +kernel
theorem d_M_isSame_153 : decode c_M_isSame 153 = .ok (.iload 7, 2) := by decide +kernel
theorem d_M_isSame_155 : decode c_M_isSame 155 = .ok (.ireturn, 1) := by decide +kernel
theorem d_M_differ_0 : decode c_M_differ 0 = .ok (.aload_n 0, 1) := by decide +kernel
theorem d_M_differ_1 : decode c_M_differ 1 = .ok (.iconst 0, 1) := by decide +kernel
theorem d_M_differ_2 : decode c_M_differ 2 = .ok (.putfield 52, 3) := by decide +kernel
theorem d_M_differ_5 : decode c_M_differ 5 = .ok (.aload_n 0, 1) := by decide +kernel
theorem d_M_differ_6 : decode c_M_differ 6 = .ok (.getfield 69, 3) := by decide +kernel
theorem d_M_differ_9 : decode c_M_differ 9 = .ok (.ifCond .ne 6, 3) := by decide +kernel
theorem d_M_differ_12 : decode c_M_differ 12 = .ok (.bipush (-3), 2) := by decide +kernel
theorem d_M_differ_14 : decode c_M_differ 14 = .ok (.ireturn, 1) := by decide +kernel
theorem d_M_differ_15 : decode c_M_differ 15 = .ok (.iload_n 1, 1) := by decide +kernel
theorem d_M_differ_16 : decode c_M_differ 16 = .ok (.i2l, 1) := by decide +kernel
theorem d_M_differ_17 : decode c_M_differ 17 = .ok (.lconst 1, 1) := by decide +kernel
theorem d_M_differ_18 : decode c_M_differ 18 = .ok (.aload_n 0, 1) := by decide +kernel
theorem d_M_differ_19 : decode c_M_differ 19 = .ok (.getfield 107, 3) := by decide +kernel
theorem d_M_differ_22 : decode c_M_differ 22 = .ok (.i2l, 1) := by decide +kernel
theorem d_M_differ_23 : decode c_M_differ 23 = .ok (.invokestatic 59, 3) := by decide +kernel
theorem d_M_differ_26 : decode c_M_differ 26 = .ok (.ifCond .eq 9, 3) := by decide +kernel
theorem d_M_differ_29 : decode c_M_differ 29 = .ok (.iload_n 1, 1) := by decide +kernel
theorem d_M_differ_30 : decode c_M_differ 30 = .ok (.bipush 40, 2) := by decide +kernel
theorem d_M_differ_32 : decode c_M_differ 32 = .ok (.if_icmp .le 5, 3) := by decide +kernel
theorem d_M_differ_35 : decode c_M_differ 35 = .ok (.iconst (-1), 1) := by decide +kernel
theorem d_M_differ_36 : decode c_M_differ 36 = .ok (.ireturn, 1) := by decide +kernel
theorem d_M_differ_37 : decode c_M_differ 37 = .ok (.iconst 0, 1) := by decide +kernel
theorem d_M_differ_38 : decode c_M_differ 38 = .ok (.istore_n 2, 1) := by decide +kernel
theorem d_M_differ_39 : decode c_M_differ 39 = .ok (.iconst 0, 1) := by decide +kernel
theorem d_M_differ_40 : decode c_M_differ 40 = .ok (.istore_n 3, 1) := by decide +kernel
theorem d_M_differ_41 : decode c_M_differ 41 = .ok (.iload_n 3, 1) := by decide +kernel
theorem d_M_differ_42 : decode c_M_differ 42 = .ok (.aload_n 0, 1) := by decide +kernel
theorem d_M_differ_43 : decode c_M_differ 43 = .ok (.getfield 34, 3) := by decide +kernel
theorem d_M_differ_46 : decode c_M_differ 46 = .ok (.iconst 0, 1) := by decide +kernel
theorem d_M_differ_47 : decode c_M_differ 47 = .ok (.iaload, 1) := by decide +kernel
theorem d_M_differ_48 : decode c_M_differ 48 = .ok (.if_icmp .ge 68, 3) := by decide +kernel
theorem d_M_differ_51 : decode c_M_differ 51 = .ok (.iconst 0, 1) := by decide +kernel
theorem d_M_differ_52 : decode c_M_differ 52 = .ok (.istore 4, 2) := by decide +kernel
theorem d_M_differ_54 : decode c_M_differ 54 = .ok (.iconst 0, 1) := by decide +kernel
theorem d_M_differ_55 : decode c_M_differ 55 = .ok (.istore 5, 2) := by decide +kernel
theorem d_M_differ_57 : decode c_M_differ 57 = .ok (.iload 5, 2) := by decide +kernel
theorem d_M_differ_59 : decode c_M_differ 59 = .ok (.aload_n 0, 1) := by decide +kernel
theorem d_M_differ_60 : decode c_M_differ 60 = .ok (.getfield 34, 3) := by decide +kernel
theorem d_M_differ_63 : decode c_M_differ 63 = .ok (.iload_n 1, 1) := by decide +kernel
theorem d_M_differ_64 : decode c_M_differ 64 = .ok (.iaload, 1) := by decide +kernel
theorem d_M_differ_65 : decode c_M_differ 65 = .ok (.if_icmp .ge 32, 3) := by decide +kernel
theorem d_M_differ_68 : decode c_M_differ 68 = .ok (.iload 4, 2) := by decide +kernel
theorem d_M_differ_70 : decode c_M_differ 70 = .ok (.ifCond .ne 14, 3) := by decide +kernel
theorem d_M_differ_73 : decode c_M_differ 73 = .ok (.aload_n 0, 1) := by decide +kernel
theorem d_M_differ_74 : decode c_M_differ 74 = .ok (.iload_n 3, 1) := by decide +kernel
theorem d_M_differ_75 : decode c_M_differ 75 = .ok (.iload_n 1, 1) := by decide +kernel
theorem d_M_differ_76 : decode c_M_differ 76 = .ok (.iload 5, 2) := by decide +kernel
theorem d_M_differ_78 : decode c_M_differ 78 = .ok (.invokevirtual 125, 3) := by decide +kernel
theorem d_M_differ_81 : decode c_M_differ 81 = .ok (.ifCond .eq 7, 3) := by decide +kernel
theorem d_M_differ_84 : decode c_M_differ 84 = .ok (.iconst 1, 1) := by decide +kernel
theorem d_M_differ_85 : decode c_M_differ 85 = .ok (.goto 4, 3) := by decide +kernel
theorem d_M_differ_88 : decode c_M_differ 88 = .ok (.iconst 0, 1) := by decide +kernel
theorem d_M_differ_89 : decode c_M_differ 89 = .ok (.istore 4, 2) := by decide +kernel
theorem d_M_differ_91 : decode c_M_differ 91 = .ok (.iinc 5 1, 3) := by decide +kernel
theorem d_M_differ_94 : decode c_M_differ 94 = .ok (.goto (-37), 3) := by decide +kernel
theorem d_M_differ_97 : decode c_M_differ 97 = .ok (.iload_n 2, 1) := by decide +kernel
theorem d_M_differ_98 : decode c_M_differ 98 = .ok (.iload 4, 2) := by decide +kernel
theorem d_M_differ_100 : decode c_M_differ 100 = .ok (.ifCond .eq 7, 3) := by decide +kernel
theorem d_M_differ_103 : decode c_M_differ 103 = .ok (.iconst 0, 1) := by decide +kernel
theorem d_M_differ_104 : decode c_M_differ 104 = .ok (.goto 4, 3) := by decide +kernel
theorem d_M_differ_107 : decode c_M_differ 107 = .ok (.iconst 1, 1) := by decide +kernel
theorem d_M_differ_108 : decode c_M_differ 108 = .ok (.iadd, 1) := by decide +kernel
theorem d_M_differ_109 : decode c_M_differ 109 = .ok (.istore_n 2, 1) := by decide +kernel
theorem d_M_differ_110 : decode c_M_differ 110 = .ok (.iinc 3 1, 3) := by decide +kernel
theorem d_M_differ_113 : decode c_M_differ 113 = .ok (.goto (-72), 3) := by decide +kernel
theorem d_M_differ_116 : decode c_M_differ 116 = .ok (.iload_n 2, 1) := by decide +kernel
theorem d_M_differ_117 : decode c_M_differ 117 = .ok (.ireturn, 1) := by decide +kernel
