theorem d_T_init_0 : decode c_T_init 0 = .ok (.aload_n 0, 1) := by decide +kernel
theorem d_T_init_1 : decode c_T_init 1 = .ok (.invokespecial 1, 3) := by decide +kernel
theorem d_T_init_4 : decode c_T_init 4 = .ok (.aload_n 0, 1) := by decide +kernel
theorem d_T_init_5 : decode c_T_init 5 = .ok (.new 7, 3) := by decide +kernel
theorem d_T_init_8 : decode c_T_init 8 = .ok (.dup, 1) := by decide +kernel
theorem d_T_init_9 : decode c_T_init 9 = .ok (.invokespecial 9, 3) := by decide +kernel
theorem d_T_init_12 : decode c_T_init 12 = .ok (.putfield 10, 3) := by decide +kernel
theorem d_T_init_15 : decode c_T_init 15 = .ok (.aload_n 0, 1) := by decide +kernel
theorem d_T_init_16 : decode c_T_init 16 = .ok (.new 16, 3) := by decide +kernel
theorem d_T_init_19 : decode c_T_init 19 = .ok (.dup, 1) := by decide +kernel
theorem d_T_init_20 : decode c_T_init 20 = .ok (.invokespecial 18, 3) := by decide +kernel
theorem d_T_init_23 : decode c_T_init 23 = .ok (.putfield 19, 3) := by decide +kernel
theorem d_T_init_26 : decode c_T_init 26 = .ok (.aload_n 0, 1) := by decide +kernel
theorem d_T_init_27 : decode c_T_init 27 = .ok (.bipush 40, 2) := by decide +kernel
theorem d_T_init_29 : decode c_T_init 29 = .ok (.anewarray 23, 3) := by decide +kernel
theorem d_T_init_32 : decode c_T_init 32 = .ok (.putfield 25, 3) := by decide +kernel
theorem d_T_init_35 : decode c_T_init 35 = .ok (.aload_n 0, 1) := by decide +kernel
theorem d_T_init_36 : decode c_T_init 36 = .ok (.new 23, 3) := by decide +kernel
theorem d_T_init_39 : decode c_T_init 39 = .ok (.dup, 1) := by decide +kernel
theorem d_T_init_40 : decode c_T_init 40 = .ok (.invokespecial 29, 3) := by decide +kernel
theorem d_T_init_43 : decode c_T_init 43 = .ok (.putfield 30, 3) := by decide +kernel
theorem d_T_init_46 : decode c_T_init 46 = .ok (.return_, 1) := by decide +kernel
theorem d_T_isWithin_0 : decode c_T_isWithin 0 = .ok (.iload_n 0, 1) := by decide +kernel
theorem d_T_isWithin_1 : decode c_T_isWithin 1 = .ok (.iload_n 1, 1) := by decide +kernel
theorem d_T_isWithin_2 : decode c_T_isWithin 2 = .ok (.if_icmp .lt 12, 3) := by decide +kernel
theorem d_T_isWithin_5 : decode c_T_isWithin 5 = .ok (.iload_n 0, 1) := by decide +kernel
theorem d_T_isWithin_6 : decode c_T_isWithin 6 = .ok (.iload_n 2, 1) := by decide +kernel
theorem d_T_isWithin_7 : decode c_T_isWithin 7 = .ok (.if_icmp .gt 7, 3) := by decide +kernel
theorem d_T_isWithin_10 : decode c_T_isWithin 10 = .ok (.iconst 1, 1) := by decide +kernel
theorem d_T_isWithin_11 : decode c_T_isWithin 11 = .ok (.goto 4, 3) := by decide +kernel
theorem d_T_isWithin_14 : decode c_T_isWithin 14 = .ok (.iconst 0, 1) := by decide +kernel
theorem d_T_isWithin_15 : decode c_T_isWithin 15 = .ok (.ireturn, 1) := by decide +kernel
theorem d_T_runnable_0 : decode c_T_runnable 0 = .ok (.iload_n 1, 1) := by decide +kernel
theorem d_T_runnable_1 : decode c_T_runnable 1 = .ok (.iconst 0, 1) := by decide +kernel
theorem d_T_runnable_2 : decode c_T_runnable 2 = .ok (.sipush 1000, 3) := by decide +kernel
theorem d_T_runnable_5 : decode c_T_runnable 5 = .ok (.invokestatic 34, 3) := by decide +kernel
theorem d_T_runnable_8 : decode c_T_runnable 8 = .ok (.ifCond .eq 22, 3) := by decide +kernel
theorem d_T_runnable_11 : decode c_T_runnable 11 = .ok (.iload_n 2, 1) := by decide +kernel
theorem d_T_runnable_12 : decode c_T_runnable 12 = .ok (.iconst 1, 1) := by decide +kernel
theorem d_T_runnable_13 : decode c_T_runnable 13 = .ok (.iconst 4, 1) := by decide +kernel
theorem d_T_runnable_14 : decode c_T_runnable 14 = .ok (.invokestatic 34, 3) := by decide +kernel
theorem d_T_runnable_17 : decode c_T_runnable 17 = .ok (.ifCond .eq 13, 3) := by decide +kernel
theorem d_T_runnable_20 : decode c_T_runnable 20 = .ok (.iload_n 3, 1) := by decide +kernel
theorem d_T_runnable_21 : decode c_T_runnable 21 = .ok (.iconst 0, 1) := by decide +kernel
theorem d_T_runnable_22 : decode c_T_runnable 22 = .ok (.ldc 38, 2) := by decide +kernel
theorem d_T_runnable_24 : decode c_T_runnable 24 = .ok (.invokestatic 34, 3) := by decide +kernel
theorem d_T_runnable_27 : decode c_T_runnable 27 = .ok (.ifCond .ne 6, 3) := by decide +kernel
theorem d_T_runnable_30 : decode c_T_runnable 30 = .ok (.bipush (-2), 2) := by decide +kernel
theorem d_T_runnable_32 : decode c_T_runnable 32 = .ok (.ireturn, 1) := by decide +kernel
theorem d_T_runnable_33 : decode c_T_runnable 33 = .ok (.aload_n 0, 1) := by decide +kernel
theorem d_T_runnable_34 : decode c_T_runnable 34 = .ok (.getfield 10, 3) := by decide +kernel
theorem d_T_runnable_37 : decode c_T_runnable 37 = .ok (.invokevirtual 39, 3) := by decide +kernel
theorem d_T_runnable_40 : decode c_T_runnable 40 = .ok (.ifCond .eq 6, 3) := by decide +kernel
theorem d_T_runnable_43 : decode c_T_runnable 43 = .ok (.bipush (-4), 2) := by decide +kernel
theorem d_T_runnable_45 : decode c_T_runnable 45 = .ok (.ireturn, 1) := by decide +kernel
theorem d_T_runnable_46 : decode c_T_runnable 46 = .ok (.aload_n 0, 1) := by decide +kernel
theorem d_T_runnable_47 : decode c_T_runnable 47 = .ok (.aconst_null, 1) := by decide +kernel
theorem d_T_runnable_48 : decode c_T_runnable 48 = .ok (.putfield 43, 3) := by decide +kernel
theorem d_T_runnable_51 : decode c_T_runnable 51 = .ok (.aload_n 0, 1) := by decide +kernel
theorem d_T_runnable_52 : decode c_T_runnable 52 = .ok (.getfield 10, 3) := by decide +kernel
theorem d_T_runnable_55 : decode c_T_runnable 55 = .ok (.iload_n 1, 1) := by decide +kernel
theorem d_T_runnable_56 : decode c_T_runnable 56 = .ok (.iload_n 2, 1) := by decide +kernel
theorem d_T_runnable_57 : decode c_T_runnable 57 = .ok (.iload_n 3, 1) := by decide +kernel
theorem d_T_runnable_58 : decode c_T_runnable 58 = .ok (.invokevirtual 46, 3) := by decide +kernel
theorem d_T_runnable_61 : decode c_T_runnable 61 = .ok (.ireturn, 1) := by decide +kernel
theorem d_T_isIn_0 : decode c_T_isIn 0 = .ok (.iload_n 0, 1) := by decide +kernel
theorem d_T_isIn_1 : decode c_T_isIn 1 = .ok (.iconst 1, 1) := by decide +kernel
theorem d_T_isIn_2 : decode c_T_isIn 2 = .ok (.iload_n 1, 1) := by decide +kernel
theorem d_T_isIn_3 : decode c_T_isIn 3 = .ok (.ishl, 1) := by decide +kernel
theorem d_T_isIn_4 : decode c_T_isIn 4 = .ok (.iand, 1) := by decide +kernel
theorem d_T_isIn_5 : decode c_T_isIn 5 = .ok (.ifCond .eq 7, 3) := by decide +kernel
theorem d_T_isIn_8 : decode c_T_isIn 8 = .ok (.iconst 1, 1) := by decide +kernel
theorem d_T_isIn_9 : decode c_T_isIn 9 = .ok (.goto 4, 3) := by decide +kernel
theorem d_T_isIn_12 : decode c_T_isIn 12 = .ok (.iconst 0, 1) := by decide +kernel
theorem d_T_isIn_13 : decode c_T_isIn 13 = .ok (.ireturn, 1) := by decide +kernel
theorem d_T_needs_0 : decode c_T_needs 0 = .ok (.aload_n 0, 1) := by decide +kernel
theorem d_T_needs_1 : decode c_T_needs 1 = .ok (.getfield 10, 3) := by decide +kernel
theorem d_T_needs_4 : decode c_T_needs 4 = .ok (.iload_n 1, 1) := by decide +kernel
theorem d_T_needs_5 : decode c_T_needs 5 = .ok (.invokevirtual 50, 3) := by decide +kernel
theorem d_T_needs_8 : decode c_T_needs 8 = .ok (.ifCond .eq 14, 3) := by decide +kernel
theorem d_T_needs_11 : decode c_T_needs 11 = .ok (.aload_n 0, 1) := by decide +kernel
theorem d_T_needs_12 : decode c_T_needs 12 = .ok (.getfield 10, 3) := by decide +kernel
theorem d_T_needs_15 : decode c_T_needs 15 = .ok (.iload_n 2, 1) := by decide +kernel
theorem d_T_needs_16 : decode c_T_needs 16 = .ok (.invokevirtual 50, 3) := by decide +kernel
theorem d_T_needs_19 : decode c_T_needs 19 = .ok (.ifCond .ne 5, 3) := by decide +kernel
theorem d_T_needs_22 : decode c_T_needs 22 = .ok (.iconst (-1), 1) := by decide +kernel
theorem d_T_needs_23 : decode c_T_needs 23 = .ok (.ireturn, 1) := by decide +kernel
theorem d_T_needs_24 : decode c_T_needs 24 = .ok (.iload_n 3, 1) := by decide +kernel
theorem d_T_needs_25 : decode c_T_needs 25 = .ok (.ifCond .ne 35, 3) := by decide +kernel
theorem d_T_needs_28 : decode c_T_needs 28 = .ok (.aload_n 0, 1) := by decide +kernel
theorem d_T_needs_29 : decode c_T_needs 29 = .ok (.getfield 19, 3) := by decide +kernel
theorem d_T_needs_32 : decode c_T_needs 32 = .ok (.iload_n 1, 1) := by decide +kernel
theorem d_T_needs_33 : decode c_T_needs 33 = .ok (.iload_n 2, 1) := by decide +kernel
theorem d_T_needs_34 : decode c_T_needs 34 = .ok (.invokevirtual 54, 3) := by decide +kernel
theorem d_T_needs_37 : decode c_T_needs 37 = .ok (.ifCond .eq 14, 3) := by decide +kernel
theorem d_T_needs_40 : decode c_T_needs 40 = .ok (.aload_n 0, 1) := by decide +kernel
theorem d_T_needs_41 : decode c_T_needs 41 = .ok (.getfield 19, 3) := by decide +kernel
theorem d_T_needs_44 : decode c_T_needs 44 = .ok (.iload_n 1, 1) := by decide +kernel
theorem d_T_needs_45 : decode c_T_needs 45 = .ok (.iload_n 2, 1) := by decide +kernel
theorem d_T_needs_46 : decode c_T_needs 46 = .ok (.invokevirtual 58, 3) := by decide +kernel
theorem d_T_needs_49 : decode c_T_needs 49 = .ok (.iconst 0, 1) := by decide +kernel
theorem d_T_needs_50 : decode c_T_needs 50 = .ok (.ireturn, 1) := by decide +kernel
theorem d_T_needs_51 : decode c_T_needs 51 = .ok (.aload_n 0, 1) := by decide +kernel
theorem d_T_needs_52 : decode c_T_needs 52 = .ok (.getfield 19, 3) := by decide +kernel
theorem d_T_needs_55 : decode c_T_needs 55 = .ok (.iload_n 1, 1) := by decide +kernel
theorem d_T_needs_56 : decode c_T_needs 56 = .ok (.iload_n 2, 1) := by decide +kernel
theorem d_T_needs_57 : decode c_T_needs 57 = .ok (.invokevirtual 62, 3) := by decide +kernel
theorem d_T_needs_60 : decode c_T_needs 60 = .ok (.aload_n 0, 1) := by decide +kernel
theorem d_T_needs_61 : decode c_T_needs 61 = .ok (.aconst_null, 1) := by decide +kernel
theorem d_T_needs_62 : decode c_T_needs 62 = .ok (.putfield 43, 3) := by decide +kernel
theorem d_T_needs_65 : decode c_T_needs 65 = .ok (.iconst 1, 1) := by decide +kernel
theorem d_T_needs_66 : decode c_T_needs 66 = .ok (.ireturn, 1) := by decide +kernel
theorem d_T_isDatum_0 : decode c_T_isDatum 0 = .ok (.iload_n 0, 1) := by decide +kernel
theorem d_T_isDatum_1 : decode c_T_isDatum 1 = .ok (.iconst 1, 1) := by decide +kernel
theorem d_T_isDatum_2 : decode c_T_isDatum 2 = .ok (.bipush 20, 2) := by decide +kernel
theorem d_T_isDatum_4 : decode c_T_isDatum 4 = .ok (.invokestatic 34, 3) := by decide +kernel
theorem d_T_isDatum_7 : decode c_T_isDatum 7 = .ok (.ireturn, 1) := by decide +kernel
theorem d_J_bitCount_0 : decode c_J_bitCount 0 = .ok (.iload_n 0, 1) := by decide +kernel
theorem d_J_bitCount_1 : decode c_J_bitCount 1 = .ok (.iload_n 0, 1) := by decide +kernel
theorem d_J_bitCount_2 : decode c_J_bitCount 2 = .ok (.iconst 1, 1) := by decide +kernel
theorem d_J_bitCount_3 : decode c_J_bitCount 3 = .ok (.iushr, 1) := by decide +kernel
theorem d_J_bitCount_4 : decode c_J_bitCount 4 = .ok (.ldc_w 265, 3) := by decide +kernel
theorem d_J_bitCount_7 : decode c_J_bitCount 7 = .ok (.iand, 1) := by decide +kernel
theorem d_J_bitCount_8 : decode c_J_bitCount 8 = .ok (.isub, 1) := by decide +kernel
theorem d_J_bitCount_9 : decode c_J_bitCount 9 = .ok (.istore_n 0, 1) := by decide +kernel
theorem d_J_bitCount_10 : decode c_J_bitCount 10 = .ok (.iload_n 0, 1) := by decide +kernel
theorem d_J_bitCount_11 : decode c_J_bitCount 11 = .ok (.ldc_w 266, 3) := by decide +kernel
theorem d_J_bitCount_14 : decode c_J_bitCount 14 = .ok (.iand, 1) := by decide +kernel
theorem d_J_bitCount_15 : decode c_J_bitCount 15 = .ok (.iload_n 0, 1) := by decide +kernel
theorem d_J_bitCount_16 : decode c_J_bitCount 16 = .ok (.iconst 2, 1) := by decide +kernel
theorem d_J_bitCount_17 : decode c_J_bitCount 17 = .ok (.iushr, 1) := by decide +kernel
theorem d_J_bitCount_18 : decode c_J_bitCount 18 = .ok (.ldc_w 266, 3) := by decide +kernel
theorem d_J_bitCount_21 : decode c_J_bitCount 21 = .ok (.iand, 1) := by decide +kernel
theorem d_J_bitCount_22 : decode c_J_bitCount 22 = .ok (.iadd, 1) := by decide +kernel
theorem d_J_bitCount_23 : decode c_J_bitCount 23 = .ok (.istore_n 0, 1) := by decide +kernel
theorem d_J_bitCount_24 : decode c_J_bitCount 24 = .ok (.iload_n 0, 1) := by decide +kernel
theorem d_J_bitCount_25 : decode c_J_bitCount 25 = .ok (.iload_n 0, 1) := by decide +kernel
theorem d_J_bitCount_26 : decode c_J_bitCount 26 = .ok (.iconst 4, 1) := by decide +kernel
theorem d_J_bitCount_27 : decode c_J_bitCount 27 = .ok (.iushr, 1) := by decide +kernel
theorem d_J_bitCount_28 : decode c_J_bitCount 28 = .ok (.iadd, 1) := by decide +kernel
theorem d_J_bitCount_29 : decode c_J_bitCount 29 = .ok (.ldc_w 267, 3) := by decide +kernel
theorem d_J_bitCount_32 : decode c_J_bitCount 32 = .ok (.iand, 1) := by decide +kernel
theorem d_J_bitCount_33 : decode c_J_bitCount 33 = .ok (.istore_n 0, 1) := by decide +kernel
theorem d_J_bitCount_34 : decode c_J_bitCount 34 = .ok (.iload_n 0, 1) := by decide +kernel
theorem d_J_bitCount_35 : decode c_J_bitCount 35 = .ok (.iload_n 0, 1) := by decide +kernel
theorem d_J_bitCount_36 : decode c_J_bitCount 36 = .ok (.bipush 8, 2) := by decide +kernel
theorem d_J_bitCount_38 : decode c_J_bitCount 38 = .ok (.iushr, 1) := by decide +kernel
theorem d_J_bitCount_39 : decode c_J_bitCount 39 = .ok (.iadd, 1) := by decide +kernel
theorem d_J_bitCount_40 : decode c_J_bitCount 40 = .ok (.istore_n 0, 1) := by decide +kernel
theorem d_J_bitCount_41 : decode c_J_bitCount 41 = .ok (.iload_n 0, 1) := by decide +kernel
theorem d_J_bitCount_42 : decode c_J_bitCount 42 = .ok (.iload_n 0, 1) := by decide +kernel
theorem d_J_bitCount_43 : decode c_J_bitCount 43 = .ok (.bipush 16, 2) := by decide +kernel
theorem d_J_bitCount_45 : decode c_J_bitCount 45 = .ok (.iushr, 1) := by decide +kernel
theorem d_J_bitCount_46 : decode c_J_bitCount 46 = .ok (.iadd, 1) := by decide +kernel
theorem d_J_bitCount_47 : decode c_J_bitCount 47 = .ok (.istore_n 0, 1) := by decide +kernel
theorem d_J_bitCount_48 : decode c_J_bitCount 48 = .ok (.iload_n 0, 1) := by decide +kernel
theorem d_J_bitCount_49 : decode c_J_bitCount 49 = .ok (.bipush 63, 2) := by decide +kernel
theorem d_J_bitCount_51 : decode c_J_bitCount 51 = .ok (.iand, 1) := by decide +kernel
theorem d_J_bitCount_52 : decode c_J_bitCount 52 = .ok (.ireturn, 1) := by decide +kernel
theorem d_T_area_0 : decode c_T_area 0 = .ok (.aload_n 0, 1) := by decide +kernel
theorem d_T_area_1 : decode c_T_area 1 = .ok (.getfield 10, 3) := by decide +kernel
theorem d_T_area_4 : decode c_T_area 4 = .ok (.iload_n 1, 1) := by decide +kernel
theorem d_T_area_5 : decode c_T_area 5 = .ok (.invokevirtual 50, 3) := by decide +kernel
theorem d_T_area_8 : decode c_T_area 8 = .ok (.ifCond .ne 5, 3) := by decide +kernel
theorem d_T_area_11 : decode c_T_area 11 = .ok (.iconst (-1), 1) := by decide +kernel
theorem d_T_area_12 : decode c_T_area 12 = .ok (.ireturn, 1) := by decide +kernel
theorem d_T_area_13 : decode c_T_area 13 = .ok (.iload_n 2, 1) := by decide +kernel
theorem d_T_area_14 : decode c_T_area 14 = .ok (.ifCond .ge 7, 3) := by decide +kernel
theorem d_T_area_17 : decode c_T_area 17 = .ok (.iconst 1, 1) := by decide +kernel
theorem d_T_area_18 : decode c_T_area 18 = .ok (.goto 4, 3) := by decide +kernel
theorem d_T_area_21 : decode c_T_area 21 = .ok (.iconst 0, 1) := by decide +kernel
theorem d_T_area_22 : decode c_T_area 22 = .ok (.istore_n 3, 1) := by decide +kernel
theorem d_T_area_23 : decode c_T_area 23 = .ok (.iload_n 3, 1) := by decide +kernel
theorem d_T_area_24 : decode c_T_area 24 = .ok (.ifCond .eq 8, 3) := by decide +kernel
theorem d_T_area_27 : decode c_T_area 27 = .ok (.iload_n 2, 1) := by decide +kernel
theorem d_T_area_28 : decode c_T_area 28 = .ok (.ineg, 1) := by decide +kernel
theorem d_T_area_29 : decode c_T_area 29 = .ok (.goto 4, 3) := by decide +kernel
theorem d_T_area_32 : decode c_T_area 32 = .ok (.iload_n 2, 1) := by decide +kernel
theorem d_T_area_33 : decode c_T_area 33 = .ok (.istore 4, 2) := by decide +kernel
theorem d_T_area_35 : decode c_T_area 35 = .ok (.iload 4, 2) := by decide +kernel
theorem d_T_area_37 : decode c_T_area 37 = .ok (.invokestatic 64, 3) := by decide +kernel
theorem d_T_area_40 : decode c_T_area 40 = .ok (.ifCond .ne 6, 3) := by decide +kernel
theorem d_T_area_43 : decode c_T_area 43 = .ok (.bipush (-2), 2) := by decide +kernel
theorem d_T_area_45 : decode c_T_area 45 = .ok (.ireturn, 1) := by decide +kernel
theorem d_T_area_46 : decode c_T_area 46 = .ok (.aload_n 0, 1) := by decide +kernel
theorem d_T_area_47 : decode c_T_area 47 = .ok (.aconst_null, 1) := by decide +kernel
theorem d_T_area_48 : decode c_T_area 48 = .ok (.putfield 43, 3) := by decide +kernel
theorem d_T_area_51 : decode c_T_area 51 = .ok (.iload_n 3, 1) := by decide +kernel
theorem d_T_area_52 : decode c_T_area 52 = .ok (.ifCond .eq 16, 3) := by decide +kernel
theorem d_T_area_55 : decode c_T_area 55 = .ok (.aload_n 0, 1) := by decide +kernel
theorem d_T_area_56 : decode c_T_area 56 = .ok (.getfield 10, 3) := by decide +kernel
theorem d_T_area_59 : decode c_T_area 59 = .ok (.iload_n 1, 1) := by decide +kernel
theorem d_T_area_60 : decode c_T_area 60 = .ok (.iload 4, 2) := by decide +kernel
theorem d_T_area_62 : decode c_T_area 62 = .ok (.invokevirtual 67, 3) := by decide +kernel
theorem d_T_area_65 : decode c_T_area 65 = .ok (.goto 13, 3) := by decide +kernel
theorem d_T_area_68 : decode c_T_area 68 = .ok (.aload_n 0, 1) := by decide +kernel
theorem d_T_area_69 : decode c_T_area 69 = .ok (.getfield 10, 3) := by decide +kernel
theorem d_T_area_72 : decode c_T_area 72 = .ok (.iload_n 1, 1) := by decide +kernel
theorem d_T_area_73 : decode c_T_area 73 = .ok (.iload 4, 2) := by decide +kernel
theorem d_T_area_75 : decode c_T_area 75 = .ok (.invokevirtual 70, 3) := by decide +kernel
theorem d_T_area_78 : decode c_T_area 78 = .ok (.aload_n 0, 1) := by decide +kernel
theorem d_T_area_79 : decode c_T_area 79 = .ok (.getfield 10, 3) := by decide +kernel
theorem d_T_area_82 : decode c_T_area 82 = .ok (.iload_n 1, 1) := by decide +kernel
theorem d_T_area_83 : decode c_T_area 83 = .ok (.invokevirtual 73, 3) := by decide +kernel
theorem d_T_area_86 : decode c_T_area 86 = .ok (.ireturn, 1) := by decide +kernel
theorem d_T_nextPlan_0 : decode c_T_nextPlan 0 = .ok (.aload_n 0, 1) := by decide +kernel
theorem d_T_nextPlan_1 : decode c_T_nextPlan 1 = .ok (.getfield 123, 3) := by decide +kernel
theorem d_T_nextPlan_4 : decode c_T_nextPlan 4 = .ok (.aload_n 0, 1) := by decide +kernel
theorem d_T_nextPlan_5 : decode c_T_nextPlan 5 = .ok (.getfield 25, 3) := by decide +kernel
theorem d_T_nextPlan_8 : decode c_T_nextPlan 8 = .ok (.arraylength, 1) := by decide +kernel
theorem d_T_nextPlan_9 : decode c_T_nextPlan 9 = .ok (.if_icmp .lt 8, 3) := by decide +kernel
theorem d_T_nextPlan_12 : decode c_T_nextPlan 12 = .ok (.aload_n 0, 1) := by decide +kernel
theorem d_T_nextPlan_13 : decode c_T_nextPlan 13 = .ok (.getfield 30, 3) := by decide +kernel
theorem d_T_nextPlan_16 : decode c_T_nextPlan 16 = .ok (.areturn, 1) := by decide +kernel
theorem d_T_nextPlan_17 : decode c_T_nextPlan 17 = .ok (.new 23, 3) := by decide +kernel
theorem d_T_nextPlan_20 : decode c_T_nextPlan 20 = .ok (.dup, 1) := by decide +kernel
theorem d_T_nextPlan_21 : decode c_T_nextPlan 21 = .ok (.invokespecial 29, 3) := by decide +kernel
theorem d_T_nextPlan_24 : decode c_T_nextPlan 24 = .ok (.astore_n 1, 1) := by decide +kernel
theorem d_T_nextPlan_25 : decode c_T_nextPlan 25 = .ok (.aload_n 0, 1) := by decide +kernel
theorem d_T_nextPlan_26 : decode c_T_nextPlan 26 = .ok (.getfield 25, 3) := by decide +kernel
theorem d_T_nextPlan_29 : decode c_T_nextPlan 29 = .ok (.aload_n 0, 1) := by decide +kernel
theorem d_T_nextPlan_30 : decode c_T_nextPlan 30 = .ok (.getfield 123, 3) := by decide +kernel
theorem d_T_nextPlan_33 : decode c_T_nextPlan 33 = .ok (.aload_n 1, 1) := by decide +kernel
theorem d_T_nextPlan_34 : decode c_T_nextPlan 34 = .ok (.aastore, 1) := by decide +kernel
theorem d_T_nextPlan_35 : decode c_T_nextPlan 35 = .ok (.aload_n 0, 1) := by decide +kernel
theorem d_T_nextPlan_36 : decode c_T_nextPlan 36 = .ok (.dup, 1) := by decide +kernel
theorem d_T_nextPlan_37 : decode c_T_nextPlan 37 = .ok (.getfield 123, 3) := by decide +kernel
theorem d_T_nextPlan_40 : decode c_T_nextPlan 40 = .ok (.iconst 1, 1) := by decide +kernel
theorem d_T_nextPlan_41 : decode c_T_nextPlan 41 = .ok (.iadd, 1) := by decide +kernel
theorem d_T_nextPlan_42 : decode c_T_nextPlan 42 = .ok (.putfield 123, 3) := by decide +kernel
theorem d_T_nextPlan_45 : decode c_T_nextPlan 45 = .ok (.aload_n 1, 1) := by decide +kernel
theorem d_T_nextPlan_46 : decode c_T_nextPlan 46 = .ok (.areturn, 1) := by decide +kernel
theorem d_T_build_0 : decode c_T_build 0 = .ok (.aload_n 0, 1) := by decide +kernel
theorem d_T_build_1 : decode c_T_build 1 = .ok (.aconst_null, 1) := by decide +kernel
theorem d_T_build_2 : decode c_T_build 2 = .ok (.putfield 43, 3) := by decide +kernel
theorem d_T_build_5 : decode c_T_build 5 = .ok (.iconst 1, 1) := by decide +kernel
theorem d_T_build_6 : decode c_T_build 6 = .ok (.istore_n 1, 1) := by decide +kernel
theorem d_T_build_7 : decode c_T_build 7 = .ok (.iload_n 1, 1) := by decide +kernel
theorem d_T_build_8 : decode c_T_build 8 = .ok (.iconst 4, 1) := by decide +kernel
theorem d_T_build_9 : decode c_T_build 9 = .ok (.if_icmp .gt 25, 3) := by decide +kernel
theorem d_T_build_12 : decode c_T_build 12 = .ok (.aload_n 0, 1) := by decide +kernel
theorem d_T_build_13 : decode c_T_build 13 = .ok (.getfield 10, 3) := by decide +kernel
theorem d_T_build_16 : decode c_T_build 16 = .ok (.iload_n 1, 1) := by decide +kernel
theorem d_T_build_17 : decode c_T_build 17 = .ok (.invokevirtual 77, 3) := by decide +kernel
theorem d_T_build_20 : decode c_T_build 20 = .ok (.bipush 12, 2) := by decide +kernel
theorem d_T_build_22 : decode c_T_build 22 = .ok (.if_icmp .le 6, 3) := by decide +kernel
theorem d_T_build_25 : decode c_T_build 25 = .ok (.bipush (-4), 2) := by decide +kernel
theorem d_T_build_27 : decode c_T_build 27 = .ok (.ireturn, 1) := by decide +kernel
theorem d_T_build_28 : decode c_T_build 28 = .ok (.iinc 1 1, 3) := by decide +kernel
theorem d_T_build_31 : decode c_T_build 31 = .ok (.goto (-24), 3) := by decide +kernel
theorem d_T_build_34 : decode c_T_build 34 = .ok (.aload_n 0, 1) := by decide +kernel
theorem d_T_build_35 : decode c_T_build 35 = .ok (.invokevirtual 80, 3) := by decide +kernel
theorem d_T_build_38 : decode c_T_build 38 = .ok (.astore_n 1, 1) := by decide +kernel
theorem d_T_build_39 : decode c_T_build 39 = .ok (.aload_n 1, 1) := by decide +kernel
theorem d_T_build_40 : decode c_T_build 40 = .ok (.aload_n 0, 1) := by decide +kernel
theorem d_T_build_41 : decode c_T_build 41 = .ok (.getfield 10, 3) := by decide +kernel
theorem d_T_build_44 : decode c_T_build 44 = .ok (.aload_n 0, 1) := by decide +kernel
theorem d_T_build_45 : decode c_T_build 45 = .ok (.getfield 19, 3) := by decide +kernel
theorem d_T_build_48 : decode c_T_build 48 = .ok (.invokevirtual 84, 3) := by decide +kernel
theorem d_T_build_51 : decode c_T_build 51 = .ok (.aload_n 0, 1) := by decide +kernel
theorem d_T_build_52 : decode c_T_build 52 = .ok (.aload_n 1, 1) := by decide +kernel
theorem d_T_build_53 : decode c_T_build 53 = .ok (.putfield 43, 3) := by decide +kernel
theorem d_T_build_56 : decode c_T_build 56 = .ok (.aload_n 1, 1) := by decide +kernel
theorem d_T_build_57 : decode c_T_build 57 = .ok (.getfield 88, 3) := by decide +kernel
theorem d_T_build_60 : decode c_T_build 60 = .ok (.ireturn, 1) := by decide +kernel
theorem d_T_task_0 : decode c_T_task 0 = .ok (.aload_n 0, 1) := by decide +kernel
theorem d_T_task_1 : decode c_T_task 1 = .ok (.getfield 10, 3) := by decide +kernel
theorem d_T_task_4 : decode c_T_task 4 = .ok (.iload_n 1, 1) := by decide +kernel
theorem d_T_task_5 : decode c_T_task 5 = .ok (.invokevirtual 50, 3) := by decide +kernel
theorem d_T_task_8 : decode c_T_task 8 = .ok (.ifCond .ne 5, 3) := by decide +kernel
theorem d_T_task_11 : decode c_T_task 11 = .ok (.iconst (-1), 1) := by decide +kernel
theorem d_T_task_12 : decode c_T_task 12 = .ok (.ireturn, 1) := by decide +kernel
theorem d_T_task_13 : decode c_T_task 13 = .ok (.aload_n 0, 1) := by decide +kernel
theorem d_T_task_14 : decode c_T_task 14 = .ok (.getfield 43, 3) := by decide +kernel
theorem d_T_task_17 : decode c_T_task 17 = .ok (.ifnonnull 6, 3) := by decide +kernel
theorem d_T_task_20 : decode c_T_task 20 = .ok (.bipush (-3), 2) := by decide +kernel
theorem d_T_task_22 : decode c_T_task 22 = .ok (.ireturn, 1) := by decide +kernel
theorem d_T_task_23 : decode c_T_task 23 = .ok (.aload_n 0, 1) := by decide +kernel
theorem d_T_task_24 : decode c_T_task 24 = .ok (.getfield 43, 3) := by decide +kernel
theorem d_T_task_27 : decode c_T_task 27 = .ok (.getfield 92, 3) := by decide +kernel
theorem d_T_task_30 : decode c_T_task 30 = .ok (.iload_n 1, 1) := by decide +kernel
theorem d_T_task_31 : decode c_T_task 31 = .ok (.iaload, 1) := by decide +kernel
theorem d_T_task_32 : decode c_T_task 32 = .ok (.ireturn, 1) := by decide +kernel
theorem d_T_order_0 : decode c_T_order 0 = .ok (.aload_n 0, 1) := by decide +kernel
theorem d_T_order_1 : decode c_T_order 1 = .ok (.getfield 43, 3) := by decide +kernel
theorem d_T_order_4 : decode c_T_order 4 = .ok (.ifnonnull 6, 3) := by decide +kernel
theorem d_T_order_7 : decode c_T_order 7 = .ok (.bipush (-3), 2) := by decide +kernel
theorem d_T_order_9 : decode c_T_order 9 = .ok (.ireturn, 1) := by decide +kernel
theorem d_T_order_10 : decode c_T_order 10 = .ok (.aload_n 0, 1) := by decide +kernel
theorem d_T_order_11 : decode c_T_order 11 = .ok (.getfield 43, 3) := by decide +kernel
theorem d_T_order_14 : decode c_T_order 14 = .ok (.iload_n 1, 1) := by decide +kernel
theorem d_T_order_15 : decode c_T_order 15 = .ok (.invokevirtual 96, 3) := by decide +kernel
theorem d_T_order_18 : decode c_T_order 18 = .ok (.ifCond .ne 5, 3) := by decide +kernel
theorem d_T_order_21 : decode c_T_order 21 = .ok (.iconst (-1), 1) := by decide +kernel
theorem d_T_order_22 : decode c_T_order 22 = .ok (.ireturn, 1) := by decide +kernel
theorem d_T_order_23 : decode c_T_order 23 = .ok (.aload_n 0, 1) := by decide +kernel
theorem d_T_order_24 : decode c_T_order 24 = .ok (.getfield 43, 3) := by decide +kernel
theorem d_T_order_27 : decode c_T_order 27 = .ok (.iload_n 1, 1) := by decide +kernel
theorem d_T_order_28 : decode c_T_order 28 = .ok (.iload_n 2, 1) := by decide +kernel
theorem d_T_order_29 : decode c_T_order 29 = .ok (.invokevirtual 99, 3) := by decide +kernel
theorem d_T_order_32 : decode c_T_order 32 = .ok (.ireturn, 1) := by decide +kernel
theorem d_T_rank_0 : decode c_T_rank 0 = .ok (.aload_n 0, 1) := by decide +kernel
theorem d_T_rank_1 : decode c_T_rank 1 = .ok (.getfield 43, 3) := by decide +kernel
theorem d_T_rank_4 : decode c_T_rank 4 = .ok (.ifnonnull 6, 3) := by decide +kernel
theorem d_T_rank_7 : decode c_T_rank 7 = .ok (.bipush (-3), 2) := by decide +kernel
theorem d_T_rank_9 : decode c_T_rank 9 = .ok (.ireturn, 1) := by decide +kernel
theorem d_T_rank_10 : decode c_T_rank 10 = .ok (.aload_n 0, 1) := by decide +kernel
theorem d_T_rank_11 : decode c_T_rank 11 = .ok (.getfield 43, 3) := by decide +kernel
theorem d_T_rank_14 : decode c_T_rank 14 = .ok (.iload_n 1, 1) := by decide +kernel
theorem d_T_rank_15 : decode c_T_rank 15 = .ok (.invokevirtual 96, 3) := by decide +kernel
theorem d_T_rank_18 : decode c_T_rank 18 = .ok (.ifCond .ne 5, 3) := by decide +kernel
theorem d_T_rank_21 : decode c_T_rank 21 = .ok (.iconst (-1), 1) := by decide +kernel
theorem d_T_rank_22 : decode c_T_rank 22 = .ok (.ireturn, 1) := by decide +kernel
theorem d_T_rank_23 : decode c_T_rank 23 = .ok (.aload_n 0, 1) := by decide +kernel
theorem d_T_rank_24 : decode c_T_rank 24 = .ok (.getfield 43, 3) := by decide +kernel
theorem d_T_rank_27 : decode c_T_rank 27 = .ok (.getfield 103, 3) := by decide +kernel
theorem d_T_rank_30 : decode c_T_rank 30 = .ok (.iload_n 1, 1) := by decide +kernel
theorem d_T_rank_31 : decode c_T_rank 31 = .ok (.iaload, 1) := by decide +kernel
theorem d_T_rank_32 : decode c_T_rank 32 = .ok (.ireturn, 1) := by decide +kernel
theorem d_T_buffer_0 : decode c_T_buffer 0 = .ok (.iload_n 1, 1) := by decide +kernel
theorem d_T_buffer_1 : decode c_T_buffer 1 = .ok (.invokestatic 64, 3) := by decide +kernel
theorem d_T_buffer_4 : decode c_T_buffer 4 = .ok (.ifCond .ne 6, 3) := by decide +kernel
theorem d_T_buffer_7 : decode c_T_buffer 7 = .ok (.bipush (-2), 2) := by decide +kernel
theorem d_T_buffer_9 : decode c_T_buffer 9 = .ok (.ireturn, 1) := by decide +kernel
theorem d_T_buffer_10 : decode c_T_buffer 10 = .ok (.aload_n 0, 1) := by decide +kernel
theorem d_T_buffer_11 : decode c_T_buffer 11 = .ok (.getfield 43, 3) := by decide +kernel
theorem d_T_buffer_14 : decode c_T_buffer 14 = .ok (.ifnonnull 6, 3) := by decide +kernel
theorem d_T_buffer_17 : decode c_T_buffer 17 = .ok (.bipush (-3), 2) := by decide +kernel
theorem d_T_buffer_19 : decode c_T_buffer 19 = .ok (.ireturn, 1) := by decide +kernel
theorem d_T_buffer_20 : decode c_T_buffer 20 = .ok (.aload_n 0, 1) := by decide +kernel
theorem d_T_buffer_21 : decode c_T_buffer 21 = .ok (.getfield 43, 3) := by decide +kernel
theorem d_T_buffer_24 : decode c_T_buffer 24 = .ok (.aload_n 0, 1) := by decide +kernel
theorem d_T_buffer_25 : decode c_T_buffer 25 = .ok (.getfield 10, 3) := by decide +kernel
theorem d_T_buffer_28 : decode c_T_buffer 28 = .ok (.iload_n 1, 1) := by decide +kernel
theorem d_T_buffer_29 : decode c_T_buffer 29 = .ok (.invokevirtual 106, 3) := by decide +kernel
theorem d_T_buffer_32 : decode c_T_buffer 32 = .ok (.ifCond .eq 7, 3) := by decide +kernel
theorem d_T_buffer_35 : decode c_T_buffer 35 = .ok (.iconst 1, 1) := by decide +kernel
theorem d_T_buffer_36 : decode c_T_buffer 36 = .ok (.goto 4, 3) := by decide +kernel
theorem d_T_buffer_39 : decode c_T_buffer 39 = .ok (.iconst 0, 1) := by decide +kernel
theorem d_T_buffer_40 : decode c_T_buffer 40 = .ok (.ireturn, 1) := by decide +kernel
theorem d_T_table_0 : decode c_T_table 0 = .ok (.iload_n 1, 1) := by decide +kernel
theorem d_T_table_1 : decode c_T_table 1 = .ok (.ifCond .ge 6, 3) := by decide +kernel
theorem d_T_table_4 : decode c_T_table 4 = .ok (.bipush (-2), 2) := by decide +kernel
theorem d_T_table_6 : decode c_T_table 6 = .ok (.ireturn, 1) := by decide +kernel
theorem d_T_table_7 : decode c_T_table 7 = .ok (.aload_n 0, 1) := by decide +kernel
theorem d_T_table_8 : decode c_T_table 8 = .ok (.getfield 43, 3) := by decide +kernel
theorem d_T_table_11 : decode c_T_table 11 = .ok (.ifnonnull 6, 3) := by decide +kernel
theorem d_T_table_14 : decode c_T_table 14 = .ok (.bipush (-3), 2) := by decide +kernel
theorem d_T_table_16 : decode c_T_table 16 = .ok (.ireturn, 1) := by decide +kernel
theorem d_T_table_17 : decode c_T_table 17 = .ok (.aload_n 0, 1) := by decide +kernel
theorem d_T_table_18 : decode c_T_table 18 = .ok (.getfield 43, 3) := by decide +kernel
theorem d_T_table_21 : decode c_T_table 21 = .ok (.iload_n 1, 1) := by decide +kernel
theorem d_T_table_22 : decode c_T_table 22 = .ok (.iload_n 2, 1) := by decide +kernel
theorem d_T_table_23 : decode c_T_table 23 = .ok (.invokevirtual 110, 3) := by decide +kernel
theorem d_T_table_26 : decode c_T_table 26 = .ok (.ireturn, 1) := by decide +kernel
theorem d_T_ring_0 : decode c_T_ring 0 = .ok (.aload_n 0, 1) := by decide +kernel
theorem d_T_ring_1 : decode c_T_ring 1 = .ok (.getfield 19, 3) := by decide +kernel
theorem d_T_ring_4 : decode c_T_ring 4 = .ok (.iload_n 1, 1) := by decide +kernel
theorem d_T_ring_5 : decode c_T_ring 5 = .ok (.invokevirtual 113, 3) := by decide +kernel
theorem d_T_ring_8 : decode c_T_ring 8 = .ok (.ireturn, 1) := by decide +kernel
theorem d_T_cross_0 : decode c_T_cross 0 = .ok (.iload_n 1, 1) := by decide +kernel
theorem d_T_cross_1 : decode c_T_cross 1 = .ok (.invokestatic 64, 3) := by decide +kernel
theorem d_T_cross_4 : decode c_T_cross 4 = .ok (.ifCond .ne 6, 3) := by decide +kernel
theorem d_T_cross_7 : decode c_T_cross 7 = .ok (.bipush (-2), 2) := by decide +kernel
theorem d_T_cross_9 : decode c_T_cross 9 = .ok (.ireturn, 1) := by decide +kernel
theorem d_T_cross_10 : decode c_T_cross 10 = .ok (.aload_n 0, 1) := by decide +kernel
theorem d_T_cross_11 : decode c_T_cross 11 = .ok (.getfield 43, 3) := by decide +kernel
theorem d_T_cross_14 : decode c_T_cross 14 = .ok (.ifnonnull 6, 3) := by decide +kernel
theorem d_T_cross_17 : decode c_T_cross 17 = .ok (.bipush (-3), 2) := by decide +kernel
theorem d_T_cross_19 : decode c_T_cross 19 = .ok (.ireturn, 1) := by decide +kernel
theorem d_T_cross_20 : decode c_T_cross 20 = .ok (.aload_n 0, 1) := by decide +kernel
theorem d_T_cross_21 : decode c_T_cross 21 = .ok (.getfield 10, 3) := by decide +kernel
theorem d_T_cross_24 : decode c_T_cross 24 = .ok (.iload_n 1, 1) := by decide +kernel
theorem d_T_cross_25 : decode c_T_cross 25 = .ok (.invokevirtual 116, 3) := by decide +kernel
theorem d_T_cross_28 : decode c_T_cross 28 = .ok (.ireturn, 1) := by decide +kernel
theorem d_T_budget_0 : decode c_T_budget 0 = .ok (.aload_n 0, 1) := by decide +kernel
theorem d_T_budget_1 : decode c_T_budget 1 = .ok (.getfield 43, 3) := by decide +kernel
theorem d_T_budget_4 : decode c_T_budget 4 = .ok (.ifnonnull 6, 3) := by decide +kernel
theorem d_T_budget_7 : decode c_T_budget 7 = .ok (.bipush (-3), 2) := by decide +kernel
theorem d_T_budget_9 : decode c_T_budget 9 = .ok (.ireturn, 1) := by decide +kernel
theorem d_T_budget_10 : decode c_T_budget 10 = .ok (.aload_n 0, 1) := by decide +kernel
theorem d_T_budget_11 : decode c_T_budget 11 = .ok (.getfield 43, 3) := by decide +kernel
theorem d_T_budget_14 : decode c_T_budget 14 = .ok (.iload_n 1, 1) := by decide +kernel
theorem d_T_budget_15 : decode c_T_budget 15 = .ok (.invokevirtual 96, 3) := by decide +kernel
theorem d_T_budget_18 : decode c_T_budget 18 = .ok (.ifCond .ne 5, 3) := by decide +kernel
theorem d_T_budget_21 : decode c_T_budget 21 = .ok (.iconst (-1), 1) := by decide +kernel
theorem d_T_budget_22 : decode c_T_budget 22 = .ok (.ireturn, 1) := by decide +kernel
theorem d_T_budget_23 : decode c_T_budget 23 = .ok (.lload_n 2, 1) := by decide +kernel
theorem d_T_budget_24 : decode c_T_budget 24 = .ok (.lconst 0, 1) := by decide +kernel
theorem d_T_budget_25 : decode c_T_budget 25 = .ok (.lcmp, 1) := by decide +kernel
theorem d_T_budget_26 : decode c_T_budget 26 = .ok (.ifCond .ge 6, 3) := by decide +kernel
theorem d_T_budget_29 : decode c_T_budget 29 = .ok (.bipush (-2), 2) := by decide +kernel
theorem d_T_budget_31 : decode c_T_budget 31 = .ok (.ireturn, 1) := by decide +kernel
theorem d_T_budget_32 : decode c_T_budget 32 = .ok (.aload_n 0, 1) := by decide +kernel
theorem d_T_budget_33 : decode c_T_budget 33 = .ok (.getfield 43, 3) := by decide +kernel
theorem d_T_budget_36 : decode c_T_budget 36 = .ok (.iload_n 1, 1) := by decide +kernel
theorem d_T_budget_37 : decode c_T_budget 37 = .ok (.aload_n 0, 1) := by decide +kernel
theorem d_T_budget_38 : decode c_T_budget 38 = .ok (.getfield 10, 3) := by decide +kernel
theorem d_T_budget_41 : decode c_T_budget 41 = .ok (.invokevirtual 119, 3) := by decide +kernel
theorem d_T_budget_44 : decode c_T_budget 44 = .ok (.i2l, 1) := by decide +kernel
theorem d_T_budget_45 : decode c_T_budget 45 = .ok (.lload_n 2, 1) := by decide +kernel
theorem d_T_budget_46 : decode c_T_budget 46 = .ok (.lcmp, 1) := by decide +kernel
theorem d_T_budget_47 : decode c_T_budget 47 = .ok (.ifCond .gt 7, 3) := by decide +kernel
theorem d_T_budget_50 : decode c_T_budget 50 = .ok (.iconst 1, 1) := by decide +kernel
theorem d_T_budget_51 : decode c_T_budget 51 = .ok (.goto 4, 3) := by decide +kernel
theorem d_T_budget_54 : decode c_T_budget 54 = .ok (.iconst 0, 1) := by decide +kernel
theorem d_T_budget_55 : decode c_T_budget 55 = .ok (.ireturn, 1) := by decide +kernel
theorem d_T_differ_0 : decode c_T_differ 0 = .ok (.aload_n 0, 1) := by decide +kernel
theorem d_T_differ_1 : decode c_T_differ 1 = .ok (.getfield 43, 3) := by decide +kernel
theorem d_T_differ_4 : decode c_T_differ 4 = .ok (.ifnonnull 6, 3) := by decide +kernel
theorem d_T_differ_7 : decode c_T_differ 7 = .ok (.bipush (-3), 2) := by decide +kernel
theorem d_T_differ_9 : decode c_T_differ 9 = .ok (.ireturn, 1) := by decide +kernel
theorem d_T_differ_10 : decode c_T_differ 10 = .ok (.iload_n 1, 1) := by decide +kernel
theorem d_T_differ_11 : decode c_T_differ 11 = .ok (.iconst 1, 1) := by decide +kernel
theorem d_T_differ_12 : decode c_T_differ 12 = .ok (.aload_n 0, 1) := by decide +kernel
theorem d_T_differ_13 : decode c_T_differ 13 = .ok (.getfield 123, 3) := by decide +kernel
theorem d_T_differ_16 : decode c_T_differ 16 = .ok (.invokestatic 34, 3) := by decide +kernel
theorem d_T_differ_19 : decode c_T_differ 19 = .ok (.ifCond .ne 5, 3) := by decide +kernel
theorem d_T_differ_22 : decode c_T_differ 22 = .ok (.iconst (-1), 1) := by decide +kernel
theorem d_T_differ_23 : decode c_T_differ 23 = .ok (.ireturn, 1) := by decide +kernel
theorem d_T_differ_24 : decode c_T_differ 24 = .ok (.aload_n 0, 1) := by decide +kernel
theorem d_T_differ_25 : decode c_T_differ 25 = .ok (.getfield 25, 3) := by decide +kernel
theorem d_T_differ_28 : decode c_T_differ 28 = .ok (.iload_n 1, 1) := by decide +kernel
theorem d_T_differ_29 : decode c_T_differ 29 = .ok (.iconst 1, 1) := by decide +kernel
theorem d_T_differ_30 : decode c_T_differ 30 = .ok (.isub, 1) := by decide +kernel
theorem d_T_differ_31 : decode c_T_differ 31 = .ok (.aaload, 1) := by decide +kernel
theorem d_T_differ_32 : decode c_T_differ 32 = .ok (.astore_n 2, 1) := by decide +kernel
theorem d_T_differ_33 : decode c_T_differ 33 = .ok (.aload_n 2, 1) := by decide +kernel
theorem d_T_differ_34 : decode c_T_differ 34 = .ok (.ifnonnull 5, 3) := by decide +kernel
theorem d_T_differ_37 : decode c_T_differ 37 = .ok (.iconst (-1), 1) := by decide +kernel
theorem d_T_differ_38 : decode c_T_differ 38 = .ok (.ireturn, 1) := by decide +kernel
theorem d_T_differ_39 : decode c_T_differ 39 = .ok (.aload_n 0, 1) := by decide +kernel
theorem d_T_differ_40 : decode c_T_differ 40 = .ok (.getfield 43, 3) := by decide +kernel
theorem d_T_differ_43 : decode c_T_differ 43 = .ok (.aload_n 2, 1) := by decide +kernel
theorem d_T_differ_44 : decode c_T_differ 44 = .ok (.invokevirtual 126, 3) := by decide +kernel
theorem d_T_differ_47 : decode c_T_differ 47 = .ok (.ireturn, 1) := by decide +kernel
