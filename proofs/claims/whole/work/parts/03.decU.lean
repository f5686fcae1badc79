theorem d_U_init_0 : decode c_U_init 0 = .ok (.aload_n 0, 1) := by decide +kernel
theorem d_U_init_1 : decode c_U_init 1 = .ok (.invokespecial 3, 3) := by decide +kernel
theorem d_U_init_4 : decode c_U_init 4 = .ok (.aload_n 0, 1) := by decide +kernel
theorem d_U_init_5 : decode c_U_init 5 = .ok (.bipush 25, 2) := by decide +kernel
theorem d_U_init_7 : decode c_U_init 7 = .ok (.newarray .int, 2) := by decide +kernel
theorem d_U_init_9 : decode c_U_init 9 = .ok (.putfield 9, 3) := by decide +kernel
theorem d_U_init_12 : decode c_U_init 12 = .ok (.aload_n 0, 1) := by decide +kernel
theorem d_U_init_13 : decode c_U_init 13 = .ok (.bipush 25, 2) := by decide +kernel
theorem d_U_init_15 : decode c_U_init 15 = .ok (.newarray .int, 2) := by decide +kernel
theorem d_U_init_17 : decode c_U_init 17 = .ok (.putfield 15, 3) := by decide +kernel
theorem d_U_init_20 : decode c_U_init 20 = .ok (.aload_n 0, 1) := by decide +kernel
theorem d_U_init_21 : decode c_U_init 21 = .ok (.bipush 25, 2) := by decide +kernel
theorem d_U_init_23 : decode c_U_init 23 = .ok (.newarray .int, 2) := by decide +kernel
theorem d_U_init_25 : decode c_U_init 25 = .ok (.putfield 18, 3) := by decide +kernel
theorem d_U_init_28 : decode c_U_init 28 = .ok (.aload_n 0, 1) := by decide +kernel
theorem d_U_init_29 : decode c_U_init 29 = .ok (.bipush 25, 2) := by decide +kernel
theorem d_U_init_31 : decode c_U_init 31 = .ok (.newarray .int, 2) := by decide +kernel
theorem d_U_init_33 : decode c_U_init 33 = .ok (.putfield 21, 3) := by decide +kernel
theorem d_U_init_36 : decode c_U_init 36 = .ok (.aload_n 0, 1) := by decide +kernel
theorem d_U_init_37 : decode c_U_init 37 = .ok (.bipush 25, 2) := by decide +kernel
theorem d_U_init_39 : decode c_U_init 39 = .ok (.newarray .int, 2) := by decide +kernel
theorem d_U_init_41 : decode c_U_init 41 = .ok (.putfield 24, 3) := by decide +kernel
theorem d_U_init_44 : decode c_U_init 44 = .ok (.return_, 1) := by decide +kernel
theorem d_G_init_0 : decode c_G_init 0 = .ok (.aload_n 0, 1) := by decide +kernel
theorem d_G_init_1 : decode c_G_init 1 = .ok (.invokespecial 3, 3) := by decide +kernel
theorem d_G_init_4 : decode c_G_init 4 = .ok (.aload_n 0, 1) := by decide +kernel
theorem d_G_init_5 : decode c_G_init 5 = .ok (.bipush 25, 2) := by decide +kernel
theorem d_G_init_7 : decode c_G_init 7 = .ok (.newarray .int, 2) := by decide +kernel
theorem d_G_init_9 : decode c_G_init 9 = .ok (.putfield 9, 3) := by decide +kernel
theorem d_G_init_12 : decode c_G_init 12 = .ok (.aload_n 0, 1) := by decide +kernel
theorem d_G_init_13 : decode c_G_init 13 = .ok (.bipush 25, 2) := by decide +kernel
theorem d_G_init_15 : decode c_G_init 15 = .ok (.newarray .int, 2) := by decide +kernel
theorem d_G_init_17 : decode c_G_init 17 = .ok (.putfield 15, 3) := by decide +kernel
theorem d_G_init_20 : decode c_G_init 20 = .ok (.aload_n 0, 1) := by decide +kernel
theorem d_G_init_21 : decode c_G_init 21 = .ok (.bipush 24, 2) := by decide +kernel
theorem d_G_init_23 : decode c_G_init 23 = .ok (.newarray .int, 2) := by decide +kernel
theorem d_G_init_25 : decode c_G_init 25 = .ok (.putfield 18, 3) := by decide +kernel
theorem d_G_init_28 : decode c_G_init 28 = .ok (.aload_n 0, 1) := by decide +kernel
theorem d_G_init_29 : decode c_G_init 29 = .ok (.bipush 24, 2) := by decide +kernel
theorem d_G_init_31 : decode c_G_init 31 = .ok (.newarray .int, 2) := by decide +kernel
theorem d_G_init_33 : decode c_G_init 33 = .ok (.putfield 21, 3) := by decide +kernel
theorem d_G_init_36 : decode c_G_init 36 = .ok (.return_, 1) := by decide +kernel
theorem d_U_isFull_0 : decode c_U_isFull 0 = .ok (.aload_n 0, 1) := by decide +kernel
theorem d_U_isFull_1 : decode c_U_isFull 1 = .ok (.getfield 27, 3) := by decide +kernel
theorem d_U_isFull_4 : decode c_U_isFull 4 = .ok (.bipush 24, 2) := by decide +kernel
theorem d_U_isFull_6 : decode c_U_isFull 6 = .ok (.if_icmp .lt 7, 3) := by decide +kernel
theorem d_U_isFull_9 : decode c_U_isFull 9 = .ok (.iconst 1, 1) := by decide +kernel
theorem d_U_isFull_10 : decode c_U_isFull 10 = .ok (.goto 4, 3) := by decide +kernel
theorem d_U_isFull_13 : decode c_U_isFull 13 = .ok (.iconst 0, 1) := by decide +kernel
theorem d_U_isFull_14 : decode c_U_isFull 14 = .ok (.ireturn, 1) := by decide +kernel
theorem d_U_add_0 : decode c_U_add 0 = .ok (.aload_n 0, 1) := by decide +kernel
theorem d_U_add_1 : decode c_U_add 1 = .ok (.dup, 1) := by decide +kernel
theorem d_U_add_2 : decode c_U_add 2 = .ok (.getfield 27, 3) := by decide +kernel
theorem d_U_add_5 : decode c_U_add 5 = .ok (.iconst 1, 1) := by decide +kernel
theorem d_U_add_6 : decode c_U_add 6 = .ok (.iadd, 1) := by decide +kernel
theorem d_U_add_7 : decode c_U_add 7 = .ok (.putfield 27, 3) := by decide +kernel
theorem d_U_add_10 : decode c_U_add 10 = .ok (.aload_n 0, 1) := by decide +kernel
theorem d_U_add_11 : decode c_U_add 11 = .ok (.getfield 9, 3) := by decide +kernel
theorem d_U_add_14 : decode c_U_add 14 = .ok (.aload_n 0, 1) := by decide +kernel
theorem d_U_add_15 : decode c_U_add 15 = .ok (.getfield 27, 3) := by decide +kernel
theorem d_U_add_18 : decode c_U_add 18 = .ok (.iload_n 1, 1) := by decide +kernel
theorem d_U_add_19 : decode c_U_add 19 = .ok (.iastore, 1) := by decide +kernel
theorem d_U_add_20 : decode c_U_add 20 = .ok (.aload_n 0, 1) := by decide +kernel
theorem d_U_add_21 : decode c_U_add 21 = .ok (.getfield 15, 3) := by decide +kernel
theorem d_U_add_24 : decode c_U_add 24 = .ok (.aload_n 0, 1) := by decide +kernel
theorem d_U_add_25 : decode c_U_add 25 = .ok (.getfield 27, 3) := by decide +kernel
theorem d_U_add_28 : decode c_U_add 28 = .ok (.iload_n 2, 1) := by decide +kernel
theorem d_U_add_29 : decode c_U_add 29 = .ok (.iastore, 1) := by decide +kernel
theorem d_U_add_30 : decode c_U_add 30 = .ok (.aload_n 0, 1) := by decide +kernel
theorem d_U_add_31 : decode c_U_add 31 = .ok (.getfield 18, 3) := by decide +kernel
theorem d_U_add_34 : decode c_U_add 34 = .ok (.aload_n 0, 1) := by decide +kernel
theorem d_U_add_35 : decode c_U_add 35 = .ok (.getfield 27, 3) := by decide +kernel
theorem d_U_add_38 : decode c_U_add 38 = .ok (.iload_n 3, 1) := by decide +kernel
theorem d_U_add_39 : decode c_U_add 39 = .ok (.iastore, 1) := by decide +kernel
theorem d_U_add_40 : decode c_U_add 40 = .ok (.aload_n 0, 1) := by decide +kernel
theorem d_U_add_41 : decode c_U_add 41 = .ok (.getfield 27, 3) := by decide +kernel
theorem d_U_add_44 : decode c_U_add 44 = .ok (.ireturn, 1) := by decide +kernel
theorem d_U_has_0 : decode c_U_has 0 = .ok (.iload_n 1, 1) := by decide +kernel
theorem d_U_has_1 : decode c_U_has 1 = .ok (.iconst 1, 1) := by decide +kernel
theorem d_U_has_2 : decode c_U_has 2 = .ok (.aload_n 0, 1) := by decide +kernel
theorem d_U_has_3 : decode c_U_has 3 = .ok (.getfield 27, 3) := by decide +kernel
theorem d_U_has_6 : decode c_U_has 6 = .ok (.invokestatic 31, 3) := by decide +kernel
theorem d_U_has_9 : decode c_U_has 9 = .ok (.ireturn, 1) := by decide +kernel
theorem d_G_wouldCloseRing_0 : decode c_G_wouldCloseRing 0 = .ok (.iload_n 1, 1) := by decide +kernel
theorem d_G_wouldCloseRing_1 : decode c_G_wouldCloseRing 1 = .ok (.iload_n 2, 1) := by decide +kernel
theorem d_G_wouldCloseRing_2 : decode c_G_wouldCloseRing 2 = .ok (.if_icmp .eq 16, 3) := by decide +kernel
theorem d_G_wouldCloseRing_5 : decode c_G_wouldCloseRing 5 = .ok (.aload_n 0, 1) := by decide +kernel
theorem d_G_wouldCloseRing_6 : decode c_G_wouldCloseRing 6 = .ok (.getfield 15, 3) := by decide +kernel
theorem d_G_wouldCloseRing_9 : decode c_G_wouldCloseRing 9 = .ok (.iload_n 1, 1) := by decide +kernel
theorem d_G_wouldCloseRing_10 : decode c_G_wouldCloseRing 10 = .ok (.iaload, 1) := by decide +kernel
theorem d_G_wouldCloseRing_11 : decode c_G_wouldCloseRing 11 = .ok (.iload_n 2, 1) := by decide +kernel
theorem d_G_wouldCloseRing_12 : decode c_G_wouldCloseRing 12 = .ok (.invokestatic 24, 3) := by decide +kernel
theorem d_G_wouldCloseRing_15 : decode c_G_wouldCloseRing 15 = .ok (.ifCond .eq 7, 3) := by decide +kernel
theorem d_G_wouldCloseRing_18 : decode c_G_wouldCloseRing 18 = .ok (.iconst 1, 1) := by decide +kernel
theorem d_G_wouldCloseRing_19 : decode c_G_wouldCloseRing 19 = .ok (.goto 4, 3) := by decide +kernel
theorem d_G_wouldCloseRing_22 : decode c_G_wouldCloseRing 22 = .ok (.iconst 0, 1) := by decide +kernel
theorem d_G_wouldCloseRing_23 : decode c_G_wouldCloseRing 23 = .ok (.ireturn, 1) := by decide +kernel
theorem d_G_toldBeforeAny_0 : decode c_G_toldBeforeAny 0 = .ok (.iconst 0, 1) := by decide +kernel
theorem d_G_toldBeforeAny_1 : decode c_G_toldBeforeAny 1 = .ok (.istore_n 2, 1) := by decide +kernel
theorem d_G_toldBeforeAny_2 : decode c_G_toldBeforeAny 2 = .ok (.iconst 1, 1) := by decide +kernel
theorem d_G_toldBeforeAny_3 : decode c_G_toldBeforeAny 3 = .ok (.istore_n 3, 1) := by decide +kernel
theorem d_G_toldBeforeAny_4 : decode c_G_toldBeforeAny 4 = .ok (.iload_n 3, 1) := by decide +kernel
theorem d_G_toldBeforeAny_5 : decode c_G_toldBeforeAny 5 = .ok (.bipush 24, 2) := by decide +kernel
theorem d_G_toldBeforeAny_7 : decode c_G_toldBeforeAny 7 = .ok (.if_icmp .gt 26, 3) := by decide +kernel
theorem d_G_toldBeforeAny_10 : decode c_G_toldBeforeAny 10 = .ok (.iload_n 1, 1) := by decide +kernel
theorem d_G_toldBeforeAny_11 : decode c_G_toldBeforeAny 11 = .ok (.iload_n 3, 1) := by decide +kernel
theorem d_G_toldBeforeAny_12 : decode c_G_toldBeforeAny 12 = .ok (.invokestatic 24, 3) := by decide +kernel
theorem d_G_toldBeforeAny_15 : decode c_G_toldBeforeAny 15 = .ok (.ifCond .eq 12, 3) := by decide +kernel
theorem d_G_toldBeforeAny_18 : decode c_G_toldBeforeAny 18 = .ok (.iload_n 2, 1) := by decide +kernel
theorem d_G_toldBeforeAny_19 : decode c_G_toldBeforeAny 19 = .ok (.aload_n 0, 1) := by decide +kernel
theorem d_G_toldBeforeAny_20 : decode c_G_toldBeforeAny 20 = .ok (.getfield 9, 3) := by decide +kernel
theorem d_G_toldBeforeAny_23 : decode c_G_toldBeforeAny 23 = .ok (.iload_n 3, 1) := by decide +kernel
theorem d_G_toldBeforeAny_24 : decode c_G_toldBeforeAny 24 = .ok (.iaload, 1) := by decide +kernel
theorem d_G_toldBeforeAny_25 : decode c_G_toldBeforeAny 25 = .ok (.ior, 1) := by decide +kernel
theorem d_G_toldBeforeAny_26 : decode c_G_toldBeforeAny 26 = .ok (.istore_n 2, 1) := by decide +kernel
theorem d_G_toldBeforeAny_27 : decode c_G_toldBeforeAny 27 = .ok (.iinc 3 1, 3) := by decide +kernel
theorem d_G_toldBeforeAny_30 : decode c_G_toldBeforeAny 30 = .ok (.goto (-26), 3) := by decide +kernel
theorem d_G_toldBeforeAny_33 : decode c_G_toldBeforeAny 33 = .ok (.iload_n 2, 1) := by decide +kernel
theorem d_G_toldBeforeAny_34 : decode c_G_toldBeforeAny 34 = .ok (.ireturn, 1) := by decide +kernel
theorem d_G_layersFrom_0 : decode c_G_layersFrom 0 = .ok (.aload_n 0, 1) := by decide +kernel
theorem d_G_layersFrom_1 : decode c_G_layersFrom 1 = .ok (.getfield 18, 3) := by decide +kernel
theorem d_G_layersFrom_4 : decode c_G_layersFrom 4 = .ok (.iconst 0, 1) := by decide +kernel
theorem d_G_layersFrom_5 : decode c_G_layersFrom 5 = .ok (.iconst 1, 1) := by decide +kernel
theorem d_G_layersFrom_6 : decode c_G_layersFrom 6 = .ok (.iload_n 1, 1) := by decide +kernel
theorem d_G_layersFrom_7 : decode c_G_layersFrom 7 = .ok (.ishl, 1) := by decide +kernel
theorem d_G_layersFrom_8 : decode c_G_layersFrom 8 = .ok (.iastore, 1) := by decide +kernel
theorem d_G_layersFrom_9 : decode c_G_layersFrom 9 = .ok (.iconst 0, 1) := by decide +kernel
theorem d_G_layersFrom_10 : decode c_G_layersFrom 10 = .ok (.istore_n 3, 1) := by decide +kernel
theorem d_G_layersFrom_11 : decode c_G_layersFrom 11 = .ok (.iload_n 3, 1) := by decide +kernel
theorem d_G_layersFrom_12 : decode c_G_layersFrom 12 = .ok (.aload_n 0, 1) := by decide +kernel
theorem d_G_layersFrom_13 : decode c_G_layersFrom 13 = .ok (.getfield 18, 3) := by decide +kernel
theorem d_G_layersFrom_16 : decode c_G_layersFrom 16 = .ok (.arraylength, 1) := by decide +kernel
theorem d_G_layersFrom_17 : decode c_G_layersFrom 17 = .ok (.iconst 1, 1) := by decide +kernel
theorem d_G_layersFrom_18 : decode c_G_layersFrom 18 = .ok (.isub, 1) := by decide +kernel
theorem d_G_layersFrom_19 : decode c_G_layersFrom 19 = .ok (.if_icmp .ge 40, 3) := by decide +kernel
theorem d_G_layersFrom_22 : decode c_G_layersFrom 22 = .ok (.aload_n 0, 1) := by decide +kernel
theorem d_G_layersFrom_23 : decode c_G_layersFrom 23 = .ok (.getfield 18, 3) := by decide +kernel
theorem d_G_layersFrom_26 : decode c_G_layersFrom 26 = .ok (.iload_n 3, 1) := by decide +kernel
theorem d_G_layersFrom_27 : decode c_G_layersFrom 27 = .ok (.iaload, 1) := by decide +kernel
theorem d_G_layersFrom_28 : decode c_G_layersFrom 28 = .ok (.iload_n 2, 1) := by decide +kernel
theorem d_G_layersFrom_29 : decode c_G_layersFrom 29 = .ok (.invokestatic 24, 3) := by decide +kernel
theorem d_G_layersFrom_32 : decode c_G_layersFrom 32 = .ok (.ifCond .ne 27, 3) := by decide +kernel
theorem d_G_layersFrom_35 : decode c_G_layersFrom 35 = .ok (.aload_n 0, 1) := by decide +kernel
theorem d_G_layersFrom_36 : decode c_G_layersFrom 36 = .ok (.getfield 18, 3) := by decide +kernel
theorem d_G_layersFrom_39 : decode c_G_layersFrom 39 = .ok (.iload_n 3, 1) := by decide +kernel
theorem d_G_layersFrom_40 : decode c_G_layersFrom 40 = .ok (.iconst 1, 1) := by decide +kernel
theorem d_G_layersFrom_41 : decode c_G_layersFrom 41 = .ok (.iadd, 1) := by decide +kernel
theorem d_G_layersFrom_42 : decode c_G_layersFrom 42 = .ok (.aload_n 0, 1) := by decide +kernel
theorem d_G_layersFrom_43 : decode c_G_layersFrom 43 = .ok (.aload_n 0, 1) := by decide +kernel
theorem d_G_layersFrom_44 : decode c_G_layersFrom 44 = .ok (.getfield 18, 3) := by decide +kernel
theorem d_G_layersFrom_47 : decode c_G_layersFrom 47 = .ok (.iload_n 3, 1) := by decide +kernel
theorem d_G_layersFrom_48 : decode c_G_layersFrom 48 = .ok (.iaload, 1) := by decide +kernel
theorem d_G_layersFrom_49 : decode c_G_layersFrom 49 = .ok (.invokevirtual 39, 3) := by decide +kernel
theorem d_G_layersFrom_52 : decode c_G_layersFrom 52 = .ok (.iastore, 1) := by decide +kernel
theorem d_G_layersFrom_53 : decode c_G_layersFrom 53 = .ok (.iinc 3 1, 3) := by decide +kernel
theorem d_G_layersFrom_56 : decode c_G_layersFrom 56 = .ok (.goto (-45), 3) := by decide +kernel
theorem d_G_layersFrom_59 : decode c_G_layersFrom 59 = .ok (.iload_n 3, 1) := by decide +kernel
theorem d_G_layersFrom_60 : decode c_G_layersFrom 60 = .ok (.ireturn, 1) := by decide +kernel
theorem d_G_leastBehind_0 : decode c_G_leastBehind 0 = .ok (.iconst 1, 1) := by decide +kernel
theorem d_G_leastBehind_1 : decode c_G_leastBehind 1 = .ok (.istore_n 3, 1) := by decide +kernel
theorem d_G_leastBehind_2 : decode c_G_leastBehind 2 = .ok (.iload_n 3, 1) := by decide +kernel
theorem d_G_leastBehind_3 : decode c_G_leastBehind 3 = .ok (.bipush 24, 2) := by decide +kernel
theorem d_G_leastBehind_5 : decode c_G_leastBehind 5 = .ok (.if_icmp .gt 32, 3) := by decide +kernel
theorem d_G_leastBehind_8 : decode c_G_leastBehind 8 = .ok (.iload_n 2, 1) := by decide +kernel
theorem d_G_leastBehind_9 : decode c_G_leastBehind 9 = .ok (.iload_n 3, 1) := by decide +kernel
theorem d_G_leastBehind_10 : decode c_G_leastBehind 10 = .ok (.invokestatic 24, 3) := by decide +kernel
theorem d_G_leastBehind_13 : decode c_G_leastBehind 13 = .ok (.ifCond .eq 18, 3) := by decide +kernel
theorem d_G_leastBehind_16 : decode c_G_leastBehind 16 = .ok (.aload_n 0, 1) := by decide +kernel
theorem d_G_leastBehind_17 : decode c_G_leastBehind 17 = .ok (.getfield 9, 3) := by decide +kernel
theorem d_G_leastBehind_20 : decode c_G_leastBehind 20 = .ok (.iload_n 3, 1) := by decide +kernel
theorem d_G_leastBehind_21 : decode c_G_leastBehind 21 = .ok (.iaload, 1) := by decide +kernel
theorem d_G_leastBehind_22 : decode c_G_leastBehind 22 = .ok (.iload_n 1, 1) := by decide +kernel
theorem d_G_leastBehind_23 : decode c_G_leastBehind 23 = .ok (.invokestatic 24, 3) := by decide +kernel
theorem d_G_leastBehind_26 : decode c_G_leastBehind 26 = .ok (.ifCond .eq 5, 3) := by decide +kernel
theorem d_G_leastBehind_29 : decode c_G_leastBehind 29 = .ok (.iload_n 3, 1) := by decide +kernel
theorem d_G_leastBehind_30 : decode c_G_leastBehind 30 = .ok (.ireturn, 1) := by decide +kernel
theorem d_G_leastBehind_31 : decode c_G_leastBehind 31 = .ok (.iinc 3 1, 3) := by decide +kernel
theorem d_G_leastBehind_34 : decode c_G_leastBehind 34 = .ok (.goto (-32), 3) := by decide +kernel
theorem d_G_leastBehind_37 : decode c_G_leastBehind 37 = .ok (.iconst 0, 1) := by decide +kernel
theorem d_G_leastBehind_38 : decode c_G_leastBehind 38 = .ok (.ireturn, 1) := by decide +kernel
theorem d_G_tellRing_0 : decode c_G_tellRing 0 = .ok (.aload_n 0, 1) := by decide +kernel
theorem d_G_tellRing_1 : decode c_G_tellRing 1 = .ok (.iload_n 1, 1) := by decide +kernel
theorem d_G_tellRing_2 : decode c_G_tellRing 2 = .ok (.iload_n 2, 1) := by decide +kernel
theorem d_G_tellRing_3 : decode c_G_tellRing 3 = .ok (.invokevirtual 28, 3) := by decide +kernel
theorem d_G_tellRing_6 : decode c_G_tellRing 6 = .ok (.istore_n 3, 1) := by decide +kernel
theorem d_G_tellRing_7 : decode c_G_tellRing 7 = .ok (.aload_n 0, 1) := by decide +kernel
theorem d_G_tellRing_8 : decode c_G_tellRing 8 = .ok (.getfield 21, 3) := by decide +kernel
theorem d_G_tellRing_11 : decode c_G_tellRing 11 = .ok (.iconst 0, 1) := by decide +kernel
theorem d_G_tellRing_12 : decode c_G_tellRing 12 = .ok (.iload_n 2, 1) := by decide +kernel
theorem d_G_tellRing_13 : decode c_G_tellRing 13 = .ok (.iastore, 1) := by decide +kernel
theorem d_G_tellRing_14 : decode c_G_tellRing 14 = .ok (.iconst 1, 1) := by decide +kernel
theorem d_G_tellRing_15 : decode c_G_tellRing 15 = .ok (.istore 4, 2) := by decide +kernel
theorem d_G_tellRing_17 : decode c_G_tellRing 17 = .ok (.iload 4, 2) := by decide +kernel
theorem d_G_tellRing_19 : decode c_G_tellRing 19 = .ok (.iload_n 3, 1) := by decide +kernel
theorem d_G_tellRing_20 : decode c_G_tellRing 20 = .ok (.if_icmp .gt 38, 3) := by decide +kernel
theorem d_G_tellRing_23 : decode c_G_tellRing 23 = .ok (.aload_n 0, 1) := by decide +kernel
theorem d_G_tellRing_24 : decode c_G_tellRing 24 = .ok (.getfield 21, 3) := by decide +kernel
theorem d_G_tellRing_27 : decode c_G_tellRing 27 = .ok (.iload 4, 2) := by decide +kernel
theorem d_G_tellRing_29 : decode c_G_tellRing 29 = .ok (.aload_n 0, 1) := by decide +kernel
theorem d_G_tellRing_30 : decode c_G_tellRing 30 = .ok (.aload_n 0, 1) := by decide +kernel
theorem d_G_tellRing_31 : decode c_G_tellRing 31 = .ok (.getfield 21, 3) := by decide +kernel
theorem d_G_tellRing_34 : decode c_G_tellRing 34 = .ok (.iload 4, 2) := by decide +kernel
theorem d_G_tellRing_36 : decode c_G_tellRing 36 = .ok (.iconst 1, 1) := by decide +kernel
theorem d_G_tellRing_37 : decode c_G_tellRing 37 = .ok (.isub, 1) := by decide +kernel
theorem d_G_tellRing_38 : decode c_G_tellRing 38 = .ok (.iaload, 1) := by decide +kernel
theorem d_G_tellRing_39 : decode c_G_tellRing 39 = .ok (.aload_n 0, 1) := by decide +kernel
theorem d_G_tellRing_40 : decode c_G_tellRing 40 = .ok (.getfield 18, 3) := by decide +kernel
theorem d_G_tellRing_43 : decode c_G_tellRing 43 = .ok (.iload_n 3, 1) := by decide +kernel
theorem d_G_tellRing_44 : decode c_G_tellRing 44 = .ok (.iload 4, 2) := by decide +kernel
theorem d_G_tellRing_46 : decode c_G_tellRing 46 = .ok (.isub, 1) := by decide +kernel
theorem d_G_tellRing_47 : decode c_G_tellRing 47 = .ok (.iaload, 1) := by decide +kernel
theorem d_G_tellRing_48 : decode c_G_tellRing 48 = .ok (.invokevirtual 32, 3) := by decide +kernel
theorem d_G_tellRing_51 : decode c_G_tellRing 51 = .ok (.iastore, 1) := by decide +kernel
theorem d_G_tellRing_52 : decode c_G_tellRing 52 = .ok (.iinc 4 1, 3) := by decide +kernel
theorem d_G_tellRing_55 : decode c_G_tellRing 55 = .ok (.goto (-38), 3) := by decide +kernel
theorem d_G_tellRing_58 : decode c_G_tellRing 58 = .ok (.aload_n 0, 1) := by decide +kernel
theorem d_G_tellRing_59 : decode c_G_tellRing 59 = .ok (.iload_n 3, 1) := by decide +kernel
theorem d_G_tellRing_60 : decode c_G_tellRing 60 = .ok (.iconst 1, 1) := by decide +kernel
theorem d_G_tellRing_61 : decode c_G_tellRing 61 = .ok (.iadd, 1) := by decide +kernel
theorem d_G_tellRing_62 : decode c_G_tellRing 62 = .ok (.putfield 35, 3) := by decide +kernel
theorem d_G_tellRing_65 : decode c_G_tellRing 65 = .ok (.return_, 1) := by decide +kernel
theorem d_G_add_0 : decode c_G_add 0 = .ok (.aload_n 0, 1) := by decide +kernel
theorem d_G_add_1 : decode c_G_add 1 = .ok (.getfield 9, 3) := by decide +kernel
theorem d_G_add_4 : decode c_G_add 4 = .ok (.iload_n 2, 1) := by decide +kernel
theorem d_G_add_5 : decode c_G_add 5 = .ok (.dup2, 1) := by decide +kernel
theorem d_G_add_6 : decode c_G_add 6 = .ok (.iaload, 1) := by decide +kernel
theorem d_G_add_7 : decode c_G_add 7 = .ok (.iconst 1, 1) := by decide +kernel
theorem d_G_add_8 : decode c_G_add 8 = .ok (.iload_n 1, 1) := by decide +kernel
theorem d_G_add_9 : decode c_G_add 9 = .ok (.ishl, 1) := by decide +kernel
theorem d_G_add_10 : decode c_G_add 10 = .ok (.ior, 1) := by decide +kernel
theorem d_G_add_11 : decode c_G_add 11 = .ok (.iastore, 1) := by decide +kernel
theorem d_G_add_12 : decode c_G_add 12 = .ok (.aload_n 0, 1) := by decide +kernel
theorem d_G_add_13 : decode c_G_add 13 = .ok (.getfield 15, 3) := by decide +kernel
theorem d_G_add_16 : decode c_G_add 16 = .ok (.iload_n 1, 1) := by decide +kernel
theorem d_G_add_17 : decode c_G_add 17 = .ok (.iaload, 1) := by decide +kernel
theorem d_G_add_18 : decode c_G_add 18 = .ok (.iconst 1, 1) := by decide +kernel
theorem d_G_add_19 : decode c_G_add 19 = .ok (.iload_n 1, 1) := by decide +kernel
theorem d_G_add_20 : decode c_G_add 20 = .ok (.ishl, 1) := by decide +kernel
theorem d_G_add_21 : decode c_G_add 21 = .ok (.ior, 1) := by decide +kernel
theorem d_G_add_22 : decode c_G_add 22 = .ok (.istore_n 3, 1) := by decide +kernel
theorem d_G_add_23 : decode c_G_add 23 = .ok (.iconst 1, 1) := by decide +kernel
theorem d_G_add_24 : decode c_G_add 24 = .ok (.istore 4, 2) := by decide +kernel
theorem d_G_add_26 : decode c_G_add 26 = .ok (.iload 4, 2) := by decide +kernel
theorem d_G_add_28 : decode c_G_add 28 = .ok (.bipush 24, 2) := by decide +kernel
theorem d_G_add_30 : decode c_G_add 30 = .ok (.if_icmp .gt 40, 3) := by decide +kernel
theorem d_G_add_33 : decode c_G_add 33 = .ok (.iload 4, 2) := by decide +kernel
theorem d_G_add_35 : decode c_G_add 35 = .ok (.iload_n 2, 1) := by decide +kernel
theorem d_G_add_36 : decode c_G_add 36 = .ok (.if_icmp .eq 17, 3) := by decide +kernel
theorem d_G_add_39 : decode c_G_add 39 = .ok (.aload_n 0, 1) := by decide +kernel
theorem d_G_add_40 : decode c_G_add 40 = .ok (.getfield 15, 3) := by decide +kernel
theorem d_G_add_43 : decode c_G_add 43 = .ok (.iload 4, 2) := by decide +kernel
theorem d_G_add_45 : decode c_G_add 45 = .ok (.iaload, 1) := by decide +kernel
theorem d_G_add_46 : decode c_G_add 46 = .ok (.iload_n 2, 1) := by decide +kernel
theorem d_G_add_47 : decode c_G_add 47 = .ok (.invokestatic 24, 3) := by decide +kernel
theorem d_G_add_50 : decode c_G_add 50 = .ok (.ifCond .eq 14, 3) := by decide +kernel
theorem d_G_add_53 : decode c_G_add 53 = .ok (.aload_n 0, 1) := by decide +kernel
theorem d_G_add_54 : decode c_G_add 54 = .ok (.getfield 15, 3) := by decide +kernel
theorem d_G_add_57 : decode c_G_add 57 = .ok (.iload 4, 2) := by decide +kernel
theorem d_G_add_59 : decode c_G_add 59 = .ok (.dup2, 1) := by decide +kernel
theorem d_G_add_60 : decode c_G_add 60 = .ok (.iaload, 1) := by decide +kernel
theorem d_G_add_61 : decode c_G_add 61 = .ok (.iload_n 3, 1) := by decide +kernel
theorem d_G_add_62 : decode c_G_add 62 = .ok (.ior, 1) := by decide +kernel
theorem d_G_add_63 : decode c_G_add 63 = .ok (.iastore, 1) := by decide +kernel
theorem d_G_add_64 : decode c_G_add 64 = .ok (.iinc 4 1, 3) := by decide +kernel
theorem d_G_add_67 : decode c_G_add 67 = .ok (.goto (-41), 3) := by decide +kernel
theorem d_G_add_70 : decode c_G_add 70 = .ok (.return_, 1) := by decide +kernel
theorem d_U_addWrite_0 : decode c_U_addWrite 0 = .ok (.aload_n 0, 1) := by decide +kernel
theorem d_U_addWrite_1 : decode c_U_addWrite 1 = .ok (.getfield 24, 3) := by decide +kernel
theorem d_U_addWrite_4 : decode c_U_addWrite 4 = .ok (.iload_n 1, 1) := by decide +kernel
theorem d_U_addWrite_5 : decode c_U_addWrite 5 = .ok (.dup2, 1) := by decide +kernel
theorem d_U_addWrite_6 : decode c_U_addWrite 6 = .ok (.iaload, 1) := by decide +kernel
theorem d_U_addWrite_7 : decode c_U_addWrite 7 = .ok (.iconst 1, 1) := by decide +kernel
theorem d_U_addWrite_8 : decode c_U_addWrite 8 = .ok (.iload_n 2, 1) := by decide +kernel
theorem d_U_addWrite_9 : decode c_U_addWrite 9 = .ok (.ishl, 1) := by decide +kernel
theorem d_U_addWrite_10 : decode c_U_addWrite 10 = .ok (.ior, 1) := by decide +kernel
theorem d_U_addWrite_11 : decode c_U_addWrite 11 = .ok (.iastore, 1) := by decide +kernel
theorem d_U_addWrite_12 : decode c_U_addWrite 12 = .ok (.return_, 1) := by decide +kernel
theorem d_U_addRead_0 : decode c_U_addRead 0 = .ok (.aload_n 0, 1) := by decide +kernel
theorem d_U_addRead_1 : decode c_U_addRead 1 = .ok (.getfield 21, 3) := by decide +kernel
theorem d_U_addRead_4 : decode c_U_addRead 4 = .ok (.iload_n 1, 1) := by decide +kernel
theorem d_U_addRead_5 : decode c_U_addRead 5 = .ok (.dup2, 1) := by decide +kernel
theorem d_U_addRead_6 : decode c_U_addRead 6 = .ok (.iaload, 1) := by decide +kernel
theorem d_U_addRead_7 : decode c_U_addRead 7 = .ok (.iconst 1, 1) := by decide +kernel
theorem d_U_addRead_8 : decode c_U_addRead 8 = .ok (.iload_n 2, 1) := by decide +kernel
theorem d_U_addRead_9 : decode c_U_addRead 9 = .ok (.ishl, 1) := by decide +kernel
theorem d_U_addRead_10 : decode c_U_addRead 10 = .ok (.ior, 1) := by decide +kernel
theorem d_U_addRead_11 : decode c_U_addRead 11 = .ok (.iastore, 1) := by decide +kernel
theorem d_U_addRead_12 : decode c_U_addRead 12 = .ok (.return_, 1) := by decide +kernel
theorem d_U_dataUsedBy_0 : decode c_U_dataUsedBy 0 = .ok (.aload_n 0, 1) := by decide +kernel
theorem d_U_dataUsedBy_1 : decode c_U_dataUsedBy 1 = .ok (.getfield 21, 3) := by decide +kernel
theorem d_U_dataUsedBy_4 : decode c_U_dataUsedBy 4 = .ok (.iload_n 1, 1) := by decide +kernel
theorem d_U_dataUsedBy_5 : decode c_U_dataUsedBy 5 = .ok (.iaload, 1) := by decide +kernel
theorem d_U_dataUsedBy_6 : decode c_U_dataUsedBy 6 = .ok (.aload_n 0, 1) := by decide +kernel
theorem d_U_dataUsedBy_7 : decode c_U_dataUsedBy 7 = .ok (.getfield 24, 3) := by decide +kernel
theorem d_U_dataUsedBy_10 : decode c_U_dataUsedBy 10 = .ok (.iload_n 1, 1) := by decide +kernel
theorem d_U_dataUsedBy_11 : decode c_U_dataUsedBy 11 = .ok (.iaload, 1) := by decide +kernel
theorem d_U_dataUsedBy_12 : decode c_U_dataUsedBy 12 = .ok (.ior, 1) := by decide +kernel
theorem d_U_dataUsedBy_13 : decode c_U_dataUsedBy 13 = .ok (.invokestatic 35, 3) := by decide +kernel
theorem d_U_dataUsedBy_16 : decode c_U_dataUsedBy 16 = .ok (.ireturn, 1) := by decide +kernel
theorem d_U_opensTask_0 : decode c_U_opensTask 0 = .ok (.aload_n 0, 1) := by decide +kernel
theorem d_U_opensTask_1 : decode c_U_opensTask 1 = .ok (.getfield 9, 3) := by decide +kernel
theorem d_U_opensTask_4 : decode c_U_opensTask 4 = .ok (.iload_n 1, 1) := by decide +kernel
theorem d_U_opensTask_5 : decode c_U_opensTask 5 = .ok (.iaload, 1) := by decide +kernel
theorem d_U_opensTask_6 : decode c_U_opensTask 6 = .ok (.ifCond .ne 5, 3) := by decide +kernel
theorem d_U_opensTask_9 : decode c_U_opensTask 9 = .ok (.iconst 1, 1) := by decide +kernel
theorem d_U_opensTask_10 : decode c_U_opensTask 10 = .ok (.ireturn, 1) := by decide +kernel
theorem d_U_opensTask_11 : decode c_U_opensTask 11 = .ok (.iconst 1, 1) := by decide +kernel
theorem d_U_opensTask_12 : decode c_U_opensTask 12 = .ok (.istore_n 2, 1) := by decide +kernel
theorem d_U_opensTask_13 : decode c_U_opensTask 13 = .ok (.iload_n 2, 1) := by decide +kernel
theorem d_U_opensTask_14 : decode c_U_opensTask 14 = .ok (.iload_n 1, 1) := by decide +kernel
theorem d_U_opensTask_15 : decode c_U_opensTask 15 = .ok (.if_icmp .ge 41, 3) := by decide +kernel
theorem d_U_opensTask_18 : decode c_U_opensTask 18 = .ok (.aload_n 0, 1) := by decide +kernel
theorem d_U_opensTask_19 : decode c_U_opensTask 19 = .ok (.getfield 15, 3) := by decide +kernel
theorem d_U_opensTask_22 : decode c_U_opensTask 22 = .ok (.iload_n 2, 1) := by decide +kernel
theorem d_U_opensTask_23 : decode c_U_opensTask 23 = .ok (.iaload, 1) := by decide +kernel
theorem d_U_opensTask_24 : decode c_U_opensTask 24 = .ok (.aload_n 0, 1) := by decide +kernel
theorem d_U_opensTask_25 : decode c_U_opensTask 25 = .ok (.getfield 15, 3) := by decide +kernel
theorem d_U_opensTask_28 : decode c_U_opensTask 28 = .ok (.iload_n 1, 1) := by decide +kernel
theorem d_U_opensTask_29 : decode c_U_opensTask 29 = .ok (.iaload, 1) := by decide +kernel
theorem d_U_opensTask_30 : decode c_U_opensTask 30 = .ok (.if_icmp .ne 20, 3) := by decide +kernel
theorem d_U_opensTask_33 : decode c_U_opensTask 33 = .ok (.aload_n 0, 1) := by decide +kernel
theorem d_U_opensTask_34 : decode c_U_opensTask 34 = .ok (.getfield 9, 3) := by decide +kernel
theorem d_U_opensTask_37 : decode c_U_opensTask 37 = .ok (.iload_n 2, 1) := by decide +kernel
theorem d_U_opensTask_38 : decode c_U_opensTask 38 = .ok (.iaload, 1) := by decide +kernel
theorem d_U_opensTask_39 : decode c_U_opensTask 39 = .ok (.aload_n 0, 1) := by decide +kernel
theorem d_U_opensTask_40 : decode c_U_opensTask 40 = .ok (.getfield 9, 3) := by decide +kernel
theorem d_U_opensTask_43 : decode c_U_opensTask 43 = .ok (.iload_n 1, 1) := by decide +kernel
theorem d_U_opensTask_44 : decode c_U_opensTask 44 = .ok (.iaload, 1) := by decide +kernel
theorem d_U_opensTask_45 : decode c_U_opensTask 45 = .ok (.if_icmp .ne 5, 3) := by decide +kernel
theorem d_U_opensTask_48 : decode c_U_opensTask 48 = .ok (.iconst 0, 1) := by decide +kernel
theorem d_U_opensTask_49 : decode c_U_opensTask 49 = .ok (.ireturn, 1) := by decide +kernel
theorem d_U_opensTask_50 : decode c_U_opensTask 50 = .ok (.iinc 2 1, 3) := by decide +kernel
theorem d_U_opensTask_53 : decode c_U_opensTask 53 = .ok (.goto (-40), 3) := by decide +kernel
theorem d_U_opensTask_56 : decode c_U_opensTask 56 = .ok (.iconst 1, 1) := by decide +kernel
theorem d_U_opensTask_57 : decode c_U_opensTask 57 = .ok (.ireturn, 1) := by decide +kernel
theorem d_U_tasksOn_0 : decode c_U_tasksOn 0 = .ok (.iconst 0, 1) := by decide +kernel
theorem d_U_tasksOn_1 : decode c_U_tasksOn 1 = .ok (.istore_n 2, 1) := by decide +kernel
theorem d_U_tasksOn_2 : decode c_U_tasksOn 2 = .ok (.iconst 1, 1) := by decide +kernel
theorem d_U_tasksOn_3 : decode c_U_tasksOn 3 = .ok (.istore_n 3, 1) := by decide +kernel
theorem d_U_tasksOn_4 : decode c_U_tasksOn 4 = .ok (.iload_n 3, 1) := by decide +kernel
theorem d_U_tasksOn_5 : decode c_U_tasksOn 5 = .ok (.aload_n 0, 1) := by decide +kernel
theorem d_U_tasksOn_6 : decode c_U_tasksOn 6 = .ok (.getfield 27, 3) := by decide +kernel
theorem d_U_tasksOn_9 : decode c_U_tasksOn 9 = .ok (.if_icmp .gt 30, 3) := by decide +kernel
theorem d_U_tasksOn_12 : decode c_U_tasksOn 12 = .ok (.aload_n 0, 1) := by decide +kernel
theorem d_U_tasksOn_13 : decode c_U_tasksOn 13 = .ok (.getfield 15, 3) := by decide +kernel
theorem d_U_tasksOn_16 : decode c_U_tasksOn 16 = .ok (.iload_n 3, 1) := by decide +kernel
theorem d_U_tasksOn_17 : decode c_U_tasksOn 17 = .ok (.iaload, 1) := by decide +kernel
theorem d_U_tasksOn_18 : decode c_U_tasksOn 18 = .ok (.iload_n 1, 1) := by decide +kernel
theorem d_U_tasksOn_19 : decode c_U_tasksOn 19 = .ok (.if_icmp .ne 14, 3) := by decide +kernel
theorem d_U_tasksOn_22 : decode c_U_tasksOn 22 = .ok (.aload_n 0, 1) := by decide +kernel
theorem d_U_tasksOn_23 : decode c_U_tasksOn 23 = .ok (.iload_n 3, 1) := by decide +kernel
theorem d_U_tasksOn_24 : decode c_U_tasksOn 24 = .ok (.invokevirtual 41, 3) := by decide +kernel
theorem d_U_tasksOn_27 : decode c_U_tasksOn 27 = .ok (.ifCond .eq 6, 3) := by decide +kernel
theorem d_U_tasksOn_30 : decode c_U_tasksOn 30 = .ok (.iinc 2 1, 3) := by decide +kernel
theorem d_U_tasksOn_33 : decode c_U_tasksOn 33 = .ok (.iinc 3 1, 3) := by decide +kernel
theorem d_U_tasksOn_36 : decode c_U_tasksOn 36 = .ok (.goto (-32), 3) := by decide +kernel
theorem d_U_tasksOn_39 : decode c_U_tasksOn 39 = .ok (.iload_n 2, 1) := by decide +kernel
theorem d_U_tasksOn_40 : decode c_U_tasksOn 40 = .ok (.ireturn, 1) := by decide +kernel
theorem d_U_group_0 : decode c_U_group 0 = .ok (.iconst 0, 1) := by decide +kernel
theorem d_U_group_1 : decode c_U_group 1 = .ok (.istore_n 3, 1) := by decide +kernel
theorem d_U_group_2 : decode c_U_group 2 = .ok (.iconst 1, 1) := by decide +kernel
theorem d_U_group_3 : decode c_U_group 3 = .ok (.istore 4, 2) := by decide +kernel
theorem d_U_group_5 : decode c_U_group 5 = .ok (.iload 4, 2) := by decide +kernel
theorem d_U_group_7 : decode c_U_group 7 = .ok (.aload_n 0, 1) := by decide +kernel
theorem d_U_group_8 : decode c_U_group 8 = .ok (.getfield 27, 3) := by decide +kernel
theorem d_U_group_11 : decode c_U_group 11 = .ok (.if_icmp .gt 38, 3) := by decide +kernel
theorem d_U_group_14 : decode c_U_group 14 = .ok (.aload_n 0, 1) := by decide +kernel
theorem d_U_group_15 : decode c_U_group 15 = .ok (.getfield 15, 3) := by decide +kernel
theorem d_U_group_18 : decode c_U_group 18 = .ok (.iload 4, 2) := by decide +kernel
theorem d_U_group_20 : decode c_U_group 20 = .ok (.iaload, 1) := by decide +kernel
theorem d_U_group_21 : decode c_U_group 21 = .ok (.iload_n 1, 1) := by decide +kernel
theorem d_U_group_22 : decode c_U_group 22 = .ok (.if_icmp .ne 21, 3) := by decide +kernel
theorem d_U_group_25 : decode c_U_group 25 = .ok (.aload_n 0, 1) := by decide +kernel
theorem d_U_group_26 : decode c_U_group 26 = .ok (.getfield 9, 3) := by decide +kernel
theorem d_U_group_29 : decode c_U_group 29 = .ok (.iload 4, 2) := by decide +kernel
theorem d_U_group_31 : decode c_U_group 31 = .ok (.iaload, 1) := by decide +kernel
theorem d_U_group_32 : decode c_U_group 32 = .ok (.iload_n 2, 1) := by decide +kernel
theorem d_U_group_33 : decode c_U_group 33 = .ok (.if_icmp .ne 10, 3) := by decide +kernel
theorem d_U_group_36 : decode c_U_group 36 = .ok (.iload_n 3, 1) := by decide +kernel
theorem d_U_group_37 : decode c_U_group 37 = .ok (.iconst 1, 1) := by decide +kernel
theorem d_U_group_38 : decode c_U_group 38 = .ok (.iload 4, 2) := by decide +kernel
theorem d_U_group_40 : decode c_U_group 40 = .ok (.ishl, 1) := by decide +kernel
theorem d_U_group_41 : decode c_U_group 41 = .ok (.ior, 1) := by decide +kernel
theorem d_U_group_42 : decode c_U_group 42 = .ok (.istore_n 3, 1) := by decide +kernel
theorem d_U_group_43 : decode c_U_group 43 = .ok (.iinc 4 1, 3) := by decide +kernel
theorem d_U_group_46 : decode c_U_group 46 = .ok (.goto (-41), 3) := by decide +kernel
theorem d_U_group_49 : decode c_U_group 49 = .ok (.iload_n 3, 1) := by decide +kernel
theorem d_U_group_50 : decode c_U_group 50 = .ok (.ireturn, 1) := by decide +kernel
theorem d_G_leastFree_0 : decode c_G_leastFree 0 = .ok (.iconst 1, 1) := by decide +kernel
theorem d_G_leastFree_1 : decode c_G_leastFree 1 = .ok (.istore_n 2, 1) := by decide +kernel
theorem d_G_leastFree_2 : decode c_G_leastFree 2 = .ok (.iload_n 2, 1) := by decide +kernel
theorem d_G_leastFree_3 : decode c_G_leastFree 3 = .ok (.bipush 24, 2) := by decide +kernel
theorem d_G_leastFree_5 : decode c_G_leastFree 5 = .ok (.if_icmp .gt 30, 3) := by decide +kernel
theorem d_G_leastFree_8 : decode c_G_leastFree 8 = .ok (.iload_n 1, 1) := by decide +kernel
theorem d_G_leastFree_9 : decode c_G_leastFree 9 = .ok (.iload_n 2, 1) := by decide +kernel
theorem d_G_leastFree_10 : decode c_G_leastFree 10 = .ok (.invokestatic 24, 3) := by decide +kernel
theorem d_G_leastFree_13 : decode c_G_leastFree 13 = .ok (.ifCond .eq 16, 3) := by decide +kernel
theorem d_G_leastFree_16 : decode c_G_leastFree 16 = .ok (.aload_n 0, 1) := by decide +kernel
theorem d_G_leastFree_17 : decode c_G_leastFree 17 = .ok (.getfield 15, 3) := by decide +kernel
theorem d_G_leastFree_20 : decode c_G_leastFree 20 = .ok (.iload_n 2, 1) := by decide +kernel
theorem d_G_leastFree_21 : decode c_G_leastFree 21 = .ok (.iaload, 1) := by decide +kernel
theorem d_G_leastFree_22 : decode c_G_leastFree 22 = .ok (.iload_n 1, 1) := by decide +kernel
theorem d_G_leastFree_23 : decode c_G_leastFree 23 = .ok (.iand, 1) := by decide +kernel
theorem d_G_leastFree_24 : decode c_G_leastFree 24 = .ok (.ifCond .ne 5, 3) := by decide +kernel
theorem d_G_leastFree_27 : decode c_G_leastFree 27 = .ok (.iload_n 2, 1) := by decide +kernel
theorem d_G_leastFree_28 : decode c_G_leastFree 28 = .ok (.ireturn, 1) := by decide +kernel
theorem d_G_leastFree_29 : decode c_G_leastFree 29 = .ok (.iinc 2 1, 3) := by decide +kernel
theorem d_G_leastFree_32 : decode c_G_leastFree 32 = .ok (.goto (-30), 3) := by decide +kernel
theorem d_G_leastFree_35 : decode c_G_leastFree 35 = .ok (.iconst 0, 1) := by decide +kernel
theorem d_G_leastFree_36 : decode c_G_leastFree 36 = .ok (.ireturn, 1) := by decide +kernel
theorem d_U_periodAbove_0 : decode c_U_periodAbove 0 = .ok (.iconst 0, 1) := by decide +kernel
theorem d_U_periodAbove_1 : decode c_U_periodAbove 1 = .ok (.istore_n 3, 1) := by decide +kernel
theorem d_U_periodAbove_2 : decode c_U_periodAbove 2 = .ok (.iconst 1, 1) := by decide +kernel
theorem d_U_periodAbove_3 : decode c_U_periodAbove 3 = .ok (.istore 4, 2) := by decide +kernel
theorem d_U_periodAbove_5 : decode c_U_periodAbove 5 = .ok (.iload 4, 2) := by decide +kernel
theorem d_U_periodAbove_7 : decode c_U_periodAbove 7 = .ok (.aload_n 0, 1) := by decide +kernel
theorem d_U_periodAbove_8 : decode c_U_periodAbove 8 = .ok (.getfield 27, 3) := by decide +kernel
theorem d_U_periodAbove_11 : decode c_U_periodAbove 11 = .ok (.if_icmp .gt 54, 3) := by decide +kernel
theorem d_U_periodAbove_14 : decode c_U_periodAbove 14 = .ok (.aload_n 0, 1) := by decide +kernel
theorem d_U_periodAbove_15 : decode c_U_periodAbove 15 = .ok (.getfield 15, 3) := by decide +kernel
theorem d_U_periodAbove_18 : decode c_U_periodAbove 18 = .ok (.iload 4, 2) := by decide +kernel
theorem d_U_periodAbove_20 : decode c_U_periodAbove 20 = .ok (.iaload, 1) := by decide +kernel
theorem d_U_periodAbove_21 : decode c_U_periodAbove 21 = .ok (.iload_n 1, 1) := by decide +kernel
theorem d_U_periodAbove_22 : decode c_U_periodAbove 22 = .ok (.if_icmp .ne 37, 3) := by decide +kernel
theorem d_U_periodAbove_25 : decode c_U_periodAbove 25 = .ok (.aload_n 0, 1) := by decide +kernel
theorem d_U_periodAbove_26 : decode c_U_periodAbove 26 = .ok (.getfield 9, 3) := by decide +kernel
theorem d_U_periodAbove_29 : decode c_U_periodAbove 29 = .ok (.iload 4, 2) := by decide +kernel
theorem d_U_periodAbove_31 : decode c_U_periodAbove 31 = .ok (.iaload, 1) := by decide +kernel
theorem d_U_periodAbove_32 : decode c_U_periodAbove 32 = .ok (.iload_n 2, 1) := by decide +kernel
theorem d_U_periodAbove_33 : decode c_U_periodAbove 33 = .ok (.if_icmp .le 26, 3) := by decide +kernel
theorem d_U_periodAbove_36 : decode c_U_periodAbove 36 = .ok (.iload_n 3, 1) := by decide +kernel
theorem d_U_periodAbove_37 : decode c_U_periodAbove 37 = .ok (.ifCond .eq 14, 3) := by decide +kernel
theorem d_U_periodAbove_40 : decode c_U_periodAbove 40 = .ok (.aload_n 0, 1) := by decide +kernel
theorem d_U_periodAbove_41 : decode c_U_periodAbove 41 = .ok (.getfield 9, 3) := by decide +kernel
theorem d_U_periodAbove_44 : decode c_U_periodAbove 44 = .ok (.iload 4, 2) := by decide +kernel
theorem d_U_periodAbove_46 : decode c_U_periodAbove 46 = .ok (.iaload, 1) := by decide +kernel
theorem d_U_periodAbove_47 : decode c_U_periodAbove 47 = .ok (.iload_n 3, 1) := by decide +kernel
theorem d_U_periodAbove_48 : decode c_U_periodAbove 48 = .ok (.if_icmp .ge 11, 3) := by decide +kernel
theorem d_U_periodAbove_51 : decode c_U_periodAbove 51 = .ok (.aload_n 0, 1) := by decide +kernel
theorem d_U_periodAbove_52 : decode c_U_periodAbove 52 = .ok (.getfield 9, 3) := by decide +kernel
theorem d_U_periodAbove_55 : decode c_U_periodAbove 55 = .ok (.iload 4, 2) := by decide +kernel
theorem d_U_periodAbove_57 : decode c_U_periodAbove 57 = .ok (.iaload, 1) := by decide +kernel
theorem d_U_periodAbove_58 : decode c_U_periodAbove 58 = .ok (.istore_n 3, 1) := by decide +kernel
theorem d_U_periodAbove_59 : decode c_U_periodAbove 59 = .ok (.iinc 4 1, 3) := by decide +kernel
theorem d_U_periodAbove_62 : decode c_U_periodAbove 62 = .ok (.goto (-57), 3) := by decide +kernel
theorem d_U_periodAbove_65 : decode c_U_periodAbove 65 = .ok (.iload_n 3, 1) := by decide +kernel
theorem d_U_periodAbove_66 : decode c_U_periodAbove 66 = .ok (.ireturn, 1) := by decide +kernel
theorem d_G_toldAt_0 : decode c_G_toldAt 0 = .ok (.iload_n 1, 1) := by decide +kernel
theorem d_G_toldAt_1 : decode c_G_toldAt 1 = .ok (.ifCond .lt 20, 3) := by decide +kernel
theorem d_G_toldAt_4 : decode c_G_toldAt 4 = .ok (.iload_n 1, 1) := by decide +kernel
theorem d_G_toldAt_5 : decode c_G_toldAt 5 = .ok (.aload_n 0, 1) := by decide +kernel
theorem d_G_toldAt_6 : decode c_G_toldAt 6 = .ok (.getfield 35, 3) := by decide +kernel
theorem d_G_toldAt_9 : decode c_G_toldAt 9 = .ok (.if_icmp .ge 12, 3) := by decide +kernel
theorem d_G_toldAt_12 : decode c_G_toldAt 12 = .ok (.aload_n 0, 1) := by decide +kernel
theorem d_G_toldAt_13 : decode c_G_toldAt 13 = .ok (.getfield 21, 3) := by decide +kernel
theorem d_G_toldAt_16 : decode c_G_toldAt 16 = .ok (.iload_n 1, 1) := by decide +kernel
theorem d_G_toldAt_17 : decode c_G_toldAt 17 = .ok (.iaload, 1) := by decide +kernel
theorem d_G_toldAt_18 : decode c_G_toldAt 18 = .ok (.goto 4, 3) := by decide +kernel
theorem d_G_toldAt_21 : decode c_G_toldAt 21 = .ok (.iconst 0, 1) := by decide +kernel
theorem d_G_toldAt_22 : decode c_G_toldAt 22 = .ok (.ireturn, 1) := by decide +kernel
theorem d_U_copiesAcross_0 : decode c_U_copiesAcross 0 = .ok (.iconst 0, 1) := by decide +kernel
theorem d_U_copiesAcross_1 : decode c_U_copiesAcross 1 = .ok (.istore_n 2, 1) := by decide +kernel
theorem d_U_copiesAcross_2 : decode c_U_copiesAcross 2 = .ok (.iconst 0, 1) := by decide +kernel
theorem d_U_copiesAcross_3 : decode c_U_copiesAcross 3 = .ok (.istore_n 3, 1) := by decide +kernel
theorem d_U_copiesAcross_4 : decode c_U_copiesAcross 4 = .ok (.iconst 1, 1) := by decide +kernel
theorem d_U_copiesAcross_5 : decode c_U_copiesAcross 5 = .ok (.istore 4, 2) := by decide +kernel
theorem d_U_copiesAcross_7 : decode c_U_copiesAcross 7 = .ok (.iload 4, 2) := by decide +kernel
theorem d_U_copiesAcross_9 : decode c_U_copiesAcross 9 = .ok (.aload_n 0, 1) := by decide +kernel
theorem d_U_copiesAcross_10 : decode c_U_copiesAcross 10 = .ok (.getfield 27, 3) := by decide +kernel
theorem d_U_copiesAcross_13 : decode c_U_copiesAcross 13 = .ok (.if_icmp .gt 61, 3) := by decide +kernel
theorem d_U_copiesAcross_16 : decode c_U_copiesAcross 16 = .ok (.aload_n 0, 1) := by decide +kernel
theorem d_U_copiesAcross_17 : decode c_U_copiesAcross 17 = .ok (.getfield 21, 3) := by decide +kernel
theorem d_U_copiesAcross_20 : decode c_U_copiesAcross 20 = .ok (.iload 4, 2) := by decide +kernel
theorem d_U_copiesAcross_22 : decode c_U_copiesAcross 22 = .ok (.iaload, 1) := by decide +kernel
theorem d_U_copiesAcross_23 : decode c_U_copiesAcross 23 = .ok (.iload_n 1, 1) := by decide +kernel
theorem d_U_copiesAcross_24 : decode c_U_copiesAcross 24 = .ok (.invokestatic 45, 3) := by decide +kernel
theorem d_U_copiesAcross_27 : decode c_U_copiesAcross 27 = .ok (.ifCond .eq 15, 3) := by decide +kernel
theorem d_U_copiesAcross_30 : decode c_U_copiesAcross 30 = .ok (.iload_n 2, 1) := by decide +kernel
theorem d_U_copiesAcross_31 : decode c_U_copiesAcross 31 = .ok (.iconst 1, 1) := by decide +kernel
theorem d_U_copiesAcross_32 : decode c_U_copiesAcross 32 = .ok (.aload_n 0, 1) := by decide +kernel
theorem d_U_copiesAcross_33 : decode c_U_copiesAcross 33 = .ok (.getfield 15, 3) := by decide +kernel
theorem d_U_copiesAcross_36 : decode c_U_copiesAcross 36 = .ok (.iload 4, 2) := by decide +kernel
theorem d_U_copiesAcross_38 : decode c_U_copiesAcross 38 = .ok (.iaload, 1) := by decide +kernel
theorem d_U_copiesAcross_39 : decode c_U_copiesAcross 39 = .ok (.ishl, 1) := by decide +kernel
theorem d_U_copiesAcross_40 : decode c_U_copiesAcross 40 = .ok (.ior, 1) := by decide +kernel
theorem d_U_copiesAcross_41 : decode c_U_copiesAcross 41 = .ok (.istore_n 2, 1) := by decide +kernel
theorem d_U_copiesAcross_42 : decode c_U_copiesAcross 42 = .ok (.aload_n 0, 1) := by decide +kernel
theorem d_U_copiesAcross_43 : decode c_U_copiesAcross 43 = .ok (.getfield 24, 3) := by decide +kernel
theorem d_U_copiesAcross_46 : decode c_U_copiesAcross 46 = .ok (.iload 4, 2) := by decide +kernel
theorem d_U_copiesAcross_48 : decode c_U_copiesAcross 48 = .ok (.iaload, 1) := by decide +kernel
theorem d_U_copiesAcross_49 : decode c_U_copiesAcross 49 = .ok (.iload_n 1, 1) := by decide +kernel
theorem d_U_copiesAcross_50 : decode c_U_copiesAcross 50 = .ok (.invokestatic 45, 3) := by decide +kernel
theorem d_U_copiesAcross_53 : decode c_U_copiesAcross 53 = .ok (.ifCond .eq 15, 3) := by decide +kernel
theorem d_U_copiesAcross_56 : decode c_U_copiesAcross 56 = .ok (.iload_n 3, 1) := by decide +kernel
theorem d_U_copiesAcross_57 : decode c_U_copiesAcross 57 = .ok (.iconst 1, 1) := by decide +kernel
theorem d_U_copiesAcross_58 : decode c_U_copiesAcross 58 = .ok (.aload_n 0, 1) := by decide +kernel
theorem d_U_copiesAcross_59 : decode c_U_copiesAcross 59 = .ok (.getfield 15, 3) := by decide +kernel
theorem d_U_copiesAcross_62 : decode c_U_copiesAcross 62 = .ok (.iload 4, 2) := by decide +kernel
theorem d_U_copiesAcross_64 : decode c_U_copiesAcross 64 = .ok (.iaload, 1) := by decide +kernel
theorem d_U_copiesAcross_65 : decode c_U_copiesAcross 65 = .ok (.ishl, 1) := by decide +kernel
theorem d_U_copiesAcross_66 : decode c_U_copiesAcross 66 = .ok (.ior, 1) := by decide +kernel
theorem d_U_copiesAcross_67 : decode c_U_copiesAcross 67 = .ok (.istore_n 3, 1) := by decide +kernel
theorem d_U_copiesAcross_68 : decode c_U_copiesAcross 68 = .ok (.iinc 4 1, 3) := by decide +kernel
theorem d_U_copiesAcross_71 : decode c_U_copiesAcross 71 = .ok (.goto (-64), 3) := by decide +kernel
theorem d_U_copiesAcross_74 : decode c_U_copiesAcross 74 = .ok (.iconst 0, 1) := by decide +kernel
theorem d_U_copiesAcross_75 : decode c_U_copiesAcross 75 = .ok (.istore 4, 2) := by decide +kernel
theorem d_U_copiesAcross_77 : decode c_U_copiesAcross 77 = .ok (.iconst 1, 1) := by decide +kernel
theorem d_U_copiesAcross_78 : decode c_U_copiesAcross 78 = .ok (.istore 5, 2) := by decide +kernel
theorem d_U_copiesAcross_80 : decode c_U_copiesAcross 80 = .ok (.iload 5, 2) := by decide +kernel
theorem d_U_copiesAcross_82 : decode c_U_copiesAcross 82 = .ok (.iconst 4, 1) := by decide +kernel
theorem d_U_copiesAcross_83 : decode c_U_copiesAcross 83 = .ok (.if_icmp .gt 44, 3) := by decide +kernel
theorem d_U_copiesAcross_86 : decode c_U_copiesAcross 86 = .ok (.iload_n 3, 1) := by decide +kernel
theorem d_U_copiesAcross_87 : decode c_U_copiesAcross 87 = .ok (.iconst 1, 1) := by decide +kernel
theorem d_U_copiesAcross_88 : decode c_U_copiesAcross 88 = .ok (.iload 5, 2) := by decide +kernel
theorem d_U_copiesAcross_90 : decode c_U_copiesAcross 90 = .ok (.ishl, 1) := by decide +kernel
theorem d_U_copiesAcross_91 : decode c_U_copiesAcross 91 = .ok (.iconst (-1), 1) := by decide +kernel
theorem d_U_copiesAcross_92 : decode c_U_copiesAcross 92 = .ok (.ixor, 1) := by decide +kernel
theorem d_U_copiesAcross_93 : decode c_U_copiesAcross 93 = .ok (.iand, 1) := by decide +kernel
theorem d_U_copiesAcross_94 : decode c_U_copiesAcross 94 = .ok (.ifCond .eq 7, 3) := by decide +kernel
theorem d_U_copiesAcross_97 : decode c_U_copiesAcross 97 = .ok (.iconst 1, 1) := by decide +kernel
theorem d_U_copiesAcross_98 : decode c_U_copiesAcross 98 = .ok (.goto 4, 3) := by decide +kernel
theorem d_U_copiesAcross_101 : decode c_U_copiesAcross 101 = .ok (.iconst 0, 1) := by decide +kernel
theorem d_U_copiesAcross_102 : decode c_U_copiesAcross 102 = .ok (.istore 6, 2) := by decide +kernel
theorem d_U_copiesAcross_104 : decode c_U_copiesAcross 104 = .ok (.iload_n 2, 1) := by decide +kernel
theorem d_U_copiesAcross_105 : decode c_U_copiesAcross 105 = .ok (.iload 5, 2) := by decide +kernel
theorem d_U_copiesAcross_107 : decode c_U_copiesAcross 107 = .ok (.invokestatic 45, 3) := by decide +kernel
theorem d_U_copiesAcross_110 : decode c_U_copiesAcross 110 = .ok (.ifCond .eq 11, 3) := by decide +kernel
theorem d_U_copiesAcross_113 : decode c_U_copiesAcross 113 = .ok (.iload 6, 2) := by decide +kernel
theorem d_U_copiesAcross_115 : decode c_U_copiesAcross 115 = .ok (.ifCond .eq 6, 3) := by decide +kernel
theorem d_U_copiesAcross_118 : decode c_U_copiesAcross 118 = .ok (.iinc 4 1, 3) := by decide +kernel
theorem d_U_copiesAcross_121 : decode c_U_copiesAcross 121 = .ok (.iinc 5 1, 3) := by decide +kernel
theorem d_U_copiesAcross_124 : decode c_U_copiesAcross 124 = .ok (.goto (-44), 3) := by decide +kernel
theorem d_U_copiesAcross_127 : decode c_U_copiesAcross 127 = .ok (.iload 4, 2) := by decide +kernel
theorem d_U_copiesAcross_129 : decode c_U_copiesAcross 129 = .ok (.ireturn, 1) := by decide +kernel
