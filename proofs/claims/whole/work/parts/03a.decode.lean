-- printed by wip/whole/gen1.py
theorem dX0_init_0 : decode cX0_init 0 = .ok (.aload_n 0, 1) := by decide +kernel
theorem dX0_init_1 : decode cX0_init 1 = .ok (.invokespecial 3, 3) := by decide +kernel
theorem dX0_init_4 : decode cX0_init 4 = .ok (.aload_n 0, 1) := by decide +kernel
theorem dX0_init_5 : decode cX0_init 5 = .ok (.bipush 12, 2) := by decide +kernel
theorem dX0_init_7 : decode cX0_init 7 = .ok (.newarray .int, 2) := by decide +kernel
theorem dX0_init_9 : decode cX0_init 9 = .ok (.putfield 9, 3) := by decide +kernel
theorem dX0_init_12 : decode cX0_init 12 = .ok (.aload_n 0, 1) := by decide +kernel
theorem dX0_init_13 : decode cX0_init 13 = .ok (.bipush 12, 2) := by decide +kernel
theorem dX0_init_15 : decode cX0_init 15 = .ok (.newarray .int, 2) := by decide +kernel
theorem dX0_init_17 : decode cX0_init 17 = .ok (.putfield 15, 3) := by decide +kernel
theorem dX0_init_20 : decode cX0_init 20 = .ok (.aload_n 0, 1) := by decide +kernel
theorem dX0_init_21 : decode cX0_init 21 = .ok (.bipush 12, 2) := by decide +kernel
theorem dX0_init_23 : decode cX0_init 23 = .ok (.newarray .int, 2) := by decide +kernel
theorem dX0_init_25 : decode cX0_init 25 = .ok (.putfield 18, 3) := by decide +kernel
theorem dX0_init_28 : decode cX0_init 28 = .ok (.return_, 1) := by decide +kernel
theorem dX0_keep_0 : decode cX0_keep 0 = .ok (.aload_n 0, 1) := by decide +kernel
theorem dX0_keep_1 : decode cX0_keep 1 = .ok (.getfield 21, 3) := by decide +kernel
theorem dX0_keep_4 : decode cX0_keep 4 = .ok (.bipush 12, 2) := by decide +kernel
theorem dX0_keep_6 : decode cX0_keep 6 = .ok (.if_icmp .lt 7, 3) := by decide +kernel
theorem dX0_keep_9 : decode cX0_keep 9 = .ok (.aload_n 0, 1) := by decide +kernel
theorem dX0_keep_10 : decode cX0_keep 10 = .ok (.invokevirtual 25, 3) := by decide +kernel
theorem dX0_keep_13 : decode cX0_keep 13 = .ok (.aload_n 0, 1) := by decide +kernel
theorem dX0_keep_14 : decode cX0_keep 14 = .ok (.getfield 9, 3) := by decide +kernel
theorem dX0_keep_17 : decode cX0_keep 17 = .ok (.aload_n 0, 1) := by decide +kernel
theorem dX0_keep_18 : decode cX0_keep 18 = .ok (.getfield 21, 3) := by decide +kernel
theorem dX0_keep_21 : decode cX0_keep 21 = .ok (.iload_n 1, 1) := by decide +kernel
theorem dX0_keep_22 : decode cX0_keep 22 = .ok (.iastore, 1) := by decide +kernel
theorem dX0_keep_23 : decode cX0_keep 23 = .ok (.aload_n 0, 1) := by decide +kernel
theorem dX0_keep_24 : decode cX0_keep 24 = .ok (.getfield 15, 3) := by decide +kernel
theorem dX0_keep_27 : decode cX0_keep 27 = .ok (.aload_n 0, 1) := by decide +kernel
theorem dX0_keep_28 : decode cX0_keep 28 = .ok (.getfield 21, 3) := by decide +kernel
theorem dX0_keep_31 : decode cX0_keep 31 = .ok (.iload_n 2, 1) := by decide +kernel
theorem dX0_keep_32 : decode cX0_keep 32 = .ok (.iastore, 1) := by decide +kernel
theorem dX0_keep_33 : decode cX0_keep 33 = .ok (.aload_n 0, 1) := by decide +kernel
theorem dX0_keep_34 : decode cX0_keep 34 = .ok (.getfield 18, 3) := by decide +kernel
theorem dX0_keep_37 : decode cX0_keep 37 = .ok (.aload_n 0, 1) := by decide +kernel
theorem dX0_keep_38 : decode cX0_keep 38 = .ok (.getfield 21, 3) := by decide +kernel
theorem dX0_keep_41 : decode cX0_keep 41 = .ok (.iload_n 3, 1) := by decide +kernel
theorem dX0_keep_42 : decode cX0_keep 42 = .ok (.iastore, 1) := by decide +kernel
theorem dX0_keep_43 : decode cX0_keep 43 = .ok (.aload_n 0, 1) := by decide +kernel
theorem dX0_keep_44 : decode cX0_keep 44 = .ok (.dup, 1) := by decide +kernel
theorem dX0_keep_45 : decode cX0_keep 45 = .ok (.getfield 21, 3) := by decide +kernel
theorem dX0_keep_48 : decode cX0_keep 48 = .ok (.iconst 1, 1) := by decide +kernel
theorem dX0_keep_49 : decode cX0_keep 49 = .ok (.iadd, 1) := by decide +kernel
theorem dX0_keep_50 : decode cX0_keep 50 = .ok (.putfield 21, 3) := by decide +kernel
theorem dX0_keep_53 : decode cX0_keep 53 = .ok (.return_, 1) := by decide +kernel
theorem dX0_forgetOldest_0 : decode cX0_forgetOldest 0 = .ok (.aload_n 0, 1) := by decide +kernel
theorem dX0_forgetOldest_1 : decode cX0_forgetOldest 1 = .ok (.bipush 11, 2) := by decide +kernel
theorem dX0_forgetOldest_3 : decode cX0_forgetOldest 3 = .ok (.putfield 21, 3) := by decide +kernel
theorem dX0_forgetOldest_6 : decode cX0_forgetOldest 6 = .ok (.aload_n 0, 1) := by decide +kernel
theorem dX0_forgetOldest_7 : decode cX0_forgetOldest 7 = .ok (.getfield 9, 3) := by decide +kernel
theorem dX0_forgetOldest_10 : decode cX0_forgetOldest 10 = .ok (.iconst 1, 1) := by decide +kernel
theorem dX0_forgetOldest_11 : decode cX0_forgetOldest 11 = .ok (.aload_n 0, 1) := by decide +kernel
theorem dX0_forgetOldest_12 : decode cX0_forgetOldest 12 = .ok (.getfield 9, 3) := by decide +kernel
theorem dX0_forgetOldest_15 : decode cX0_forgetOldest 15 = .ok (.iconst 0, 1) := by decide +kernel
theorem dX0_forgetOldest_16 : decode cX0_forgetOldest 16 = .ok (.aload_n 0, 1) := by decide +kernel
theorem dX0_forgetOldest_17 : decode cX0_forgetOldest 17 = .ok (.getfield 21, 3) := by decide +kernel
theorem dX0_forgetOldest_20 : decode cX0_forgetOldest 20 = .ok (.invokestatic 28, 3) := by decide +kernel
theorem dX0_forgetOldest_23 : decode cX0_forgetOldest 23 = .ok (.aload_n 0, 1) := by decide +kernel
theorem dX0_forgetOldest_24 : decode cX0_forgetOldest 24 = .ok (.getfield 15, 3) := by decide +kernel
theorem dX0_forgetOldest_27 : decode cX0_forgetOldest 27 = .ok (.iconst 1, 1) := by decide +kernel
theorem dX0_forgetOldest_28 : decode cX0_forgetOldest 28 = .ok (.aload_n 0, 1) := by decide +kernel
theorem dX0_forgetOldest_29 : decode cX0_forgetOldest 29 = .ok (.getfield 15, 3) := by decide +kernel
theorem dX0_forgetOldest_32 : decode cX0_forgetOldest 32 = .ok (.iconst 0, 1) := by decide +kernel
theorem dX0_forgetOldest_33 : decode cX0_forgetOldest 33 = .ok (.aload_n 0, 1) := by decide +kernel
theorem dX0_forgetOldest_34 : decode cX0_forgetOldest 34 = .ok (.getfield 21, 3) := by decide +kernel
theorem dX0_forgetOldest_37 : decode cX0_forgetOldest 37 = .ok (.invokestatic 28, 3) := by decide +kernel
theorem dX0_forgetOldest_40 : decode cX0_forgetOldest 40 = .ok (.aload_n 0, 1) := by decide +kernel
theorem dX0_forgetOldest_41 : decode cX0_forgetOldest 41 = .ok (.getfield 18, 3) := by decide +kernel
theorem dX0_forgetOldest_44 : decode cX0_forgetOldest 44 = .ok (.iconst 1, 1) := by decide +kernel
theorem dX0_forgetOldest_45 : decode cX0_forgetOldest 45 = .ok (.aload_n 0, 1) := by decide +kernel
theorem dX0_forgetOldest_46 : decode cX0_forgetOldest 46 = .ok (.getfield 18, 3) := by decide +kernel
theorem dX0_forgetOldest_49 : decode cX0_forgetOldest 49 = .ok (.iconst 0, 1) := by decide +kernel
theorem dX0_forgetOldest_50 : decode cX0_forgetOldest 50 = .ok (.aload_n 0, 1) := by decide +kernel
theorem dX0_forgetOldest_51 : decode cX0_forgetOldest 51 = .ok (.getfield 21, 3) := by decide +kernel
theorem dX0_forgetOldest_54 : decode cX0_forgetOldest 54 = .ok (.invokestatic 28, 3) := by decide +kernel
theorem dX0_forgetOldest_57 : decode cX0_forgetOldest 57 = .ok (.return_, 1) := by decide +kernel
theorem dX1_init_0 : decode cX1_init 0 = .ok (.aload_n 0, 1) := by decide +kernel
theorem dX1_init_1 : decode cX1_init 1 = .ok (.invokespecial 3, 3) := by decide +kernel
theorem dX1_init_4 : decode cX1_init 4 = .ok (.aload_n 0, 1) := by decide +kernel
theorem dX1_init_5 : decode cX1_init 5 = .ok (.bipush 60, 2) := by decide +kernel
theorem dX1_init_7 : decode cX1_init 7 = .ok (.newarray .int, 2) := by decide +kernel
theorem dX1_init_9 : decode cX1_init 9 = .ok (.putfield 9, 3) := by decide +kernel
theorem dX1_init_12 : decode cX1_init 12 = .ok (.return_, 1) := by decide +kernel
theorem dX1_restart_0 : decode cX1_restart 0 = .ok (.aload_n 0, 1) := by decide +kernel
theorem dX1_restart_1 : decode cX1_restart 1 = .ok (.iload_n 1, 1) := by decide +kernel
theorem dX1_restart_2 : decode cX1_restart 2 = .ok (.putfield 15, 3) := by decide +kernel
theorem dX1_restart_5 : decode cX1_restart 5 = .ok (.aload_n 0, 1) := by decide +kernel
theorem dX1_restart_6 : decode cX1_restart 6 = .ok (.iconst 0, 1) := by decide +kernel
theorem dX1_restart_7 : decode cX1_restart 7 = .ok (.putfield 19, 3) := by decide +kernel
theorem dX1_restart_10 : decode cX1_restart 10 = .ok (.return_, 1) := by decide +kernel
theorem dX1_advance_0 : decode cX1_advance 0 = .ok (.aload_n 0, 1) := by decide +kernel
theorem dX1_advance_1 : decode cX1_advance 1 = .ok (.getfield 19, 3) := by decide +kernel
theorem dX1_advance_4 : decode cX1_advance 4 = .ok (.bipush 60, 2) := by decide +kernel
theorem dX1_advance_6 : decode cX1_advance 6 = .ok (.if_icmp .lt 5, 3) := by decide +kernel
theorem dX1_advance_9 : decode cX1_advance 9 = .ok (.iconst 0, 1) := by decide +kernel
theorem dX1_advance_10 : decode cX1_advance 10 = .ok (.ireturn, 1) := by decide +kernel
theorem dX1_advance_11 : decode cX1_advance 11 = .ok (.aload_n 0, 1) := by decide +kernel
theorem dX1_advance_12 : decode cX1_advance 12 = .ok (.getfield 9, 3) := by decide +kernel
theorem dX1_advance_15 : decode cX1_advance 15 = .ok (.aload_n 0, 1) := by decide +kernel
theorem dX1_advance_16 : decode cX1_advance 16 = .ok (.getfield 19, 3) := by decide +kernel
theorem dX1_advance_19 : decode cX1_advance 19 = .ok (.iload_n 1, 1) := by decide +kernel
theorem dX1_advance_20 : decode cX1_advance 20 = .ok (.iastore, 1) := by decide +kernel
theorem dX1_advance_21 : decode cX1_advance 21 = .ok (.aload_n 0, 1) := by decide +kernel
theorem dX1_advance_22 : decode cX1_advance 22 = .ok (.dup, 1) := by decide +kernel
theorem dX1_advance_23 : decode cX1_advance 23 = .ok (.getfield 19, 3) := by decide +kernel
theorem dX1_advance_26 : decode cX1_advance 26 = .ok (.iconst 1, 1) := by decide +kernel
theorem dX1_advance_27 : decode cX1_advance 27 = .ok (.iadd, 1) := by decide +kernel
theorem dX1_advance_28 : decode cX1_advance 28 = .ok (.putfield 19, 3) := by decide +kernel
theorem dX1_advance_31 : decode cX1_advance 31 = .ok (.iconst 1, 1) := by decide +kernel
theorem dX1_advance_32 : decode cX1_advance 32 = .ok (.ireturn, 1) := by decide +kernel
theorem dX1_lineHere_0 : decode cX1_lineHere 0 = .ok (.aload_n 0, 1) := by decide +kernel
theorem dX1_lineHere_1 : decode cX1_lineHere 1 = .ok (.getfield 19, 3) := by decide +kernel
theorem dX1_lineHere_4 : decode cX1_lineHere 4 = .ok (.ifCond .ne 10, 3) := by decide +kernel
theorem dX1_lineHere_7 : decode cX1_lineHere 7 = .ok (.aload_n 1, 1) := by decide +kernel
theorem dX1_lineHere_8 : decode cX1_lineHere 8 = .ok (.getfield 22, 3) := by decide +kernel
theorem dX1_lineHere_11 : decode cX1_lineHere 11 = .ok (.goto 19, 3) := by decide +kernel
theorem dX1_lineHere_14 : decode cX1_lineHere 14 = .ok (.aload_n 1, 1) := by decide +kernel
theorem dX1_lineHere_15 : decode cX1_lineHere 15 = .ok (.getfield 27, 3) := by decide +kernel
theorem dX1_lineHere_18 : decode cX1_lineHere 18 = .ok (.aload_n 0, 1) := by decide +kernel
theorem dX1_lineHere_19 : decode cX1_lineHere 19 = .ok (.getfield 9, 3) := by decide +kernel
theorem dX1_lineHere_22 : decode cX1_lineHere 22 = .ok (.aload_n 0, 1) := by decide +kernel
theorem dX1_lineHere_23 : decode cX1_lineHere 23 = .ok (.getfield 19, 3) := by decide +kernel
theorem dX1_lineHere_26 : decode cX1_lineHere 26 = .ok (.iconst 1, 1) := by decide +kernel
theorem dX1_lineHere_27 : decode cX1_lineHere 27 = .ok (.isub, 1) := by decide +kernel
theorem dX1_lineHere_28 : decode cX1_lineHere 28 = .ok (.iaload, 1) := by decide +kernel
theorem dX1_lineHere_29 : decode cX1_lineHere 29 = .ok (.iaload, 1) := by decide +kernel
theorem dX1_lineHere_30 : decode cX1_lineHere 30 = .ok (.ireturn, 1) := by decide +kernel
theorem dX1_marksHere_0 : decode cX1_marksHere 0 = .ok (.aload_n 0, 1) := by decide +kernel
theorem dX1_marksHere_1 : decode cX1_marksHere 1 = .ok (.getfield 15, 3) := by decide +kernel
theorem dX1_marksHere_4 : decode cX1_marksHere 4 = .ok (.istore_n 2, 1) := by decide +kernel
theorem dX1_marksHere_5 : decode cX1_marksHere 5 = .ok (.iconst 0, 1) := by decide +kernel
theorem dX1_marksHere_6 : decode cX1_marksHere 6 = .ok (.istore_n 3, 1) := by decide +kernel
theorem dX1_marksHere_7 : decode cX1_marksHere 7 = .ok (.iload_n 3, 1) := by decide +kernel
theorem dX1_marksHere_8 : decode cX1_marksHere 8 = .ok (.aload_n 0, 1) := by decide +kernel
theorem dX1_marksHere_9 : decode cX1_marksHere 9 = .ok (.getfield 19, 3) := by decide +kernel
theorem dX1_marksHere_12 : decode cX1_marksHere 12 = .ok (.if_icmp .ge 21, 3) := by decide +kernel
theorem dX1_marksHere_15 : decode cX1_marksHere 15 = .ok (.aload_n 1, 1) := by decide +kernel
theorem dX1_marksHere_16 : decode cX1_marksHere 16 = .ok (.aload_n 0, 1) := by decide +kernel
theorem dX1_marksHere_17 : decode cX1_marksHere 17 = .ok (.getfield 9, 3) := by decide +kernel
theorem dX1_marksHere_20 : decode cX1_marksHere 20 = .ok (.iload_n 3, 1) := by decide +kernel
theorem dX1_marksHere_21 : decode cX1_marksHere 21 = .ok (.iaload, 1) := by decide +kernel
theorem dX1_marksHere_22 : decode cX1_marksHere 22 = .ok (.iload_n 2, 1) := by decide +kernel
theorem dX1_marksHere_23 : decode cX1_marksHere 23 = .ok (.invokevirtual 30, 3) := by decide +kernel
theorem dX1_marksHere_26 : decode cX1_marksHere 26 = .ok (.istore_n 2, 1) := by decide +kernel
theorem dX1_marksHere_27 : decode cX1_marksHere 27 = .ok (.iinc 3 1, 3) := by decide +kernel
theorem dX1_marksHere_30 : decode cX1_marksHere 30 = .ok (.goto (-23), 3) := by decide +kernel
theorem dX1_marksHere_33 : decode cX1_marksHere 33 = .ok (.iload_n 2, 1) := by decide +kernel
theorem dX1_marksHere_34 : decode cX1_marksHere 34 = .ok (.ireturn, 1) := by decide +kernel
theorem dX1_priceOfSteps_0 : decode cX1_priceOfSteps 0 = .ok (.iconst 0, 1) := by decide +kernel
theorem dX1_priceOfSteps_1 : decode cX1_priceOfSteps 1 = .ok (.istore_n 2, 1) := by decide +kernel
theorem dX1_priceOfSteps_2 : decode cX1_priceOfSteps 2 = .ok (.iconst 0, 1) := by decide +kernel
theorem dX1_priceOfSteps_3 : decode cX1_priceOfSteps 3 = .ok (.istore_n 3, 1) := by decide +kernel
theorem dX1_priceOfSteps_4 : decode cX1_priceOfSteps 4 = .ok (.iload_n 3, 1) := by decide +kernel
theorem dX1_priceOfSteps_5 : decode cX1_priceOfSteps 5 = .ok (.aload_n 0, 1) := by decide +kernel
theorem dX1_priceOfSteps_6 : decode cX1_priceOfSteps 6 = .ok (.getfield 19, 3) := by decide +kernel
theorem dX1_priceOfSteps_9 : decode cX1_priceOfSteps 9 = .ok (.if_icmp .ge 23, 3) := by decide +kernel
theorem dX1_priceOfSteps_12 : decode cX1_priceOfSteps 12 = .ok (.iload_n 2, 1) := by decide +kernel
theorem dX1_priceOfSteps_13 : decode cX1_priceOfSteps 13 = .ok (.aload_n 1, 1) := by decide +kernel
theorem dX1_priceOfSteps_14 : decode cX1_priceOfSteps 14 = .ok (.getfield 34, 3) := by decide +kernel
theorem dX1_priceOfSteps_17 : decode cX1_priceOfSteps 17 = .ok (.aload_n 0, 1) := by decide +kernel
theorem dX1_priceOfSteps_18 : decode cX1_priceOfSteps 18 = .ok (.getfield 9, 3) := by decide +kernel
theorem dX1_priceOfSteps_21 : decode cX1_priceOfSteps 21 = .ok (.iload_n 3, 1) := by decide +kernel
theorem dX1_priceOfSteps_22 : decode cX1_priceOfSteps 22 = .ok (.iaload, 1) := by decide +kernel
theorem dX1_priceOfSteps_23 : decode cX1_priceOfSteps 23 = .ok (.iaload, 1) := by decide +kernel
theorem dX1_priceOfSteps_24 : decode cX1_priceOfSteps 24 = .ok (.iadd, 1) := by decide +kernel
theorem dX1_priceOfSteps_25 : decode cX1_priceOfSteps 25 = .ok (.istore_n 2, 1) := by decide +kernel
theorem dX1_priceOfSteps_26 : decode cX1_priceOfSteps 26 = .ok (.iinc 3 1, 3) := by decide +kernel
theorem dX1_priceOfSteps_29 : decode cX1_priceOfSteps 29 = .ok (.goto (-25), 3) := by decide +kernel
theorem dX1_priceOfSteps_32 : decode cX1_priceOfSteps 32 = .ok (.iload_n 2, 1) := by decide +kernel
theorem dX1_priceOfSteps_33 : decode cX1_priceOfSteps 33 = .ok (.ireturn, 1) := by decide +kernel
theorem dX2_init_0 : decode cX2_init 0 = .ok (.aload_n 0, 1) := by decide +kernel
theorem dX2_init_1 : decode cX2_init 1 = .ok (.invokespecial 3, 3) := by decide +kernel
theorem dX2_init_4 : decode cX2_init 4 = .ok (.aload_n 0, 1) := by decide +kernel
theorem dX2_init_5 : decode cX2_init 5 = .ok (.sipush 1024, 3) := by decide +kernel
theorem dX2_init_8 : decode cX2_init 8 = .ok (.newarray .int, 2) := by decide +kernel
theorem dX2_init_10 : decode cX2_init 10 = .ok (.putfield 9, 3) := by decide +kernel
theorem dX2_init_13 : decode cX2_init 13 = .ok (.aload_n 0, 1) := by decide +kernel
theorem dX2_init_14 : decode cX2_init 14 = .ok (.sipush 1024, 3) := by decide +kernel
theorem dX2_init_17 : decode cX2_init 17 = .ok (.newarray .int, 2) := by decide +kernel
theorem dX2_init_19 : decode cX2_init 19 = .ok (.putfield 15, 3) := by decide +kernel
theorem dX2_init_22 : decode cX2_init 22 = .ok (.aload_n 0, 1) := by decide +kernel
theorem dX2_init_23 : decode cX2_init 23 = .ok (.sipush 1024, 3) := by decide +kernel
theorem dX2_init_26 : decode cX2_init 26 = .ok (.newarray .int, 2) := by decide +kernel
theorem dX2_init_28 : decode cX2_init 28 = .ok (.putfield 18, 3) := by decide +kernel
theorem dX2_init_31 : decode cX2_init 31 = .ok (.aload_n 0, 1) := by decide +kernel
theorem dX2_init_32 : decode cX2_init 32 = .ok (.sipush 1024, 3) := by decide +kernel
theorem dX2_init_35 : decode cX2_init 35 = .ok (.newarray .int, 2) := by decide +kernel
theorem dX2_init_37 : decode cX2_init 37 = .ok (.putfield 21, 3) := by decide +kernel
theorem dX2_init_40 : decode cX2_init 40 = .ok (.aload_n 0, 1) := by decide +kernel
theorem dX2_init_41 : decode cX2_init 41 = .ok (.bipush 16, 2) := by decide +kernel
theorem dX2_init_43 : decode cX2_init 43 = .ok (.newarray .int, 2) := by decide +kernel
theorem dX2_init_45 : decode cX2_init 45 = .ok (.putfield 24, 3) := by decide +kernel
theorem dX2_init_48 : decode cX2_init 48 = .ok (.aload_n 0, 1) := by decide +kernel
theorem dX2_init_49 : decode cX2_init 49 = .ok (.sipush 1025, 3) := by decide +kernel
theorem dX2_init_52 : decode cX2_init 52 = .ok (.newarray .int, 2) := by decide +kernel
theorem dX2_init_54 : decode cX2_init 54 = .ok (.putfield 27, 3) := by decide +kernel
theorem dX2_init_57 : decode cX2_init 57 = .ok (.aload_n 0, 1) := by decide +kernel
theorem dX2_init_58 : decode cX2_init 58 = .ok (.sipush 2048, 3) := by decide +kernel
theorem dX2_init_61 : decode cX2_init 61 = .ok (.newarray .int, 2) := by decide +kernel
theorem dX2_init_63 : decode cX2_init 63 = .ok (.putfield 30, 3) := by decide +kernel
theorem dX2_init_66 : decode cX2_init 66 = .ok (.aload_n 0, 1) := by decide +kernel
theorem dX2_init_67 : decode cX2_init 67 = .ok (.sipush 2048, 3) := by decide +kernel
theorem dX2_init_70 : decode cX2_init 70 = .ok (.newarray .int, 2) := by decide +kernel
theorem dX2_init_72 : decode cX2_init 72 = .ok (.putfield 33, 3) := by decide +kernel
theorem dX2_init_75 : decode cX2_init 75 = .ok (.aload_n 0, 1) := by decide +kernel
theorem dX2_init_76 : decode cX2_init 76 = .ok (.sipush 2048, 3) := by decide +kernel
theorem dX2_init_79 : decode cX2_init 79 = .ok (.newarray .int, 2) := by decide +kernel
theorem dX2_init_81 : decode cX2_init 81 = .ok (.putfield 36, 3) := by decide +kernel
theorem dX2_init_84 : decode cX2_init 84 = .ok (.aload_n 0, 1) := by decide +kernel
theorem dX2_init_85 : decode cX2_init 85 = .ok (.sipush 1025, 3) := by decide +kernel
theorem dX2_init_88 : decode cX2_init 88 = .ok (.newarray .int, 2) := by decide +kernel
theorem dX2_init_90 : decode cX2_init 90 = .ok (.putfield 39, 3) := by decide +kernel
theorem dX2_init_93 : decode cX2_init 93 = .ok (.aload_n 0, 1) := by decide +kernel
theorem dX2_init_94 : decode cX2_init 94 = .ok (.sipush 2048, 3) := by decide +kernel
theorem dX2_init_97 : decode cX2_init 97 = .ok (.newarray .int, 2) := by decide +kernel
theorem dX2_init_99 : decode cX2_init 99 = .ok (.putfield 42, 3) := by decide +kernel
theorem dX2_init_102 : decode cX2_init 102 = .ok (.return_, 1) := by decide +kernel
theorem dX2_explore_0 : decode cX2_explore 0 = .ok (.aload_n 0, 1) := by decide +kernel
theorem dX2_explore_1 : decode cX2_explore 1 = .ok (.getfield 15, 3) := by decide +kernel
theorem dX2_explore_4 : decode cX2_explore 4 = .ok (.iconst (-1), 1) := by decide +kernel
theorem dX2_explore_5 : decode cX2_explore 5 = .ok (.invokestatic 45, 3) := by decide +kernel
theorem dX2_explore_8 : decode cX2_explore 8 = .ok (.aload_n 0, 1) := by decide +kernel
theorem dX2_explore_9 : decode cX2_explore 9 = .ok (.getfield 24, 3) := by decide +kernel
theorem dX2_explore_12 : decode cX2_explore 12 = .ok (.iconst (-1), 1) := by decide +kernel
theorem dX2_explore_13 : decode cX2_explore 13 = .ok (.invokestatic 45, 3) := by decide +kernel
theorem dX2_explore_16 : decode cX2_explore 16 = .ok (.aload_n 0, 1) := by decide +kernel
theorem dX2_explore_17 : decode cX2_explore 17 = .ok (.iconst 0, 1) := by decide +kernel
theorem dX2_explore_18 : decode cX2_explore 18 = .ok (.putfield 51, 3) := by decide +kernel
theorem dX2_explore_21 : decode cX2_explore 21 = .ok (.aload_n 0, 1) := by decide +kernel
theorem dX2_explore_22 : decode cX2_explore 22 = .ok (.iconst 0, 1) := by decide +kernel
theorem dX2_explore_23 : decode cX2_explore 23 = .ok (.putfield 55, 3) := by decide +kernel
theorem dX2_explore_26 : decode cX2_explore 26 = .ok (.aload_n 0, 1) := by decide +kernel
theorem dX2_explore_27 : decode cX2_explore 27 = .ok (.aload_n 1, 1) := by decide +kernel
theorem dX2_explore_28 : decode cX2_explore 28 = .ok (.getfield 58, 3) := by decide +kernel
theorem dX2_explore_31 : decode cX2_explore 31 = .ok (.bipush 64, 2) := by decide +kernel
theorem dX2_explore_33 : decode cX2_explore 33 = .ok (.imul, 1) := by decide +kernel
theorem dX2_explore_34 : decode cX2_explore 34 = .ok (.iload_n 2, 1) := by decide +kernel
theorem dX2_explore_35 : decode cX2_explore 35 = .ok (.iadd, 1) := by decide +kernel
theorem dX2_explore_36 : decode cX2_explore 36 = .ok (.iconst 0, 1) := by decide +kernel
theorem dX2_explore_37 : decode cX2_explore 37 = .ok (.iconst (-1), 1) := by decide +kernel
theorem dX2_explore_38 : decode cX2_explore 38 = .ok (.invokevirtual 63, 3) := by decide +kernel
theorem dX2_explore_41 : decode cX2_explore 41 = .ok (.pop, 1) := by decide +kernel
theorem dX2_explore_42 : decode cX2_explore 42 = .ok (.iconst 0, 1) := by decide +kernel
theorem dX2_explore_43 : decode cX2_explore 43 = .ok (.istore_n 3, 1) := by decide +kernel
theorem dX2_explore_44 : decode cX2_explore 44 = .ok (.iload_n 3, 1) := by decide +kernel
theorem dX2_explore_45 : decode cX2_explore 45 = .ok (.sipush 1024, 3) := by decide +kernel
theorem dX2_explore_48 : decode cX2_explore 48 = .ok (.if_icmp .ge 33, 3) := by decide +kernel
theorem dX2_explore_51 : decode cX2_explore 51 = .ok (.iload_n 3, 1) := by decide +kernel
theorem dX2_explore_52 : decode cX2_explore 52 = .ok (.aload_n 0, 1) := by decide +kernel
theorem dX2_explore_53 : decode cX2_explore 53 = .ok (.getfield 51, 3) := by decide +kernel
theorem dX2_explore_56 : decode cX2_explore 56 = .ok (.if_icmp .ge 25, 3) := by decide +kernel
theorem dX2_explore_59 : decode cX2_explore 59 = .ok (.aload_n 0, 1) := by decide +kernel
theorem dX2_explore_60 : decode cX2_explore 60 = .ok (.getfield 27, 3) := by decide +kernel
theorem dX2_explore_63 : decode cX2_explore 63 = .ok (.iload_n 3, 1) := by decide +kernel
theorem dX2_explore_64 : decode cX2_explore 64 = .ok (.aload_n 0, 1) := by decide +kernel
theorem dX2_explore_65 : decode cX2_explore 65 = .ok (.getfield 55, 3) := by decide +kernel
theorem dX2_explore_68 : decode cX2_explore 68 = .ok (.iastore, 1) := by decide +kernel
theorem dX2_explore_69 : decode cX2_explore 69 = .ok (.aload_n 0, 1) := by decide +kernel
theorem dX2_explore_70 : decode cX2_explore 70 = .ok (.iload_n 3, 1) := by decide +kernel
theorem dX2_explore_71 : decode cX2_explore 71 = .ok (.aload_n 1, 1) := by decide +kernel
theorem dX2_explore_72 : decode cX2_explore 72 = .ok (.invokevirtual 67, 3) := by decide +kernel
theorem dX2_explore_75 : decode cX2_explore 75 = .ok (.iinc 3 1, 3) := by decide +kernel
theorem dX2_explore_78 : decode cX2_explore 78 = .ok (.goto (-34), 3) := by decide +kernel
theorem dX2_explore_81 : decode cX2_explore 81 = .ok (.aload_n 0, 1) := by decide +kernel
theorem dX2_explore_82 : decode cX2_explore 82 = .ok (.getfield 27, 3) := by decide +kernel
theorem dX2_explore_85 : decode cX2_explore 85 = .ok (.aload_n 0, 1) := by decide +kernel
theorem dX2_explore_86 : decode cX2_explore 86 = .ok (.getfield 51, 3) := by decide +kernel
theorem dX2_explore_89 : decode cX2_explore 89 = .ok (.aload_n 0, 1) := by decide +kernel
theorem dX2_explore_90 : decode cX2_explore 90 = .ok (.getfield 55, 3) := by decide +kernel
theorem dX2_explore_93 : decode cX2_explore 93 = .ok (.iastore, 1) := by decide +kernel
theorem dX2_explore_94 : decode cX2_explore 94 = .ok (.aload_n 0, 1) := by decide +kernel
theorem dX2_explore_95 : decode cX2_explore 95 = .ok (.invokevirtual 71, 3) := by decide +kernel
theorem dX2_explore_98 : decode cX2_explore 98 = .ok (.return_, 1) := by decide +kernel
theorem dX2_admit_0 : decode cX2_admit 0 = .ok (.aload_n 0, 1) := by decide +kernel
theorem dX2_admit_1 : decode cX2_admit 1 = .ok (.getfield 51, 3) := by decide +kernel
theorem dX2_admit_4 : decode cX2_admit 4 = .ok (.sipush 1024, 3) := by decide +kernel
theorem dX2_admit_7 : decode cX2_admit 7 = .ok (.if_icmp .lt 5, 3) := by decide +kernel
theorem dX2_admit_10 : decode cX2_admit 10 = .ok (.iconst 0, 1) := by decide +kernel
theorem dX2_admit_11 : decode cX2_admit 11 = .ok (.ireturn, 1) := by decide +kernel
theorem dX2_admit_12 : decode cX2_admit 12 = .ok (.aload_n 0, 1) := by decide +kernel
theorem dX2_admit_13 : decode cX2_admit 13 = .ok (.getfield 15, 3) := by decide +kernel
theorem dX2_admit_16 : decode cX2_admit 16 = .ok (.iload_n 1, 1) := by decide +kernel
theorem dX2_admit_17 : decode cX2_admit 17 = .ok (.aload_n 0, 1) := by decide +kernel
theorem dX2_admit_18 : decode cX2_admit 18 = .ok (.getfield 51, 3) := by decide +kernel
theorem dX2_admit_21 : decode cX2_admit 21 = .ok (.iastore, 1) := by decide +kernel
theorem dX2_admit_22 : decode cX2_admit 22 = .ok (.aload_n 0, 1) := by decide +kernel
theorem dX2_admit_23 : decode cX2_admit 23 = .ok (.getfield 9, 3) := by decide +kernel
theorem dX2_admit_26 : decode cX2_admit 26 = .ok (.aload_n 0, 1) := by decide +kernel
theorem dX2_admit_27 : decode cX2_admit 27 = .ok (.getfield 51, 3) := by decide +kernel
theorem dX2_admit_30 : decode cX2_admit 30 = .ok (.iload_n 1, 1) := by decide +kernel
theorem dX2_admit_31 : decode cX2_admit 31 = .ok (.iastore, 1) := by decide +kernel
theorem dX2_admit_32 : decode cX2_admit 32 = .ok (.aload_n 0, 1) := by decide +kernel
theorem dX2_admit_33 : decode cX2_admit 33 = .ok (.getfield 18, 3) := by decide +kernel
theorem dX2_admit_36 : decode cX2_admit 36 = .ok (.aload_n 0, 1) := by decide +kernel
theorem dX2_admit_37 : decode cX2_admit 37 = .ok (.getfield 51, 3) := by decide +kernel
theorem dX2_admit_40 : decode cX2_admit 40 = .ok (.iload_n 2, 1) := by decide +kernel
theorem dX2_admit_41 : decode cX2_admit 41 = .ok (.iastore, 1) := by decide +kernel
theorem dX2_admit_42 : decode cX2_admit 42 = .ok (.aload_n 0, 1) := by decide +kernel
theorem dX2_admit_43 : decode cX2_admit 43 = .ok (.getfield 21, 3) := by decide +kernel
theorem dX2_admit_46 : decode cX2_admit 46 = .ok (.aload_n 0, 1) := by decide +kernel
theorem dX2_admit_47 : decode cX2_admit 47 = .ok (.getfield 51, 3) := by decide +kernel
theorem dX2_admit_50 : decode cX2_admit 50 = .ok (.iload_n 3, 1) := by decide +kernel
theorem dX2_admit_51 : decode cX2_admit 51 = .ok (.iastore, 1) := by decide +kernel
theorem dX2_admit_52 : decode cX2_admit 52 = .ok (.aload_n 0, 1) := by decide +kernel
theorem dX2_admit_53 : decode cX2_admit 53 = .ok (.getfield 24, 3) := by decide +kernel
theorem dX2_admit_56 : decode cX2_admit 56 = .ok (.iload_n 1, 1) := by decide +kernel
theorem dX2_admit_57 : decode cX2_admit 57 = .ok (.bipush 64, 2) := by decide +kernel
theorem dX2_admit_59 : decode cX2_admit 59 = .ok (.idiv, 1) := by decide +kernel
theorem dX2_admit_60 : decode cX2_admit 60 = .ok (.iaload, 1) := by decide +kernel
theorem dX2_admit_61 : decode cX2_admit 61 = .ok (.iconst (-1), 1) := by decide +kernel
theorem dX2_admit_62 : decode cX2_admit 62 = .ok (.if_icmp .ne 16, 3) := by decide +kernel
theorem dX2_admit_65 : decode cX2_admit 65 = .ok (.aload_n 0, 1) := by decide +kernel
theorem dX2_admit_66 : decode cX2_admit 66 = .ok (.getfield 24, 3) := by decide +kernel
theorem dX2_admit_69 : decode cX2_admit 69 = .ok (.iload_n 1, 1) := by decide +kernel
theorem dX2_admit_70 : decode cX2_admit 70 = .ok (.bipush 64, 2) := by decide +kernel
theorem dX2_admit_72 : decode cX2_admit 72 = .ok (.idiv, 1) := by decide +kernel
theorem dX2_admit_73 : decode cX2_admit 73 = .ok (.aload_n 0, 1) := by decide +kernel
theorem dX2_admit_74 : decode cX2_admit 74 = .ok (.getfield 51, 3) := by decide +kernel
theorem dX2_admit_77 : decode cX2_admit 77 = .ok (.iastore, 1) := by decide +kernel
theorem dX2_admit_78 : decode cX2_admit 78 = .ok (.aload_n 0, 1) := by decide +kernel
theorem dX2_admit_79 : decode cX2_admit 79 = .ok (.dup, 1) := by decide +kernel
theorem dX2_admit_80 : decode cX2_admit 80 = .ok (.getfield 51, 3) := by decide +kernel
theorem dX2_admit_83 : decode cX2_admit 83 = .ok (.iconst 1, 1) := by decide +kernel
theorem dX2_admit_84 : decode cX2_admit 84 = .ok (.iadd, 1) := by decide +kernel
theorem dX2_admit_85 : decode cX2_admit 85 = .ok (.putfield 51, 3) := by decide +kernel
theorem dX2_admit_88 : decode cX2_admit 88 = .ok (.iconst 1, 1) := by decide +kernel
theorem dX2_admit_89 : decode cX2_admit 89 = .ok (.ireturn, 1) := by decide +kernel
theorem dX2_addMovesFrom_0 : decode cX2_addMovesFrom 0 = .ok (.aload_n 0, 1) := by decide +kernel
theorem dX2_addMovesFrom_1 : decode cX2_addMovesFrom 1 = .ok (.iload_n 1, 1) := by decide +kernel
theorem dX2_addMovesFrom_2 : decode cX2_addMovesFrom 2 = .ok (.invokevirtual 74, 3) := by decide +kernel
theorem dX2_addMovesFrom_5 : decode cX2_addMovesFrom 5 = .ok (.istore_n 3, 1) := by decide +kernel
theorem dX2_addMovesFrom_6 : decode cX2_addMovesFrom 6 = .ok (.aload_n 0, 1) := by decide +kernel
theorem dX2_addMovesFrom_7 : decode cX2_addMovesFrom 7 = .ok (.iload_n 1, 1) := by decide +kernel
theorem dX2_addMovesFrom_8 : decode cX2_addMovesFrom 8 = .ok (.invokevirtual 78, 3) := by decide +kernel
theorem dX2_addMovesFrom_11 : decode cX2_addMovesFrom 11 = .ok (.istore 4, 2) := by decide +kernel
theorem dX2_addMovesFrom_13 : decode cX2_addMovesFrom 13 = .ok (.aload_n 2, 1) := by decide +kernel
theorem dX2_addMovesFrom_14 : decode cX2_addMovesFrom 14 = .ok (.getfield 81, 3) := by decide +kernel
theorem dX2_addMovesFrom_17 : decode cX2_addMovesFrom 17 = .ok (.iload_n 3, 1) := by decide +kernel
theorem dX2_addMovesFrom_18 : decode cX2_addMovesFrom 18 = .ok (.iaload, 1) := by decide +kernel
theorem dX2_addMovesFrom_19 : decode cX2_addMovesFrom 19 = .ok (.istore 5, 2) := by decide +kernel
theorem dX2_addMovesFrom_21 : decode cX2_addMovesFrom 21 = .ok (.iload 5, 2) := by decide +kernel
theorem dX2_addMovesFrom_23 : decode cX2_addMovesFrom 23 = .ok (.aload_n 2, 1) := by decide +kernel
theorem dX2_addMovesFrom_24 : decode cX2_addMovesFrom 24 = .ok (.getfield 81, 3) := by decide +kernel
theorem dX2_addMovesFrom_27 : decode cX2_addMovesFrom 27 = .ok (.iload_n 3, 1) := by decide +kernel
theorem dX2_addMovesFrom_28 : decode cX2_addMovesFrom 28 = .ok (.iconst 1, 1) := by decide +kernel
theorem dX2_addMovesFrom_29 : decode cX2_addMovesFrom 29 = .ok (.iadd, 1) := by decide +kernel
theorem dX2_addMovesFrom_30 : decode cX2_addMovesFrom 30 = .ok (.iaload, 1) := by decide +kernel
theorem dX2_addMovesFrom_31 : decode cX2_addMovesFrom 31 = .ok (.if_icmp .ge 45, 3) := by decide +kernel
theorem dX2_addMovesFrom_34 : decode cX2_addMovesFrom 34 = .ok (.aload_n 2, 1) := by decide +kernel
theorem dX2_addMovesFrom_35 : decode cX2_addMovesFrom 35 = .ok (.getfield 84, 3) := by decide +kernel
theorem dX2_addMovesFrom_38 : decode cX2_addMovesFrom 38 = .ok (.iload 5, 2) := by decide +kernel
theorem dX2_addMovesFrom_40 : decode cX2_addMovesFrom 40 = .ok (.iaload, 1) := by decide +kernel
theorem dX2_addMovesFrom_41 : decode cX2_addMovesFrom 41 = .ok (.istore 6, 2) := by decide +kernel
theorem dX2_addMovesFrom_43 : decode cX2_addMovesFrom 43 = .ok (.aload_n 2, 1) := by decide +kernel
theorem dX2_addMovesFrom_44 : decode cX2_addMovesFrom 44 = .ok (.iload 6, 2) := by decide +kernel
theorem dX2_addMovesFrom_46 : decode cX2_addMovesFrom 46 = .ok (.iload_n 3, 1) := by decide +kernel
theorem dX2_addMovesFrom_47 : decode cX2_addMovesFrom 47 = .ok (.iload 4, 2) := by decide +kernel
theorem dX2_addMovesFrom_49 : decode cX2_addMovesFrom 49 = .ok (.invokevirtual 87, 3) := by decide +kernel
theorem dX2_addMovesFrom_52 : decode cX2_addMovesFrom 52 = .ok (.ifCond .eq 18, 3) := by decide +kernel
theorem dX2_addMovesFrom_55 : decode cX2_addMovesFrom 55 = .ok (.aload_n 0, 1) := by decide +kernel
theorem dX2_addMovesFrom_56 : decode cX2_addMovesFrom 56 = .ok (.iload_n 1, 1) := by decide +kernel
theorem dX2_addMovesFrom_57 : decode cX2_addMovesFrom 57 = .ok (.iload 6, 2) := by decide +kernel
theorem dX2_addMovesFrom_59 : decode cX2_addMovesFrom 59 = .ok (.aload_n 2, 1) := by decide +kernel
theorem dX2_addMovesFrom_60 : decode cX2_addMovesFrom 60 = .ok (.iload 6, 2) := by decide +kernel
theorem dX2_addMovesFrom_62 : decode cX2_addMovesFrom 62 = .ok (.iload 4, 2) := by decide +kernel
theorem dX2_addMovesFrom_64 : decode cX2_addMovesFrom 64 = .ok (.invokevirtual 90, 3) := by decide +kernel
theorem dX2_addMovesFrom_67 : decode cX2_addMovesFrom 67 = .ok (.invokevirtual 94, 3) := by decide +kernel
theorem dX2_addMovesFrom_70 : decode cX2_addMovesFrom 70 = .ok (.iinc 5 1, 3) := by decide +kernel
theorem dX2_addMovesFrom_73 : decode cX2_addMovesFrom 73 = .ok (.goto (-52), 3) := by decide +kernel
theorem dX2_addMovesFrom_76 : decode cX2_addMovesFrom 76 = .ok (.return_, 1) := by decide +kernel
theorem dX2_addMove_0 : decode cX2_addMove 0 = .ok (.aload_n 0, 1) := by decide +kernel
theorem dX2_addMove_1 : decode cX2_addMove 1 = .ok (.getfield 55, 3) := by decide +kernel
theorem dX2_addMove_4 : decode cX2_addMove 4 = .ok (.sipush 2048, 3) := by decide +kernel
theorem dX2_addMove_7 : decode cX2_addMove 7 = .ok (.if_icmp .ge 33, 3) := by decide +kernel
theorem dX2_addMove_10 : decode cX2_addMove 10 = .ok (.aload_n 0, 1) := by decide +kernel
theorem dX2_addMove_11 : decode cX2_addMove 11 = .ok (.getfield 15, 3) := by decide +kernel
theorem dX2_addMove_14 : decode cX2_addMove 14 = .ok (.iload_n 3, 1) := by decide +kernel
theorem dX2_addMove_15 : decode cX2_addMove 15 = .ok (.iaload, 1) := by decide +kernel
theorem dX2_addMove_16 : decode cX2_addMove 16 = .ok (.iconst (-1), 1) := by decide +kernel
theorem dX2_addMove_17 : decode cX2_addMove 17 = .ok (.if_icmp .ne 24, 3) := by decide +kernel
theorem dX2_addMove_20 : decode cX2_addMove 20 = .ok (.aload_n 0, 1) := by decide +kernel
theorem dX2_addMove_21 : decode cX2_addMove 21 = .ok (.iload_n 3, 1) := by decide +kernel
theorem dX2_addMove_22 : decode cX2_addMove 22 = .ok (.aload_n 0, 1) := by decide +kernel
theorem dX2_addMove_23 : decode cX2_addMove 23 = .ok (.getfield 18, 3) := by decide +kernel
theorem dX2_addMove_26 : decode cX2_addMove 26 = .ok (.iload_n 1, 1) := by decide +kernel
theorem dX2_addMove_27 : decode cX2_addMove 27 = .ok (.iaload, 1) := by decide +kernel
theorem dX2_addMove_28 : decode cX2_addMove 28 = .ok (.iconst 1, 1) := by decide +kernel
theorem dX2_addMove_29 : decode cX2_addMove 29 = .ok (.iadd, 1) := by decide +kernel
theorem dX2_addMove_30 : decode cX2_addMove 30 = .ok (.aload_n 0, 1) := by decide +kernel
theorem dX2_addMove_31 : decode cX2_addMove 31 = .ok (.getfield 55, 3) := by decide +kernel
theorem dX2_addMove_34 : decode cX2_addMove 34 = .ok (.invokevirtual 63, 3) := by decide +kernel
theorem dX2_addMove_37 : decode cX2_addMove 37 = .ok (.ifCond .ne 4, 3) := by decide +kernel
theorem dX2_addMove_40 : decode cX2_addMove 40 = .ok (.return_, 1) := by decide +kernel
theorem dX2_addMove_41 : decode cX2_addMove 41 = .ok (.aload_n 0, 1) := by decide +kernel
theorem dX2_addMove_42 : decode cX2_addMove 42 = .ok (.getfield 30, 3) := by decide +kernel
theorem dX2_addMove_45 : decode cX2_addMove 45 = .ok (.aload_n 0, 1) := by decide +kernel
theorem dX2_addMove_46 : decode cX2_addMove 46 = .ok (.getfield 55, 3) := by decide +kernel
theorem dX2_addMove_49 : decode cX2_addMove 49 = .ok (.iload_n 1, 1) := by decide +kernel
theorem dX2_addMove_50 : decode cX2_addMove 50 = .ok (.iastore, 1) := by decide +kernel
theorem dX2_addMove_51 : decode cX2_addMove 51 = .ok (.aload_n 0, 1) := by decide +kernel
theorem dX2_addMove_52 : decode cX2_addMove 52 = .ok (.getfield 33, 3) := by decide +kernel
theorem dX2_addMove_55 : decode cX2_addMove 55 = .ok (.aload_n 0, 1) := by decide +kernel
theorem dX2_addMove_56 : decode cX2_addMove 56 = .ok (.getfield 55, 3) := by decide +kernel
theorem dX2_addMove_59 : decode cX2_addMove 59 = .ok (.aload_n 0, 1) := by decide +kernel
theorem dX2_addMove_60 : decode cX2_addMove 60 = .ok (.getfield 15, 3) := by decide +kernel
theorem dX2_addMove_63 : decode cX2_addMove 63 = .ok (.iload_n 3, 1) := by decide +kernel
theorem dX2_addMove_64 : decode cX2_addMove 64 = .ok (.iaload, 1) := by decide +kernel
theorem dX2_addMove_65 : decode cX2_addMove 65 = .ok (.iastore, 1) := by decide +kernel
theorem dX2_addMove_66 : decode cX2_addMove 66 = .ok (.aload_n 0, 1) := by decide +kernel
theorem dX2_addMove_67 : decode cX2_addMove 67 = .ok (.getfield 36, 3) := by decide +kernel
theorem dX2_addMove_70 : decode cX2_addMove 70 = .ok (.aload_n 0, 1) := by decide +kernel
theorem dX2_addMove_71 : decode cX2_addMove 71 = .ok (.getfield 55, 3) := by decide +kernel
theorem dX2_addMove_74 : decode cX2_addMove 74 = .ok (.iload_n 2, 1) := by decide +kernel
theorem dX2_addMove_75 : decode cX2_addMove 75 = .ok (.iastore, 1) := by decide +kernel
theorem dX2_addMove_76 : decode cX2_addMove 76 = .ok (.aload_n 0, 1) := by decide +kernel
theorem dX2_addMove_77 : decode cX2_addMove 77 = .ok (.dup, 1) := by decide +kernel
theorem dX2_addMove_78 : decode cX2_addMove 78 = .ok (.getfield 55, 3) := by decide +kernel
theorem dX2_addMove_81 : decode cX2_addMove 81 = .ok (.iconst 1, 1) := by decide +kernel
theorem dX2_addMove_82 : decode cX2_addMove 82 = .ok (.iadd, 1) := by decide +kernel
theorem dX2_addMove_83 : decode cX2_addMove 83 = .ok (.putfield 55, 3) := by decide +kernel
theorem dX2_addMove_86 : decode cX2_addMove 86 = .ok (.return_, 1) := by decide +kernel
theorem dX2_turnRound_0 : decode cX2_turnRound 0 = .ok (.aload_n 0, 1) := by decide +kernel
theorem dX2_turnRound_1 : decode cX2_turnRound 1 = .ok (.getfield 39, 3) := by decide +kernel
theorem dX2_turnRound_4 : decode cX2_turnRound 4 = .ok (.iconst 0, 1) := by decide +kernel
theorem dX2_turnRound_5 : decode cX2_turnRound 5 = .ok (.invokestatic 45, 3) := by decide +kernel
theorem dX2_turnRound_8 : decode cX2_turnRound 8 = .ok (.iconst 0, 1) := by decide +kernel
theorem dX2_turnRound_9 : decode cX2_turnRound 9 = .ok (.istore_n 1, 1) := by decide +kernel
theorem dX2_turnRound_10 : decode cX2_turnRound 10 = .ok (.iload_n 1, 1) := by decide +kernel
theorem dX2_turnRound_11 : decode cX2_turnRound 11 = .ok (.aload_n 0, 1) := by decide +kernel
theorem dX2_turnRound_12 : decode cX2_turnRound 12 = .ok (.getfield 55, 3) := by decide +kernel
theorem dX2_turnRound_15 : decode cX2_turnRound 15 = .ok (.if_icmp .ge 24, 3) := by decide +kernel
theorem dX2_turnRound_18 : decode cX2_turnRound 18 = .ok (.aload_n 0, 1) := by decide +kernel
theorem dX2_turnRound_19 : decode cX2_turnRound 19 = .ok (.getfield 39, 3) := by decide +kernel
theorem dX2_turnRound_22 : decode cX2_turnRound 22 = .ok (.aload_n 0, 1) := by decide +kernel
theorem dX2_turnRound_23 : decode cX2_turnRound 23 = .ok (.getfield 33, 3) := by decide +kernel
theorem dX2_turnRound_26 : decode cX2_turnRound 26 = .ok (.iload_n 1, 1) := by decide +kernel
theorem dX2_turnRound_27 : decode cX2_turnRound 27 = .ok (.iaload, 1) := by decide +kernel
theorem dX2_turnRound_28 : decode cX2_turnRound 28 = .ok (.dup2, 1) := by decide +kernel
theorem dX2_turnRound_29 : decode cX2_turnRound 29 = .ok (.iaload, 1) := by decide +kernel
theorem dX2_turnRound_30 : decode cX2_turnRound 30 = .ok (.iconst 1, 1) := by decide +kernel
theorem dX2_turnRound_31 : decode cX2_turnRound 31 = .ok (.iadd, 1) := by decide +kernel
theorem dX2_turnRound_32 : decode cX2_turnRound 32 = .ok (.iastore, 1) := by decide +kernel
theorem dX2_turnRound_33 : decode cX2_turnRound 33 = .ok (.iinc 1 1, 3) := by decide +kernel
theorem dX2_turnRound_36 : decode cX2_turnRound 36 = .ok (.goto (-26), 3) := by decide +kernel
theorem dX2_turnRound_39 : decode cX2_turnRound 39 = .ok (.iconst 1, 1) := by decide +kernel
theorem dX2_turnRound_40 : decode cX2_turnRound 40 = .ok (.istore_n 1, 1) := by decide +kernel
theorem dX2_turnRound_41 : decode cX2_turnRound 41 = .ok (.iload_n 1, 1) := by decide +kernel
theorem dX2_turnRound_42 : decode cX2_turnRound 42 = .ok (.aload_n 0, 1) := by decide +kernel
theorem dX2_turnRound_43 : decode cX2_turnRound 43 = .ok (.getfield 51, 3) := by decide +kernel
theorem dX2_turnRound_46 : decode cX2_turnRound 46 = .ok (.if_icmp .gt 26, 3) := by decide +kernel
theorem dX2_turnRound_49 : decode cX2_turnRound 49 = .ok (.aload_n 0, 1) := by decide +kernel
theorem dX2_turnRound_50 : decode cX2_turnRound 50 = .ok (.getfield 39, 3) := by decide +kernel
theorem dX2_turnRound_53 : decode cX2_turnRound 53 = .ok (.iload_n 1, 1) := by decide +kernel
theorem dX2_turnRound_54 : decode cX2_turnRound 54 = .ok (.dup2, 1) := by decide +kernel
theorem dX2_turnRound_55 : decode cX2_turnRound 55 = .ok (.iaload, 1) := by decide +kernel
theorem dX2_turnRound_56 : decode cX2_turnRound 56 = .ok (.aload_n 0, 1) := by decide +kernel
theorem dX2_turnRound_57 : decode cX2_turnRound 57 = .ok (.getfield 39, 3) := by decide +kernel
theorem dX2_turnRound_60 : decode cX2_turnRound 60 = .ok (.iload_n 1, 1) := by decide +kernel
theorem dX2_turnRound_61 : decode cX2_turnRound 61 = .ok (.iconst 1, 1) := by decide +kernel
theorem dX2_turnRound_62 : decode cX2_turnRound 62 = .ok (.isub, 1) := by decide +kernel
theorem dX2_turnRound_63 : decode cX2_turnRound 63 = .ok (.iaload, 1) := by decide +kernel
theorem dX2_turnRound_64 : decode cX2_turnRound 64 = .ok (.iadd, 1) := by decide +kernel
theorem dX2_turnRound_65 : decode cX2_turnRound 65 = .ok (.iastore, 1) := by decide +kernel
theorem dX2_turnRound_66 : decode cX2_turnRound 66 = .ok (.iinc 1 1, 3) := by decide +kernel
theorem dX2_turnRound_69 : decode cX2_turnRound 69 = .ok (.goto (-28), 3) := by decide +kernel
theorem dX2_turnRound_72 : decode cX2_turnRound 72 = .ok (.aload_n 0, 1) := by decide +kernel
theorem dX2_turnRound_73 : decode cX2_turnRound 73 = .ok (.getfield 55, 3) := by decide +kernel
theorem dX2_turnRound_76 : decode cX2_turnRound 76 = .ok (.iconst 1, 1) := by decide +kernel
theorem dX2_turnRound_77 : decode cX2_turnRound 77 = .ok (.isub, 1) := by decide +kernel
theorem dX2_turnRound_78 : decode cX2_turnRound 78 = .ok (.istore_n 1, 1) := by decide +kernel
theorem dX2_turnRound_79 : decode cX2_turnRound 79 = .ok (.iload_n 1, 1) := by decide +kernel
theorem dX2_turnRound_80 : decode cX2_turnRound 80 = .ok (.ifCond .lt 43, 3) := by decide +kernel
theorem dX2_turnRound_83 : decode cX2_turnRound 83 = .ok (.aload_n 0, 1) := by decide +kernel
theorem dX2_turnRound_84 : decode cX2_turnRound 84 = .ok (.getfield 33, 3) := by decide +kernel
theorem dX2_turnRound_87 : decode cX2_turnRound 87 = .ok (.iload_n 1, 1) := by decide +kernel
theorem dX2_turnRound_88 : decode cX2_turnRound 88 = .ok (.iaload, 1) := by decide +kernel
theorem dX2_turnRound_89 : decode cX2_turnRound 89 = .ok (.istore_n 2, 1) := by decide +kernel
theorem dX2_turnRound_90 : decode cX2_turnRound 90 = .ok (.aload_n 0, 1) := by decide +kernel
theorem dX2_turnRound_91 : decode cX2_turnRound 91 = .ok (.getfield 39, 3) := by decide +kernel
theorem dX2_turnRound_94 : decode cX2_turnRound 94 = .ok (.iload_n 2, 1) := by decide +kernel
theorem dX2_turnRound_95 : decode cX2_turnRound 95 = .ok (.dup2, 1) := by decide +kernel
theorem dX2_turnRound_96 : decode cX2_turnRound 96 = .ok (.iaload, 1) := by decide +kernel
theorem dX2_turnRound_97 : decode cX2_turnRound 97 = .ok (.iconst 1, 1) := by decide +kernel
theorem dX2_turnRound_98 : decode cX2_turnRound 98 = .ok (.isub, 1) := by decide +kernel
theorem dX2_turnRound_99 : decode cX2_turnRound 99 = .ok (.iastore, 1) := by decide +kernel
theorem dX2_turnRound_100 : decode cX2_turnRound 100 = .ok (.aload_n 0, 1) := by decide +kernel
theorem dX2_turnRound_101 : decode cX2_turnRound 101 = .ok (.getfield 42, 3) := by decide +kernel
theorem dX2_turnRound_104 : decode cX2_turnRound 104 = .ok (.aload_n 0, 1) := by decide +kernel
theorem dX2_turnRound_105 : decode cX2_turnRound 105 = .ok (.getfield 39, 3) := by decide +kernel
theorem dX2_turnRound_108 : decode cX2_turnRound 108 = .ok (.iload_n 2, 1) := by decide +kernel
theorem dX2_turnRound_109 : decode cX2_turnRound 109 = .ok (.iaload, 1) := by decide +kernel
theorem dX2_turnRound_110 : decode cX2_turnRound 110 = .ok (.aload_n 0, 1) := by decide +kernel
theorem dX2_turnRound_111 : decode cX2_turnRound 111 = .ok (.getfield 30, 3) := by decide +kernel
theorem dX2_turnRound_114 : decode cX2_turnRound 114 = .ok (.iload_n 1, 1) := by decide +kernel
theorem dX2_turnRound_115 : decode cX2_turnRound 115 = .ok (.iaload, 1) := by decide +kernel
theorem dX2_turnRound_116 : decode cX2_turnRound 116 = .ok (.iastore, 1) := by decide +kernel
theorem dX2_turnRound_117 : decode cX2_turnRound 117 = .ok (.iinc 1 (-1), 3) := by decide +kernel
theorem dX2_turnRound_120 : decode cX2_turnRound 120 = .ok (.goto (-41), 3) := by decide +kernel
theorem dX2_turnRound_123 : decode cX2_turnRound 123 = .ok (.return_, 1) := by decide +kernel
theorem dX2_lineAt_0 : decode cX2_lineAt 0 = .ok (.aload_n 0, 1) := by decide +kernel
theorem dX2_lineAt_1 : decode cX2_lineAt 1 = .ok (.getfield 9, 3) := by decide +kernel
theorem dX2_lineAt_4 : decode cX2_lineAt 4 = .ok (.iload_n 1, 1) := by decide +kernel
theorem dX2_lineAt_5 : decode cX2_lineAt 5 = .ok (.iaload, 1) := by decide +kernel
theorem dX2_lineAt_6 : decode cX2_lineAt 6 = .ok (.bipush 64, 2) := by decide +kernel
theorem dX2_lineAt_8 : decode cX2_lineAt 8 = .ok (.idiv, 1) := by decide +kernel
theorem dX2_lineAt_9 : decode cX2_lineAt 9 = .ok (.ireturn, 1) := by decide +kernel
theorem dX2_marksAt_0 : decode cX2_marksAt 0 = .ok (.aload_n 0, 1) := by decide +kernel
theorem dX2_marksAt_1 : decode cX2_marksAt 1 = .ok (.getfield 9, 3) := by decide +kernel
theorem dX2_marksAt_4 : decode cX2_marksAt 4 = .ok (.iload_n 1, 1) := by decide +kernel
theorem dX2_marksAt_5 : decode cX2_marksAt 5 = .ok (.iaload, 1) := by decide +kernel
theorem dX2_marksAt_6 : decode cX2_marksAt 6 = .ok (.bipush 64, 2) := by decide +kernel
theorem dX2_marksAt_8 : decode cX2_marksAt 8 = .ok (.irem, 1) := by decide +kernel
theorem dX2_marksAt_9 : decode cX2_marksAt 9 = .ok (.ireturn, 1) := by decide +kernel
theorem dX2_movesFrom_0 : decode cX2_movesFrom 0 = .ok (.aload_n 0, 1) := by decide +kernel
theorem dX2_movesFrom_1 : decode cX2_movesFrom 1 = .ok (.getfield 27, 3) := by decide +kernel
theorem dX2_movesFrom_4 : decode cX2_movesFrom 4 = .ok (.iload_n 1, 1) := by decide +kernel
theorem dX2_movesFrom_5 : decode cX2_movesFrom 5 = .ok (.iconst 1, 1) := by decide +kernel
theorem dX2_movesFrom_6 : decode cX2_movesFrom 6 = .ok (.iadd, 1) := by decide +kernel
theorem dX2_movesFrom_7 : decode cX2_movesFrom 7 = .ok (.iaload, 1) := by decide +kernel
theorem dX2_movesFrom_8 : decode cX2_movesFrom 8 = .ok (.aload_n 0, 1) := by decide +kernel
theorem dX2_movesFrom_9 : decode cX2_movesFrom 9 = .ok (.getfield 27, 3) := by decide +kernel
theorem dX2_movesFrom_12 : decode cX2_movesFrom 12 = .ok (.iload_n 1, 1) := by decide +kernel
theorem dX2_movesFrom_13 : decode cX2_movesFrom 13 = .ok (.iaload, 1) := by decide +kernel
theorem dX2_movesFrom_14 : decode cX2_movesFrom 14 = .ok (.isub, 1) := by decide +kernel
theorem dX2_movesFrom_15 : decode cX2_movesFrom 15 = .ok (.ireturn, 1) := by decide +kernel
theorem dX2_statesOf_0 : decode cX2_statesOf 0 = .ok (.iconst 0, 1) := by decide +kernel
theorem dX2_statesOf_1 : decode cX2_statesOf 1 = .ok (.istore_n 2, 1) := by decide +kernel
theorem dX2_statesOf_2 : decode cX2_statesOf 2 = .ok (.iconst 0, 1) := by decide +kernel
theorem dX2_statesOf_3 : decode cX2_statesOf 3 = .ok (.istore_n 3, 1) := by decide +kernel
theorem dX2_statesOf_4 : decode cX2_statesOf 4 = .ok (.iload_n 3, 1) := by decide +kernel
theorem dX2_statesOf_5 : decode cX2_statesOf 5 = .ok (.aload_n 0, 1) := by decide +kernel
theorem dX2_statesOf_6 : decode cX2_statesOf 6 = .ok (.getfield 51, 3) := by decide +kernel
theorem dX2_statesOf_9 : decode cX2_statesOf 9 = .ok (.if_icmp .ge 21, 3) := by decide +kernel
theorem dX2_statesOf_12 : decode cX2_statesOf 12 = .ok (.aload_n 0, 1) := by decide +kernel
theorem dX2_statesOf_13 : decode cX2_statesOf 13 = .ok (.iload_n 3, 1) := by decide +kernel
theorem dX2_statesOf_14 : decode cX2_statesOf 14 = .ok (.invokevirtual 74, 3) := by decide +kernel
theorem dX2_statesOf_17 : decode cX2_statesOf 17 = .ok (.iload_n 1, 1) := by decide +kernel
theorem dX2_statesOf_18 : decode cX2_statesOf 18 = .ok (.if_icmp .ne 6, 3) := by decide +kernel
theorem dX2_statesOf_21 : decode cX2_statesOf 21 = .ok (.iinc 2 1, 3) := by decide +kernel
theorem dX2_statesOf_24 : decode cX2_statesOf 24 = .ok (.iinc 3 1, 3) := by decide +kernel
theorem dX2_statesOf_27 : decode cX2_statesOf 27 = .ok (.goto (-23), 3) := by decide +kernel
theorem dX2_statesOf_30 : decode cX2_statesOf 30 = .ok (.iload_n 2, 1) := by decide +kernel
theorem dX2_statesOf_31 : decode cX2_statesOf 31 = .ok (.ireturn, 1) := by decide +kernel
theorem dX2_marksInAll_0 : decode cX2_marksInAll 0 = .ok (.aload_n 0, 1) := by decide +kernel
theorem dX2_marksInAll_1 : decode cX2_marksInAll 1 = .ok (.getfield 24, 3) := by decide +kernel
theorem dX2_marksInAll_4 : decode cX2_marksInAll 4 = .ok (.iload_n 1, 1) := by decide +kernel
theorem dX2_marksInAll_5 : decode cX2_marksInAll 5 = .ok (.iaload, 1) := by decide +kernel
theorem dX2_marksInAll_6 : decode cX2_marksInAll 6 = .ok (.iconst (-1), 1) := by decide +kernel
theorem dX2_marksInAll_7 : decode cX2_marksInAll 7 = .ok (.if_icmp .ne 5, 3) := by decide +kernel
theorem dX2_marksInAll_10 : decode cX2_marksInAll 10 = .ok (.iconst 0, 1) := by decide +kernel
theorem dX2_marksInAll_11 : decode cX2_marksInAll 11 = .ok (.ireturn, 1) := by decide +kernel
theorem dX2_marksInAll_12 : decode cX2_marksInAll 12 = .ok (.bipush 63, 2) := by decide +kernel
theorem dX2_marksInAll_14 : decode cX2_marksInAll 14 = .ok (.istore_n 2, 1) := by decide +kernel
theorem dX2_marksInAll_15 : decode cX2_marksInAll 15 = .ok (.iconst 0, 1) := by decide +kernel
theorem dX2_marksInAll_16 : decode cX2_marksInAll 16 = .ok (.istore_n 3, 1) := by decide +kernel
theorem dX2_marksInAll_17 : decode cX2_marksInAll 17 = .ok (.iload_n 3, 1) := by decide +kernel
theorem dX2_marksInAll_18 : decode cX2_marksInAll 18 = .ok (.aload_n 0, 1) := by decide +kernel
theorem dX2_marksInAll_19 : decode cX2_marksInAll 19 = .ok (.getfield 51, 3) := by decide +kernel
theorem dX2_marksInAll_22 : decode cX2_marksInAll 22 = .ok (.if_icmp .ge 26, 3) := by decide +kernel
theorem dX2_marksInAll_25 : decode cX2_marksInAll 25 = .ok (.aload_n 0, 1) := by decide +kernel
theorem dX2_marksInAll_26 : decode cX2_marksInAll 26 = .ok (.iload_n 3, 1) := by decide +kernel
theorem dX2_marksInAll_27 : decode cX2_marksInAll 27 = .ok (.invokevirtual 74, 3) := by decide +kernel
theorem dX2_marksInAll_30 : decode cX2_marksInAll 30 = .ok (.iload_n 1, 1) := by decide +kernel
theorem dX2_marksInAll_31 : decode cX2_marksInAll 31 = .ok (.if_icmp .ne 11, 3) := by decide +kernel
theorem dX2_marksInAll_34 : decode cX2_marksInAll 34 = .ok (.iload_n 2, 1) := by decide +kernel
theorem dX2_marksInAll_35 : decode cX2_marksInAll 35 = .ok (.aload_n 0, 1) := by decide +kernel
theorem dX2_marksInAll_36 : decode cX2_marksInAll 36 = .ok (.iload_n 3, 1) := by decide +kernel
theorem dX2_marksInAll_37 : decode cX2_marksInAll 37 = .ok (.invokevirtual 78, 3) := by decide +kernel
theorem dX2_marksInAll_40 : decode cX2_marksInAll 40 = .ok (.iand, 1) := by decide +kernel
theorem dX2_marksInAll_41 : decode cX2_marksInAll 41 = .ok (.istore_n 2, 1) := by decide +kernel
theorem dX2_marksInAll_42 : decode cX2_marksInAll 42 = .ok (.iinc 3 1, 3) := by decide +kernel
theorem dX2_marksInAll_45 : decode cX2_marksInAll 45 = .ok (.goto (-28), 3) := by decide +kernel
theorem dX2_marksInAll_48 : decode cX2_marksInAll 48 = .ok (.iload_n 2, 1) := by decide +kernel
theorem dX2_marksInAll_49 : decode cX2_marksInAll 49 = .ok (.ireturn, 1) := by decide +kernel
theorem dX2_marksInSome_0 : decode cX2_marksInSome 0 = .ok (.iconst 0, 1) := by decide +kernel
theorem dX2_marksInSome_1 : decode cX2_marksInSome 1 = .ok (.istore_n 2, 1) := by decide +kernel
theorem dX2_marksInSome_2 : decode cX2_marksInSome 2 = .ok (.iconst 0, 1) := by decide +kernel
theorem dX2_marksInSome_3 : decode cX2_marksInSome 3 = .ok (.istore_n 3, 1) := by decide +kernel
theorem dX2_marksInSome_4 : decode cX2_marksInSome 4 = .ok (.iload_n 3, 1) := by decide +kernel
theorem dX2_marksInSome_5 : decode cX2_marksInSome 5 = .ok (.aload_n 0, 1) := by decide +kernel
theorem dX2_marksInSome_6 : decode cX2_marksInSome 6 = .ok (.getfield 51, 3) := by decide +kernel
theorem dX2_marksInSome_9 : decode cX2_marksInSome 9 = .ok (.if_icmp .ge 26, 3) := by decide +kernel
theorem dX2_marksInSome_12 : decode cX2_marksInSome 12 = .ok (.aload_n 0, 1) := by decide +kernel
theorem dX2_marksInSome_13 : decode cX2_marksInSome 13 = .ok (.iload_n 3, 1) := by decide +kernel
theorem dX2_marksInSome_14 : decode cX2_marksInSome 14 = .ok (.invokevirtual 74, 3) := by decide +kernel
theorem dX2_marksInSome_17 : decode cX2_marksInSome 17 = .ok (.iload_n 1, 1) := by decide +kernel
theorem dX2_marksInSome_18 : decode cX2_marksInSome 18 = .ok (.if_icmp .ne 11, 3) := by decide +kernel
theorem dX2_marksInSome_21 : decode cX2_marksInSome 21 = .ok (.iload_n 2, 1) := by decide +kernel
theorem dX2_marksInSome_22 : decode cX2_marksInSome 22 = .ok (.aload_n 0, 1) := by decide +kernel
theorem dX2_marksInSome_23 : decode cX2_marksInSome 23 = .ok (.iload_n 3, 1) := by decide +kernel
theorem dX2_marksInSome_24 : decode cX2_marksInSome 24 = .ok (.invokevirtual 78, 3) := by decide +kernel
theorem dX2_marksInSome_27 : decode cX2_marksInSome 27 = .ok (.ior, 1) := by decide +kernel
theorem dX2_marksInSome_28 : decode cX2_marksInSome 28 = .ok (.istore_n 2, 1) := by decide +kernel
theorem dX2_marksInSome_29 : decode cX2_marksInSome 29 = .ok (.iinc 3 1, 3) := by decide +kernel
theorem dX2_marksInSome_32 : decode cX2_marksInSome 32 = .ok (.goto (-28), 3) := by decide +kernel
theorem dX2_marksInSome_35 : decode cX2_marksInSome 35 = .ok (.iload_n 2, 1) := by decide +kernel
theorem dX2_marksInSome_36 : decode cX2_marksInSome 36 = .ok (.ireturn, 1) := by decide +kernel
theorem dX2_linesReached_0 : decode cX2_linesReached 0 = .ok (.iconst 0, 1) := by decide +kernel
theorem dX2_linesReached_1 : decode cX2_linesReached 1 = .ok (.istore_n 1, 1) := by decide +kernel
theorem dX2_linesReached_2 : decode cX2_linesReached 2 = .ok (.iconst 0, 1) := by decide +kernel
theorem dX2_linesReached_3 : decode cX2_linesReached 3 = .ok (.istore_n 2, 1) := by decide +kernel
theorem dX2_linesReached_4 : decode cX2_linesReached 4 = .ok (.iload_n 2, 1) := by decide +kernel
theorem dX2_linesReached_5 : decode cX2_linesReached 5 = .ok (.aload_n 0, 1) := by decide +kernel
theorem dX2_linesReached_6 : decode cX2_linesReached 6 = .ok (.getfield 51, 3) := by decide +kernel
theorem dX2_linesReached_9 : decode cX2_linesReached 9 = .ok (.if_icmp .ge 19, 3) := by decide +kernel
theorem dX2_linesReached_12 : decode cX2_linesReached 12 = .ok (.iload_n 1, 1) := by decide +kernel
theorem dX2_linesReached_13 : decode cX2_linesReached 13 = .ok (.iconst 1, 1) := by decide +kernel
theorem dX2_linesReached_14 : decode cX2_linesReached 14 = .ok (.aload_n 0, 1) := by decide +kernel
theorem dX2_linesReached_15 : decode cX2_linesReached 15 = .ok (.iload_n 2, 1) := by decide +kernel
theorem dX2_linesReached_16 : decode cX2_linesReached 16 = .ok (.invokevirtual 74, 3) := by decide +kernel
theorem dX2_linesReached_19 : decode cX2_linesReached 19 = .ok (.ishl, 1) := by decide +kernel
theorem dX2_linesReached_20 : decode cX2_linesReached 20 = .ok (.ior, 1) := by decide +kernel
theorem dX2_linesReached_21 : decode cX2_linesReached 21 = .ok (.istore_n 1, 1) := by decide +kernel
theorem dX2_linesReached_22 : decode cX2_linesReached 22 = .ok (.iinc 2 1, 3) := by decide +kernel
theorem dX2_linesReached_25 : decode cX2_linesReached 25 = .ok (.goto (-21), 3) := by decide +kernel
theorem dX2_linesReached_28 : decode cX2_linesReached 28 = .ok (.iload_n 1, 1) := by decide +kernel
theorem dX2_linesReached_29 : decode cX2_linesReached 29 = .ok (.ireturn, 1) := by decide +kernel
theorem dX2_movesBy_0 : decode cX2_movesBy 0 = .ok (.iconst 0, 1) := by decide +kernel
theorem dX2_movesBy_1 : decode cX2_movesBy 1 = .ok (.istore_n 2, 1) := by decide +kernel
theorem dX2_movesBy_2 : decode cX2_movesBy 2 = .ok (.iconst 0, 1) := by decide +kernel
theorem dX2_movesBy_3 : decode cX2_movesBy 3 = .ok (.istore_n 3, 1) := by decide +kernel
theorem dX2_movesBy_4 : decode cX2_movesBy 4 = .ok (.iload_n 3, 1) := by decide +kernel
theorem dX2_movesBy_5 : decode cX2_movesBy 5 = .ok (.aload_n 0, 1) := by decide +kernel
theorem dX2_movesBy_6 : decode cX2_movesBy 6 = .ok (.getfield 55, 3) := by decide +kernel
theorem dX2_movesBy_9 : decode cX2_movesBy 9 = .ok (.if_icmp .ge 22, 3) := by decide +kernel
theorem dX2_movesBy_12 : decode cX2_movesBy 12 = .ok (.aload_n 0, 1) := by decide +kernel
theorem dX2_movesBy_13 : decode cX2_movesBy 13 = .ok (.getfield 36, 3) := by decide +kernel
theorem dX2_movesBy_16 : decode cX2_movesBy 16 = .ok (.iload_n 3, 1) := by decide +kernel
theorem dX2_movesBy_17 : decode cX2_movesBy 17 = .ok (.iaload, 1) := by decide +kernel
theorem dX2_movesBy_18 : decode cX2_movesBy 18 = .ok (.iload_n 1, 1) := by decide +kernel
theorem dX2_movesBy_19 : decode cX2_movesBy 19 = .ok (.if_icmp .ne 6, 3) := by decide +kernel
theorem dX2_movesBy_22 : decode cX2_movesBy 22 = .ok (.iinc 2 1, 3) := by decide +kernel
theorem dX2_movesBy_25 : decode cX2_movesBy 25 = .ok (.iinc 3 1, 3) := by decide +kernel
theorem dX2_movesBy_28 : decode cX2_movesBy 28 = .ok (.goto (-24), 3) := by decide +kernel
theorem dX2_movesBy_31 : decode cX2_movesBy 31 = .ok (.iload_n 2, 1) := by decide +kernel
theorem dX2_movesBy_32 : decode cX2_movesBy 32 = .ok (.ireturn, 1) := by decide +kernel
theorem dX2_mostMovesOfAState_0 : decode cX2_mostMovesOfAState 0 = .ok (.iconst 0, 1) := by decide +kernel
theorem dX2_mostMovesOfAState_1 : decode cX2_mostMovesOfAState 1 = .ok (.istore_n 1, 1) := by decide +kernel
theorem dX2_mostMovesOfAState_2 : decode cX2_mostMovesOfAState 2 = .ok (.iconst 0, 1) := by decide +kernel
theorem dX2_mostMovesOfAState_3 : decode cX2_mostMovesOfAState 3 = .ok (.istore_n 2, 1) := by decide +kernel
theorem dX2_mostMovesOfAState_4 : decode cX2_mostMovesOfAState 4 = .ok (.iload_n 2, 1) := by decide +kernel
theorem dX2_mostMovesOfAState_5 : decode cX2_mostMovesOfAState 5 = .ok (.aload_n 0, 1) := by decide +kernel
theorem dX2_mostMovesOfAState_6 : decode cX2_mostMovesOfAState 6 = .ok (.getfield 51, 3) := by decide +kernel
theorem dX2_mostMovesOfAState_9 : decode cX2_mostMovesOfAState 9 = .ok (.if_icmp .ge 19, 3) := by decide +kernel
theorem dX2_mostMovesOfAState_12 : decode cX2_mostMovesOfAState 12 = .ok (.iload_n 1, 1) := by decide +kernel
theorem dX2_mostMovesOfAState_13 : decode cX2_mostMovesOfAState 13 = .ok (.aload_n 0, 1) := by decide +kernel
theorem dX2_mostMovesOfAState_14 : decode cX2_mostMovesOfAState 14 = .ok (.iload_n 2, 1) := by decide +kernel
theorem dX2_mostMovesOfAState_15 : decode cX2_mostMovesOfAState 15 = .ok (.invokevirtual 98, 3) := by decide +kernel
theorem dX2_mostMovesOfAState_18 : decode cX2_mostMovesOfAState 18 = .ok (.invokestatic 101, 3) := by decide +kernel
theorem dX2_mostMovesOfAState_21 : decode cX2_mostMovesOfAState 21 = .ok (.istore_n 1, 1) := by decide +kernel
theorem dX2_mostMovesOfAState_22 : decode cX2_mostMovesOfAState 22 = .ok (.iinc 2 1, 3) := by decide +kernel
theorem dX2_mostMovesOfAState_25 : decode cX2_mostMovesOfAState 25 = .ok (.goto (-21), 3) := by decide +kernel
theorem dX2_mostMovesOfAState_28 : decode cX2_mostMovesOfAState 28 = .ok (.iload_n 1, 1) := by decide +kernel
theorem dX2_mostMovesOfAState_29 : decode cX2_mostMovesOfAState 29 = .ok (.ireturn, 1) := by decide +kernel
theorem dX2_greatestDepth_0 : decode cX2_greatestDepth 0 = .ok (.aload_n 0, 1) := by decide +kernel
theorem dX2_greatestDepth_1 : decode cX2_greatestDepth 1 = .ok (.getfield 51, 3) := by decide +kernel
theorem dX2_greatestDepth_4 : decode cX2_greatestDepth 4 = .ok (.ifCond .ne 7, 3) := by decide +kernel
theorem dX2_greatestDepth_7 : decode cX2_greatestDepth 7 = .ok (.iconst 0, 1) := by decide +kernel
theorem dX2_greatestDepth_8 : decode cX2_greatestDepth 8 = .ok (.goto 14, 3) := by decide +kernel
theorem dX2_greatestDepth_11 : decode cX2_greatestDepth 11 = .ok (.aload_n 0, 1) := by decide +kernel
theorem dX2_greatestDepth_12 : decode cX2_greatestDepth 12 = .ok (.getfield 18, 3) := by decide +kernel
theorem dX2_greatestDepth_15 : decode cX2_greatestDepth 15 = .ok (.aload_n 0, 1) := by decide +kernel
theorem dX2_greatestDepth_16 : decode cX2_greatestDepth 16 = .ok (.getfield 51, 3) := by decide +kernel
theorem dX2_greatestDepth_19 : decode cX2_greatestDepth 19 = .ok (.iconst 1, 1) := by decide +kernel
theorem dX2_greatestDepth_20 : decode cX2_greatestDepth 20 = .ok (.isub, 1) := by decide +kernel
theorem dX2_greatestDepth_21 : decode cX2_greatestDepth 21 = .ok (.iaload, 1) := by decide +kernel
theorem dX2_greatestDepth_22 : decode cX2_greatestDepth 22 = .ok (.ireturn, 1) := by decide +kernel
theorem dX2_answerOfRow_0 : decode cX2_answerOfRow 0 = .ok (.iload_n 1, 1) := by decide +kernel
theorem dX2_answerOfRow_1 : decode cX2_answerOfRow 1 = .ok (.iconst (-1), 1) := by decide +kernel
theorem dX2_answerOfRow_2 : decode cX2_answerOfRow 2 = .ok (.if_icmp .eq 13, 3) := by decide +kernel
theorem dX2_answerOfRow_5 : decode cX2_answerOfRow 5 = .ok (.iload_n 2, 1) := by decide +kernel
theorem dX2_answerOfRow_6 : decode cX2_answerOfRow 6 = .ok (.aload_n 0, 1) := by decide +kernel
theorem dX2_answerOfRow_7 : decode cX2_answerOfRow 7 = .ok (.getfield 18, 3) := by decide +kernel
theorem dX2_answerOfRow_10 : decode cX2_answerOfRow 10 = .ok (.iload_n 1, 1) := by decide +kernel
theorem dX2_answerOfRow_11 : decode cX2_answerOfRow 11 = .ok (.iaload, 1) := by decide +kernel
theorem dX2_answerOfRow_12 : decode cX2_answerOfRow 12 = .ok (.if_icmp .lt 5, 3) := by decide +kernel
theorem dX2_answerOfRow_15 : decode cX2_answerOfRow 15 = .ok (.iconst (-1), 1) := by decide +kernel
theorem dX2_answerOfRow_16 : decode cX2_answerOfRow 16 = .ok (.ireturn, 1) := by decide +kernel
theorem dX2_answerOfRow_17 : decode cX2_answerOfRow 17 = .ok (.iload_n 1, 1) := by decide +kernel
theorem dX2_answerOfRow_18 : decode cX2_answerOfRow 18 = .ok (.istore_n 3, 1) := by decide +kernel
theorem dX2_answerOfRow_19 : decode cX2_answerOfRow 19 = .ok (.aload_n 0, 1) := by decide +kernel
theorem dX2_answerOfRow_20 : decode cX2_answerOfRow 20 = .ok (.getfield 18, 3) := by decide +kernel
theorem dX2_answerOfRow_23 : decode cX2_answerOfRow 23 = .ok (.iload_n 1, 1) := by decide +kernel
theorem dX2_answerOfRow_24 : decode cX2_answerOfRow 24 = .ok (.iaload, 1) := by decide +kernel
theorem dX2_answerOfRow_25 : decode cX2_answerOfRow 25 = .ok (.iconst 1, 1) := by decide +kernel
theorem dX2_answerOfRow_26 : decode cX2_answerOfRow 26 = .ok (.isub, 1) := by decide +kernel
theorem dX2_answerOfRow_27 : decode cX2_answerOfRow 27 = .ok (.istore 4, 2) := by decide +kernel
theorem dX2_answerOfRow_29 : decode cX2_answerOfRow 29 = .ok (.iload 4, 2) := by decide +kernel
theorem dX2_answerOfRow_31 : decode cX2_answerOfRow 31 = .ok (.iload_n 2, 1) := by decide +kernel
theorem dX2_answerOfRow_32 : decode cX2_answerOfRow 32 = .ok (.if_icmp .le 21, 3) := by decide +kernel
theorem dX2_answerOfRow_35 : decode cX2_answerOfRow 35 = .ok (.aload_n 0, 1) := by decide +kernel
theorem dX2_answerOfRow_36 : decode cX2_answerOfRow 36 = .ok (.getfield 30, 3) := by decide +kernel
theorem dX2_answerOfRow_39 : decode cX2_answerOfRow 39 = .ok (.aload_n 0, 1) := by decide +kernel
theorem dX2_answerOfRow_40 : decode cX2_answerOfRow 40 = .ok (.getfield 21, 3) := by decide +kernel
theorem dX2_answerOfRow_43 : decode cX2_answerOfRow 43 = .ok (.iload_n 3, 1) := by decide +kernel
theorem dX2_answerOfRow_44 : decode cX2_answerOfRow 44 = .ok (.iaload, 1) := by decide +kernel
theorem dX2_answerOfRow_45 : decode cX2_answerOfRow 45 = .ok (.iaload, 1) := by decide +kernel
theorem dX2_answerOfRow_46 : decode cX2_answerOfRow 46 = .ok (.istore_n 3, 1) := by decide +kernel
theorem dX2_answerOfRow_47 : decode cX2_answerOfRow 47 = .ok (.iinc 4 (-1), 3) := by decide +kernel
theorem dX2_answerOfRow_50 : decode cX2_answerOfRow 50 = .ok (.goto (-21), 3) := by decide +kernel
theorem dX2_answerOfRow_53 : decode cX2_answerOfRow 53 = .ok (.aload_n 0, 1) := by decide +kernel
theorem dX2_answerOfRow_54 : decode cX2_answerOfRow 54 = .ok (.getfield 36, 3) := by decide +kernel
theorem dX2_answerOfRow_57 : decode cX2_answerOfRow 57 = .ok (.aload_n 0, 1) := by decide +kernel
theorem dX2_answerOfRow_58 : decode cX2_answerOfRow 58 = .ok (.getfield 21, 3) := by decide +kernel
theorem dX2_answerOfRow_61 : decode cX2_answerOfRow 61 = .ok (.iload_n 3, 1) := by decide +kernel
theorem dX2_answerOfRow_62 : decode cX2_answerOfRow 62 = .ok (.iaload, 1) := by decide +kernel
theorem dX2_answerOfRow_63 : decode cX2_answerOfRow 63 = .ok (.iaload, 1) := by decide +kernel
theorem dX2_answerOfRow_64 : decode cX2_answerOfRow 64 = .ok (.ireturn, 1) := by decide +kernel
theorem dX2_answersOfRow_0 : decode cX2_answersOfRow 0 = .ok (.iconst 0, 1) := by decide +kernel
theorem dX2_answersOfRow_1 : decode cX2_answersOfRow 1 = .ok (.istore_n 2, 1) := by decide +kernel
theorem dX2_answersOfRow_2 : decode cX2_answersOfRow 2 = .ok (.iload_n 1, 1) := by decide +kernel
theorem dX2_answersOfRow_3 : decode cX2_answersOfRow 3 = .ok (.iconst (-1), 1) := by decide +kernel
theorem dX2_answersOfRow_4 : decode cX2_answersOfRow 4 = .ok (.if_icmp .eq 52, 3) := by decide +kernel
theorem dX2_answersOfRow_7 : decode cX2_answersOfRow 7 = .ok (.iload_n 1, 1) := by decide +kernel
theorem dX2_answersOfRow_8 : decode cX2_answersOfRow 8 = .ok (.istore_n 3, 1) := by decide +kernel
theorem dX2_answersOfRow_9 : decode cX2_answersOfRow 9 = .ok (.aload_n 0, 1) := by decide +kernel
theorem dX2_answersOfRow_10 : decode cX2_answersOfRow 10 = .ok (.getfield 18, 3) := by decide +kernel
theorem dX2_answersOfRow_13 : decode cX2_answersOfRow 13 = .ok (.iload_n 1, 1) := by decide +kernel
theorem dX2_answersOfRow_14 : decode cX2_answersOfRow 14 = .ok (.iaload, 1) := by decide +kernel
theorem dX2_answersOfRow_15 : decode cX2_answersOfRow 15 = .ok (.istore 4, 2) := by decide +kernel
theorem dX2_answersOfRow_17 : decode cX2_answersOfRow 17 = .ok (.iload 4, 2) := by decide +kernel
theorem dX2_answersOfRow_19 : decode cX2_answersOfRow 19 = .ok (.ifCond .le 37, 3) := by decide +kernel
theorem dX2_answersOfRow_22 : decode cX2_answersOfRow 22 = .ok (.iload_n 2, 1) := by decide +kernel
theorem dX2_answersOfRow_23 : decode cX2_answersOfRow 23 = .ok (.iconst 1, 1) := by decide +kernel
theorem dX2_answersOfRow_24 : decode cX2_answersOfRow 24 = .ok (.aload_n 0, 1) := by decide +kernel
theorem dX2_answersOfRow_25 : decode cX2_answersOfRow 25 = .ok (.getfield 36, 3) := by decide +kernel
theorem dX2_answersOfRow_28 : decode cX2_answersOfRow 28 = .ok (.aload_n 0, 1) := by decide +kernel
theorem dX2_answersOfRow_29 : decode cX2_answersOfRow 29 = .ok (.getfield 21, 3) := by decide +kernel
theorem dX2_answersOfRow_32 : decode cX2_answersOfRow 32 = .ok (.iload_n 3, 1) := by decide +kernel
theorem dX2_answersOfRow_33 : decode cX2_answersOfRow 33 = .ok (.iaload, 1) := by decide +kernel
theorem dX2_answersOfRow_34 : decode cX2_answersOfRow 34 = .ok (.iaload, 1) := by decide +kernel
theorem dX2_answersOfRow_35 : decode cX2_answersOfRow 35 = .ok (.ishl, 1) := by decide +kernel
theorem dX2_answersOfRow_36 : decode cX2_answersOfRow 36 = .ok (.ior, 1) := by decide +kernel
theorem dX2_answersOfRow_37 : decode cX2_answersOfRow 37 = .ok (.istore_n 2, 1) := by decide +kernel
theorem dX2_answersOfRow_38 : decode cX2_answersOfRow 38 = .ok (.aload_n 0, 1) := by decide +kernel
theorem dX2_answersOfRow_39 : decode cX2_answersOfRow 39 = .ok (.getfield 30, 3) := by decide +kernel
theorem dX2_answersOfRow_42 : decode cX2_answersOfRow 42 = .ok (.aload_n 0, 1) := by decide +kernel
theorem dX2_answersOfRow_43 : decode cX2_answersOfRow 43 = .ok (.getfield 21, 3) := by decide +kernel
theorem dX2_answersOfRow_46 : decode cX2_answersOfRow 46 = .ok (.iload_n 3, 1) := by decide +kernel
theorem dX2_answersOfRow_47 : decode cX2_answersOfRow 47 = .ok (.iaload, 1) := by decide +kernel
theorem dX2_answersOfRow_48 : decode cX2_answersOfRow 48 = .ok (.iaload, 1) := by decide +kernel
theorem dX2_answersOfRow_49 : decode cX2_answersOfRow 49 = .ok (.istore_n 3, 1) := by decide +kernel
theorem dX2_answersOfRow_50 : decode cX2_answersOfRow 50 = .ok (.iinc 4 (-1), 3) := by decide +kernel
theorem dX2_answersOfRow_53 : decode cX2_answersOfRow 53 = .ok (.goto (-36), 3) := by decide +kernel
theorem dX2_answersOfRow_56 : decode cX2_answersOfRow 56 = .ok (.iload_n 2, 1) := by decide +kernel
theorem dX2_answersOfRow_57 : decode cX2_answersOfRow 57 = .ok (.ireturn, 1) := by decide +kernel
theorem dX3_init_0 : decode cX3_init 0 = .ok (.aload_n 0, 1) := by decide +kernel
theorem dX3_init_1 : decode cX3_init 1 = .ok (.invokespecial 3, 3) := by decide +kernel
theorem dX3_init_4 : decode cX3_init 4 = .ok (.aload_n 0, 1) := by decide +kernel
theorem dX3_init_5 : decode cX3_init 5 = .ok (.sipush 1024, 3) := by decide +kernel
theorem dX3_init_8 : decode cX3_init 8 = .ok (.newarray .boolean, 2) := by decide +kernel
theorem dX3_init_10 : decode cX3_init 10 = .ok (.putfield 9, 3) := by decide +kernel
theorem dX3_init_13 : decode cX3_init 13 = .ok (.aload_n 0, 1) := by decide +kernel
theorem dX3_init_14 : decode cX3_init 14 = .ok (.sipush 1024, 3) := by decide +kernel
theorem dX3_init_17 : decode cX3_init 17 = .ok (.newarray .int, 2) := by decide +kernel
theorem dX3_init_19 : decode cX3_init 19 = .ok (.putfield 15, 3) := by decide +kernel
theorem dX3_init_22 : decode cX3_init 22 = .ok (.return_, 1) := by decide +kernel
theorem dX3_learn_0 : decode cX3_learn 0 = .ok (.aload_n 0, 1) := by decide +kernel
theorem dX3_learn_1 : decode cX3_learn 1 = .ok (.iconst 0, 1) := by decide +kernel
theorem dX3_learn_2 : decode cX3_learn 2 = .ok (.putfield 19, 3) := by decide +kernel
theorem dX3_learn_5 : decode cX3_learn 5 = .ok (.iconst 0, 1) := by decide +kernel
theorem dX3_learn_6 : decode cX3_learn 6 = .ok (.istore_n 3, 1) := by decide +kernel
theorem dX3_learn_7 : decode cX3_learn 7 = .ok (.iload_n 3, 1) := by decide +kernel
theorem dX3_learn_8 : decode cX3_learn 8 = .ok (.aload_n 1, 1) := by decide +kernel
theorem dX3_learn_9 : decode cX3_learn 9 = .ok (.getfield 23, 3) := by decide +kernel
theorem dX3_learn_12 : decode cX3_learn 12 = .ok (.if_icmp .ge 34, 3) := by decide +kernel
theorem dX3_learn_15 : decode cX3_learn 15 = .ok (.aload_n 0, 1) := by decide +kernel
theorem dX3_learn_16 : decode cX3_learn 16 = .ok (.getfield 9, 3) := by decide +kernel
theorem dX3_learn_19 : decode cX3_learn 19 = .ok (.iload_n 3, 1) := by decide +kernel
theorem dX3_learn_20 : decode cX3_learn 20 = .ok (.iconst 0, 1) := by decide +kernel
theorem dX3_learn_21 : decode cX3_learn 21 = .ok (.bastore, 1) := by decide +kernel
theorem dX3_learn_22 : decode cX3_learn 22 = .ok (.iload_n 2, 1) := by decide +kernel
theorem dX3_learn_23 : decode cX3_learn 23 = .ok (.aload_n 1, 1) := by decide +kernel
theorem dX3_learn_24 : decode cX3_learn 24 = .ok (.iload_n 3, 1) := by decide +kernel
theorem dX3_learn_25 : decode cX3_learn 25 = .ok (.invokevirtual 28, 3) := by decide +kernel
theorem dX3_learn_28 : decode cX3_learn 28 = .ok (.invokestatic 32, 3) := by decide +kernel
theorem dX3_learn_31 : decode cX3_learn 31 = .ok (.iconst 1, 1) := by decide +kernel
theorem dX3_learn_32 : decode cX3_learn 32 = .ok (.if_icmp .ne 8, 3) := by decide +kernel
theorem dX3_learn_35 : decode cX3_learn 35 = .ok (.aload_n 0, 1) := by decide +kernel
theorem dX3_learn_36 : decode cX3_learn 36 = .ok (.iload_n 3, 1) := by decide +kernel
theorem dX3_learn_37 : decode cX3_learn 37 = .ok (.invokevirtual 36, 3) := by decide +kernel
theorem dX3_learn_40 : decode cX3_learn 40 = .ok (.iinc 3 1, 3) := by decide +kernel
theorem dX3_learn_43 : decode cX3_learn 43 = .ok (.goto (-36), 3) := by decide +kernel
theorem dX3_learn_46 : decode cX3_learn 46 = .ok (.iconst 0, 1) := by decide +kernel
theorem dX3_learn_47 : decode cX3_learn 47 = .ok (.istore_n 3, 1) := by decide +kernel
theorem dX3_learn_48 : decode cX3_learn 48 = .ok (.iload_n 3, 1) := by decide +kernel
theorem dX3_learn_49 : decode cX3_learn 49 = .ok (.sipush 1024, 3) := by decide +kernel
theorem dX3_learn_52 : decode cX3_learn 52 = .ok (.if_icmp .ge 65, 3) := by decide +kernel
theorem dX3_learn_55 : decode cX3_learn 55 = .ok (.iload_n 3, 1) := by decide +kernel
theorem dX3_learn_56 : decode cX3_learn 56 = .ok (.aload_n 0, 1) := by decide +kernel
theorem dX3_learn_57 : decode cX3_learn 57 = .ok (.getfield 19, 3) := by decide +kernel
theorem dX3_learn_60 : decode cX3_learn 60 = .ok (.if_icmp .ge 57, 3) := by decide +kernel
theorem dX3_learn_63 : decode cX3_learn 63 = .ok (.aload_n 0, 1) := by decide +kernel
theorem dX3_learn_64 : decode cX3_learn 64 = .ok (.getfield 15, 3) := by decide +kernel
theorem dX3_learn_67 : decode cX3_learn 67 = .ok (.iload_n 3, 1) := by decide +kernel
theorem dX3_learn_68 : decode cX3_learn 68 = .ok (.iaload, 1) := by decide +kernel
theorem dX3_learn_69 : decode cX3_learn 69 = .ok (.istore 4, 2) := by decide +kernel
theorem dX3_learn_71 : decode cX3_learn 71 = .ok (.aload_n 1, 1) := by decide +kernel
theorem dX3_learn_72 : decode cX3_learn 72 = .ok (.getfield 40, 3) := by decide +kernel
theorem dX3_learn_75 : decode cX3_learn 75 = .ok (.iload 4, 2) := by decide +kernel
theorem dX3_learn_77 : decode cX3_learn 77 = .ok (.iaload, 1) := by decide +kernel
theorem dX3_learn_78 : decode cX3_learn 78 = .ok (.istore 5, 2) := by decide +kernel
theorem dX3_learn_80 : decode cX3_learn 80 = .ok (.iload 5, 2) := by decide +kernel
theorem dX3_learn_82 : decode cX3_learn 82 = .ok (.aload_n 1, 1) := by decide +kernel
theorem dX3_learn_83 : decode cX3_learn 83 = .ok (.getfield 40, 3) := by decide +kernel
theorem dX3_learn_86 : decode cX3_learn 86 = .ok (.iload 4, 2) := by decide +kernel
theorem dX3_learn_88 : decode cX3_learn 88 = .ok (.iconst 1, 1) := by decide +kernel
theorem dX3_learn_89 : decode cX3_learn 89 = .ok (.iadd, 1) := by decide +kernel
theorem dX3_learn_90 : decode cX3_learn 90 = .ok (.iaload, 1) := by decide +kernel
theorem dX3_learn_91 : decode cX3_learn 91 = .ok (.if_icmp .ge 20, 3) := by decide +kernel
theorem dX3_learn_94 : decode cX3_learn 94 = .ok (.aload_n 0, 1) := by decide +kernel
theorem dX3_learn_95 : decode cX3_learn 95 = .ok (.aload_n 1, 1) := by decide +kernel
theorem dX3_learn_96 : decode cX3_learn 96 = .ok (.getfield 43, 3) := by decide +kernel
theorem dX3_learn_99 : decode cX3_learn 99 = .ok (.iload 5, 2) := by decide +kernel
theorem dX3_learn_101 : decode cX3_learn 101 = .ok (.iaload, 1) := by decide +kernel
theorem dX3_learn_102 : decode cX3_learn 102 = .ok (.invokevirtual 36, 3) := by decide +kernel
theorem dX3_learn_105 : decode cX3_learn 105 = .ok (.iinc 5 1, 3) := by decide +kernel
theorem dX3_learn_108 : decode cX3_learn 108 = .ok (.goto (-28), 3) := by decide +kernel
theorem dX3_learn_111 : decode cX3_learn 111 = .ok (.iinc 3 1, 3) := by decide +kernel
theorem dX3_learn_114 : decode cX3_learn 114 = .ok (.goto (-66), 3) := by decide +kernel
theorem dX3_learn_117 : decode cX3_learn 117 = .ok (.return_, 1) := by decide +kernel
theorem dX3_admit_0 : decode cX3_admit 0 = .ok (.aload_n 0, 1) := by decide +kernel
theorem dX3_admit_1 : decode cX3_admit 1 = .ok (.getfield 9, 3) := by decide +kernel
theorem dX3_admit_4 : decode cX3_admit 4 = .ok (.iload_n 1, 1) := by decide +kernel
theorem dX3_admit_5 : decode cX3_admit 5 = .ok (.baload, 1) := by decide +kernel
theorem dX3_admit_6 : decode cX3_admit 6 = .ok (.ifCond .ne 40, 3) := by decide +kernel
theorem dX3_admit_9 : decode cX3_admit 9 = .ok (.aload_n 0, 1) := by decide +kernel
theorem dX3_admit_10 : decode cX3_admit 10 = .ok (.getfield 19, 3) := by decide +kernel
theorem dX3_admit_13 : decode cX3_admit 13 = .ok (.sipush 1024, 3) := by decide +kernel
theorem dX3_admit_16 : decode cX3_admit 16 = .ok (.if_icmp .ge 30, 3) := by decide +kernel
theorem dX3_admit_19 : decode cX3_admit 19 = .ok (.aload_n 0, 1) := by decide +kernel
theorem dX3_admit_20 : decode cX3_admit 20 = .ok (.getfield 9, 3) := by decide +kernel
theorem dX3_admit_23 : decode cX3_admit 23 = .ok (.iload_n 1, 1) := by decide +kernel
theorem dX3_admit_24 : decode cX3_admit 24 = .ok (.iconst 1, 1) := by decide +kernel
theorem dX3_admit_25 : decode cX3_admit 25 = .ok (.bastore, 1) := by decide +kernel
theorem dX3_admit_26 : decode cX3_admit 26 = .ok (.aload_n 0, 1) := by decide +kernel
theorem dX3_admit_27 : decode cX3_admit 27 = .ok (.getfield 15, 3) := by decide +kernel
theorem dX3_admit_30 : decode cX3_admit 30 = .ok (.aload_n 0, 1) := by decide +kernel
theorem dX3_admit_31 : decode cX3_admit 31 = .ok (.getfield 19, 3) := by decide +kernel
theorem dX3_admit_34 : decode cX3_admit 34 = .ok (.iload_n 1, 1) := by decide +kernel
theorem dX3_admit_35 : decode cX3_admit 35 = .ok (.iastore, 1) := by decide +kernel
theorem dX3_admit_36 : decode cX3_admit 36 = .ok (.aload_n 0, 1) := by decide +kernel
theorem dX3_admit_37 : decode cX3_admit 37 = .ok (.dup, 1) := by decide +kernel
theorem dX3_admit_38 : decode cX3_admit 38 = .ok (.getfield 19, 3) := by decide +kernel
theorem dX3_admit_41 : decode cX3_admit 41 = .ok (.iconst 1, 1) := by decide +kernel
theorem dX3_admit_42 : decode cX3_admit 42 = .ok (.iadd, 1) := by decide +kernel
theorem dX3_admit_43 : decode cX3_admit 43 = .ok (.putfield 19, 3) := by decide +kernel
theorem dX3_admit_46 : decode cX3_admit 46 = .ok (.return_, 1) := by decide +kernel
theorem dX4_init_0 : decode cX4_init 0 = .ok (.aload_n 0, 1) := by decide +kernel
theorem dX4_init_1 : decode cX4_init 1 = .ok (.invokespecial 3, 3) := by decide +kernel
theorem dX4_init_4 : decode cX4_init 4 = .ok (.aload_n 0, 1) := by decide +kernel
theorem dX4_init_5 : decode cX4_init 5 = .ok (.sipush 1024, 3) := by decide +kernel
theorem dX4_init_8 : decode cX4_init 8 = .ok (.newarray .boolean, 2) := by decide +kernel
theorem dX4_init_10 : decode cX4_init 10 = .ok (.putfield 9, 3) := by decide +kernel
theorem dX4_init_13 : decode cX4_init 13 = .ok (.aload_n 0, 1) := by decide +kernel
theorem dX4_init_14 : decode cX4_init 14 = .ok (.sipush 1024, 3) := by decide +kernel
theorem dX4_init_17 : decode cX4_init 17 = .ok (.newarray .boolean, 2) := by decide +kernel
theorem dX4_init_19 : decode cX4_init 19 = .ok (.putfield 15, 3) := by decide +kernel
theorem dX4_init_22 : decode cX4_init 22 = .ok (.aload_n 0, 1) := by decide +kernel
theorem dX4_init_23 : decode cX4_init 23 = .ok (.sipush 1024, 3) := by decide +kernel
theorem dX4_init_26 : decode cX4_init 26 = .ok (.newarray .int, 2) := by decide +kernel
theorem dX4_init_28 : decode cX4_init 28 = .ok (.putfield 18, 3) := by decide +kernel
theorem dX4_init_31 : decode cX4_init 31 = .ok (.aload_n 0, 1) := by decide +kernel
theorem dX4_init_32 : decode cX4_init 32 = .ok (.sipush 1024, 3) := by decide +kernel
theorem dX4_init_35 : decode cX4_init 35 = .ok (.newarray .int, 2) := by decide +kernel
theorem dX4_init_37 : decode cX4_init 37 = .ok (.putfield 22, 3) := by decide +kernel
theorem dX4_init_40 : decode cX4_init 40 = .ok (.aload_n 0, 1) := by decide +kernel
theorem dX4_init_41 : decode cX4_init 41 = .ok (.sipush 1024, 3) := by decide +kernel
theorem dX4_init_44 : decode cX4_init 44 = .ok (.newarray .int, 2) := by decide +kernel
theorem dX4_init_46 : decode cX4_init 46 = .ok (.putfield 25, 3) := by decide +kernel
theorem dX4_init_49 : decode cX4_init 49 = .ok (.aload_n 0, 1) := by decide +kernel
theorem dX4_init_50 : decode cX4_init 50 = .ok (.sipush 1024, 3) := by decide +kernel
theorem dX4_init_53 : decode cX4_init 53 = .ok (.newarray .int, 2) := by decide +kernel
theorem dX4_init_55 : decode cX4_init 55 = .ok (.putfield 28, 3) := by decide +kernel
theorem dX4_init_58 : decode cX4_init 58 = .ok (.return_, 1) := by decide +kernel
theorem dX4_learn_0 : decode cX4_learn 0 = .ok (.aload_n 0, 1) := by decide +kernel
theorem dX4_learn_1 : decode cX4_learn 1 = .ok (.aload_n 1, 1) := by decide +kernel
theorem dX4_learn_2 : decode cX4_learn 2 = .ok (.invokevirtual 31, 3) := by decide +kernel
theorem dX4_learn_5 : decode cX4_learn 5 = .ok (.aload_n 0, 1) := by decide +kernel
theorem dX4_learn_6 : decode cX4_learn 6 = .ok (.getfield 15, 3) := by decide +kernel
theorem dX4_learn_9 : decode cX4_learn 9 = .ok (.invokestatic 35, 3) := by decide +kernel
theorem dX4_learn_12 : decode cX4_learn 12 = .ok (.aload_n 0, 1) := by decide +kernel
theorem dX4_learn_13 : decode cX4_learn 13 = .ok (.getfield 9, 3) := by decide +kernel
theorem dX4_learn_16 : decode cX4_learn 16 = .ok (.invokestatic 35, 3) := by decide +kernel
theorem dX4_learn_19 : decode cX4_learn 19 = .ok (.aload_n 0, 1) := by decide +kernel
theorem dX4_learn_20 : decode cX4_learn 20 = .ok (.iconst 0, 1) := by decide +kernel
theorem dX4_learn_21 : decode cX4_learn 21 = .ok (.putfield 39, 3) := by decide +kernel
theorem dX4_learn_24 : decode cX4_learn 24 = .ok (.aload_n 1, 1) := by decide +kernel
theorem dX4_learn_25 : decode cX4_learn 25 = .ok (.getfield 43, 3) := by decide +kernel
theorem dX4_learn_28 : decode cX4_learn 28 = .ok (.iconst 1, 1) := by decide +kernel
theorem dX4_learn_29 : decode cX4_learn 29 = .ok (.isub, 1) := by decide +kernel
theorem dX4_learn_30 : decode cX4_learn 30 = .ok (.istore_n 2, 1) := by decide +kernel
theorem dX4_learn_31 : decode cX4_learn 31 = .ok (.iload_n 2, 1) := by decide +kernel
theorem dX4_learn_32 : decode cX4_learn 32 = .ok (.ifCond .lt 20, 3) := by decide +kernel
theorem dX4_learn_35 : decode cX4_learn 35 = .ok (.aload_n 0, 1) := by decide +kernel
theorem dX4_learn_36 : decode cX4_learn 36 = .ok (.aload_n 1, 1) := by decide +kernel
theorem dX4_learn_37 : decode cX4_learn 37 = .ok (.aload_n 0, 1) := by decide +kernel
theorem dX4_learn_38 : decode cX4_learn 38 = .ok (.getfield 25, 3) := by decide +kernel
theorem dX4_learn_41 : decode cX4_learn 41 = .ok (.iload_n 2, 1) := by decide +kernel
theorem dX4_learn_42 : decode cX4_learn 42 = .ok (.iaload, 1) := by decide +kernel
theorem dX4_learn_43 : decode cX4_learn 43 = .ok (.invokevirtual 48, 3) := by decide +kernel
theorem dX4_learn_46 : decode cX4_learn 46 = .ok (.iinc 2 (-1), 3) := by decide +kernel
theorem dX4_learn_49 : decode cX4_learn 49 = .ok (.goto (-18), 3) := by decide +kernel
theorem dX4_learn_52 : decode cX4_learn 52 = .ok (.iconst 0, 1) := by decide +kernel
theorem dX4_learn_53 : decode cX4_learn 53 = .ok (.istore_n 2, 1) := by decide +kernel
theorem dX4_learn_54 : decode cX4_learn 54 = .ok (.iload_n 2, 1) := by decide +kernel
theorem dX4_learn_55 : decode cX4_learn 55 = .ok (.aload_n 1, 1) := by decide +kernel
theorem dX4_learn_56 : decode cX4_learn 56 = .ok (.getfield 52, 3) := by decide +kernel
theorem dX4_learn_59 : decode cX4_learn 59 = .ok (.if_icmp .ge 36, 3) := by decide +kernel
theorem dX4_learn_62 : decode cX4_learn 62 = .ok (.aload_n 1, 1) := by decide +kernel
theorem dX4_learn_63 : decode cX4_learn 63 = .ok (.getfield 55, 3) := by decide +kernel
theorem dX4_learn_66 : decode cX4_learn 66 = .ok (.iload_n 2, 1) := by decide +kernel
theorem dX4_learn_67 : decode cX4_learn 67 = .ok (.iaload, 1) := by decide +kernel
theorem dX4_learn_68 : decode cX4_learn 68 = .ok (.aload_n 1, 1) := by decide +kernel
theorem dX4_learn_69 : decode cX4_learn 69 = .ok (.getfield 58, 3) := by decide +kernel
theorem dX4_learn_72 : decode cX4_learn 72 = .ok (.iload_n 2, 1) := by decide +kernel
theorem dX4_learn_73 : decode cX4_learn 73 = .ok (.iaload, 1) := by decide +kernel
theorem dX4_learn_74 : decode cX4_learn 74 = .ok (.if_icmp .ne 15, 3) := by decide +kernel
theorem dX4_learn_77 : decode cX4_learn 77 = .ok (.aload_n 0, 1) := by decide +kernel
theorem dX4_learn_78 : decode cX4_learn 78 = .ok (.getfield 9, 3) := by decide +kernel
theorem dX4_learn_81 : decode cX4_learn 81 = .ok (.aload_n 1, 1) := by decide +kernel
theorem dX4_learn_82 : decode cX4_learn 82 = .ok (.getfield 55, 3) := by decide +kernel
theorem dX4_learn_85 : decode cX4_learn 85 = .ok (.iload_n 2, 1) := by decide +kernel
theorem dX4_learn_86 : decode cX4_learn 86 = .ok (.iaload, 1) := by decide +kernel
theorem dX4_learn_87 : decode cX4_learn 87 = .ok (.iconst 1, 1) := by decide +kernel
theorem dX4_learn_88 : decode cX4_learn 88 = .ok (.bastore, 1) := by decide +kernel
theorem dX4_learn_89 : decode cX4_learn 89 = .ok (.iinc 2 1, 3) := by decide +kernel
theorem dX4_learn_92 : decode cX4_learn 92 = .ok (.goto (-38), 3) := by decide +kernel
theorem dX4_learn_95 : decode cX4_learn 95 = .ok (.return_, 1) := by decide +kernel
theorem dX4_clear_0 : decode cX4_clear 0 = .ok (.iconst 0, 1) := by decide +kernel
theorem dX4_clear_1 : decode cX4_clear 1 = .ok (.istore_n 1, 1) := by decide +kernel
theorem dX4_clear_2 : decode cX4_clear 2 = .ok (.iload_n 1, 1) := by decide +kernel
theorem dX4_clear_3 : decode cX4_clear 3 = .ok (.aload_n 0, 1) := by decide +kernel
theorem dX4_clear_4 : decode cX4_clear 4 = .ok (.arraylength, 1) := by decide +kernel
theorem dX4_clear_5 : decode cX4_clear 5 = .ok (.if_icmp .ge 13, 3) := by decide +kernel
theorem dX4_clear_8 : decode cX4_clear 8 = .ok (.aload_n 0, 1) := by decide +kernel
theorem dX4_clear_9 : decode cX4_clear 9 = .ok (.iload_n 1, 1) := by decide +kernel
theorem dX4_clear_10 : decode cX4_clear 10 = .ok (.iconst 0, 1) := by decide +kernel
theorem dX4_clear_11 : decode cX4_clear 11 = .ok (.bastore, 1) := by decide +kernel
theorem dX4_clear_12 : decode cX4_clear 12 = .ok (.iinc 1 1, 3) := by decide +kernel
theorem dX4_clear_15 : decode cX4_clear 15 = .ok (.goto (-13), 3) := by decide +kernel
theorem dX4_clear_18 : decode cX4_clear 18 = .ok (.return_, 1) := by decide +kernel
theorem dX4_finishAll_0 : decode cX4_finishAll 0 = .ok (.aload_n 0, 1) := by decide +kernel
theorem dX4_finishAll_1 : decode cX4_finishAll 1 = .ok (.getfield 15, 3) := by decide +kernel
theorem dX4_finishAll_4 : decode cX4_finishAll 4 = .ok (.invokestatic 35, 3) := by decide +kernel
theorem dX4_finishAll_7 : decode cX4_finishAll 7 = .ok (.aload_n 0, 1) := by decide +kernel
theorem dX4_finishAll_8 : decode cX4_finishAll 8 = .ok (.iconst 0, 1) := by decide +kernel
theorem dX4_finishAll_9 : decode cX4_finishAll 9 = .ok (.putfield 61, 3) := by decide +kernel
theorem dX4_finishAll_12 : decode cX4_finishAll 12 = .ok (.aload_n 0, 1) := by decide +kernel
theorem dX4_finishAll_13 : decode cX4_finishAll 13 = .ok (.aload_n 1, 1) := by decide +kernel
theorem dX4_finishAll_14 : decode cX4_finishAll 14 = .ok (.iconst 0, 1) := by decide +kernel
theorem dX4_finishAll_15 : decode cX4_finishAll 15 = .ok (.invokevirtual 64, 3) := by decide +kernel
theorem dX4_finishAll_18 : decode cX4_finishAll 18 = .ok (.iconst 0, 1) := by decide +kernel
theorem dX4_finishAll_19 : decode cX4_finishAll 19 = .ok (.istore_n 2, 1) := by decide +kernel
theorem dX4_finishAll_20 : decode cX4_finishAll 20 = .ok (.iconst 0, 1) := by decide +kernel
theorem dX4_finishAll_21 : decode cX4_finishAll 21 = .ok (.istore_n 3, 1) := by decide +kernel
theorem dX4_finishAll_22 : decode cX4_finishAll 22 = .ok (.iload_n 3, 1) := by decide +kernel
theorem dX4_finishAll_23 : decode cX4_finishAll 23 = .ok (.sipush 3072, 3) := by decide +kernel
theorem dX4_finishAll_26 : decode cX4_finishAll 26 = .ok (.if_icmp .ge 111, 3) := by decide +kernel
theorem dX4_finishAll_29 : decode cX4_finishAll 29 = .ok (.aload_n 0, 1) := by decide +kernel
theorem dX4_finishAll_30 : decode cX4_finishAll 30 = .ok (.getfield 61, 3) := by decide +kernel
theorem dX4_finishAll_33 : decode cX4_finishAll 33 = .ok (.ifCond .le 104, 3) := by decide +kernel
theorem dX4_finishAll_36 : decode cX4_finishAll 36 = .ok (.iload_n 2, 1) := by decide +kernel
theorem dX4_finishAll_37 : decode cX4_finishAll 37 = .ok (.sipush 1024, 3) := by decide +kernel
theorem dX4_finishAll_40 : decode cX4_finishAll 40 = .ok (.if_icmp .ge 97, 3) := by decide +kernel
theorem dX4_finishAll_43 : decode cX4_finishAll 43 = .ok (.aload_n 0, 1) := by decide +kernel
theorem dX4_finishAll_44 : decode cX4_finishAll 44 = .ok (.getfield 18, 3) := by decide +kernel
theorem dX4_finishAll_47 : decode cX4_finishAll 47 = .ok (.aload_n 0, 1) := by decide +kernel
theorem dX4_finishAll_48 : decode cX4_finishAll 48 = .ok (.getfield 61, 3) := by decide +kernel
theorem dX4_finishAll_51 : decode cX4_finishAll 51 = .ok (.iconst 1, 1) := by decide +kernel
theorem dX4_finishAll_52 : decode cX4_finishAll 52 = .ok (.isub, 1) := by decide +kernel
theorem dX4_finishAll_53 : decode cX4_finishAll 53 = .ok (.iaload, 1) := by decide +kernel
theorem dX4_finishAll_54 : decode cX4_finishAll 54 = .ok (.istore 4, 2) := by decide +kernel
theorem dX4_finishAll_56 : decode cX4_finishAll 56 = .ok (.aload_n 0, 1) := by decide +kernel
theorem dX4_finishAll_57 : decode cX4_finishAll 57 = .ok (.getfield 22, 3) := by decide +kernel
theorem dX4_finishAll_60 : decode cX4_finishAll 60 = .ok (.iload 4, 2) := by decide +kernel
theorem dX4_finishAll_62 : decode cX4_finishAll 62 = .ok (.iaload, 1) := by decide +kernel
theorem dX4_finishAll_63 : decode cX4_finishAll 63 = .ok (.aload_n 1, 1) := by decide +kernel
theorem dX4_finishAll_64 : decode cX4_finishAll 64 = .ok (.getfield 67, 3) := by decide +kernel
theorem dX4_finishAll_67 : decode cX4_finishAll 67 = .ok (.iload 4, 2) := by decide +kernel
theorem dX4_finishAll_69 : decode cX4_finishAll 69 = .ok (.iconst 1, 1) := by decide +kernel
theorem dX4_finishAll_70 : decode cX4_finishAll 70 = .ok (.iadd, 1) := by decide +kernel
theorem dX4_finishAll_71 : decode cX4_finishAll 71 = .ok (.iaload, 1) := by decide +kernel
theorem dX4_finishAll_72 : decode cX4_finishAll 72 = .ok (.if_icmp .ge 38, 3) := by decide +kernel
theorem dX4_finishAll_75 : decode cX4_finishAll 75 = .ok (.aload_n 1, 1) := by decide +kernel
theorem dX4_finishAll_76 : decode cX4_finishAll 76 = .ok (.getfield 58, 3) := by decide +kernel
theorem dX4_finishAll_79 : decode cX4_finishAll 79 = .ok (.aload_n 0, 1) := by decide +kernel
theorem dX4_finishAll_80 : decode cX4_finishAll 80 = .ok (.getfield 22, 3) := by decide +kernel
theorem dX4_finishAll_83 : decode cX4_finishAll 83 = .ok (.iload 4, 2) := by decide +kernel
theorem dX4_finishAll_85 : decode cX4_finishAll 85 = .ok (.iaload, 1) := by decide +kernel
theorem dX4_finishAll_86 : decode cX4_finishAll 86 = .ok (.iaload, 1) := by decide +kernel
theorem dX4_finishAll_87 : decode cX4_finishAll 87 = .ok (.istore 5, 2) := by decide +kernel
theorem dX4_finishAll_89 : decode cX4_finishAll 89 = .ok (.aload_n 0, 1) := by decide +kernel
theorem dX4_finishAll_90 : decode cX4_finishAll 90 = .ok (.getfield 22, 3) := by decide +kernel
theorem dX4_finishAll_93 : decode cX4_finishAll 93 = .ok (.iload 4, 2) := by decide +kernel
theorem dX4_finishAll_95 : decode cX4_finishAll 95 = .ok (.dup2, 1) := by decide +kernel
theorem dX4_finishAll_96 : decode cX4_finishAll 96 = .ok (.iaload, 1) := by decide +kernel
theorem dX4_finishAll_97 : decode cX4_finishAll 97 = .ok (.iconst 1, 1) := by decide +kernel
theorem dX4_finishAll_98 : decode cX4_finishAll 98 = .ok (.iadd, 1) := by decide +kernel
theorem dX4_finishAll_99 : decode cX4_finishAll 99 = .ok (.iastore, 1) := by decide +kernel
theorem dX4_finishAll_100 : decode cX4_finishAll 100 = .ok (.aload_n 0, 1) := by decide +kernel
theorem dX4_finishAll_101 : decode cX4_finishAll 101 = .ok (.aload_n 1, 1) := by decide +kernel
theorem dX4_finishAll_102 : decode cX4_finishAll 102 = .ok (.iload 5, 2) := by decide +kernel
theorem dX4_finishAll_104 : decode cX4_finishAll 104 = .ok (.invokevirtual 64, 3) := by decide +kernel
theorem dX4_finishAll_107 : decode cX4_finishAll 107 = .ok (.goto 24, 3) := by decide +kernel
theorem dX4_finishAll_110 : decode cX4_finishAll 110 = .ok (.aload_n 0, 1) := by decide +kernel
theorem dX4_finishAll_111 : decode cX4_finishAll 111 = .ok (.getfield 25, 3) := by decide +kernel
theorem dX4_finishAll_114 : decode cX4_finishAll 114 = .ok (.iload_n 2, 1) := by decide +kernel
theorem dX4_finishAll_115 : decode cX4_finishAll 115 = .ok (.iload 4, 2) := by decide +kernel
theorem dX4_finishAll_117 : decode cX4_finishAll 117 = .ok (.iastore, 1) := by decide +kernel
theorem dX4_finishAll_118 : decode cX4_finishAll 118 = .ok (.iinc 2 1, 3) := by decide +kernel
theorem dX4_finishAll_121 : decode cX4_finishAll 121 = .ok (.aload_n 0, 1) := by decide +kernel
theorem dX4_finishAll_122 : decode cX4_finishAll 122 = .ok (.dup, 1) := by decide +kernel
theorem dX4_finishAll_123 : decode cX4_finishAll 123 = .ok (.getfield 61, 3) := by decide +kernel
theorem dX4_finishAll_126 : decode cX4_finishAll 126 = .ok (.iconst 1, 1) := by decide +kernel
theorem dX4_finishAll_127 : decode cX4_finishAll 127 = .ok (.isub, 1) := by decide +kernel
theorem dX4_finishAll_128 : decode cX4_finishAll 128 = .ok (.putfield 61, 3) := by decide +kernel
theorem dX4_finishAll_131 : decode cX4_finishAll 131 = .ok (.iinc 3 1, 3) := by decide +kernel
theorem dX4_finishAll_134 : decode cX4_finishAll 134 = .ok (.goto (-112), 3) := by decide +kernel
theorem dX4_finishAll_137 : decode cX4_finishAll 137 = .ok (.return_, 1) := by decide +kernel
theorem dX4_push_0 : decode cX4_push 0 = .ok (.aload_n 0, 1) := by decide +kernel
theorem dX4_push_1 : decode cX4_push 1 = .ok (.getfield 15, 3) := by decide +kernel
theorem dX4_push_4 : decode cX4_push 4 = .ok (.iload_n 2, 1) := by decide +kernel
theorem dX4_push_5 : decode cX4_push 5 = .ok (.baload, 1) := by decide +kernel
theorem dX4_push_6 : decode cX4_push 6 = .ok (.ifCond .ne 52, 3) := by decide +kernel
theorem dX4_push_9 : decode cX4_push 9 = .ok (.aload_n 0, 1) := by decide +kernel
theorem dX4_push_10 : decode cX4_push 10 = .ok (.getfield 61, 3) := by decide +kernel
theorem dX4_push_13 : decode cX4_push 13 = .ok (.sipush 1024, 3) := by decide +kernel
theorem dX4_push_16 : decode cX4_push 16 = .ok (.if_icmp .ge 42, 3) := by decide +kernel
theorem dX4_push_19 : decode cX4_push 19 = .ok (.aload_n 0, 1) := by decide +kernel
theorem dX4_push_20 : decode cX4_push 20 = .ok (.getfield 15, 3) := by decide +kernel
theorem dX4_push_23 : decode cX4_push 23 = .ok (.iload_n 2, 1) := by decide +kernel
theorem dX4_push_24 : decode cX4_push 24 = .ok (.iconst 1, 1) := by decide +kernel
theorem dX4_push_25 : decode cX4_push 25 = .ok (.bastore, 1) := by decide +kernel
theorem dX4_push_26 : decode cX4_push 26 = .ok (.aload_n 0, 1) := by decide +kernel
theorem dX4_push_27 : decode cX4_push 27 = .ok (.getfield 22, 3) := by decide +kernel
theorem dX4_push_30 : decode cX4_push 30 = .ok (.iload_n 2, 1) := by decide +kernel
theorem dX4_push_31 : decode cX4_push 31 = .ok (.aload_n 1, 1) := by decide +kernel
theorem dX4_push_32 : decode cX4_push 32 = .ok (.getfield 67, 3) := by decide +kernel
theorem dX4_push_35 : decode cX4_push 35 = .ok (.iload_n 2, 1) := by decide +kernel
theorem dX4_push_36 : decode cX4_push 36 = .ok (.iaload, 1) := by decide +kernel
theorem dX4_push_37 : decode cX4_push 37 = .ok (.iastore, 1) := by decide +kernel
theorem dX4_push_38 : decode cX4_push 38 = .ok (.aload_n 0, 1) := by decide +kernel
theorem dX4_push_39 : decode cX4_push 39 = .ok (.getfield 18, 3) := by decide +kernel
theorem dX4_push_42 : decode cX4_push 42 = .ok (.aload_n 0, 1) := by decide +kernel
theorem dX4_push_43 : decode cX4_push 43 = .ok (.getfield 61, 3) := by decide +kernel
theorem dX4_push_46 : decode cX4_push 46 = .ok (.iload_n 2, 1) := by decide +kernel
theorem dX4_push_47 : decode cX4_push 47 = .ok (.iastore, 1) := by decide +kernel
theorem dX4_push_48 : decode cX4_push 48 = .ok (.aload_n 0, 1) := by decide +kernel
theorem dX4_push_49 : decode cX4_push 49 = .ok (.dup, 1) := by decide +kernel
theorem dX4_push_50 : decode cX4_push 50 = .ok (.getfield 61, 3) := by decide +kernel
theorem dX4_push_53 : decode cX4_push 53 = .ok (.iconst 1, 1) := by decide +kernel
theorem dX4_push_54 : decode cX4_push 54 = .ok (.iadd, 1) := by decide +kernel
theorem dX4_push_55 : decode cX4_push 55 = .ok (.putfield 61, 3) := by decide +kernel
theorem dX4_push_58 : decode cX4_push 58 = .ok (.return_, 1) := by decide +kernel
theorem dX4_gatherComponent_0 : decode cX4_gatherComponent 0 = .ok (.aload_n 0, 1) := by decide +kernel
theorem dX4_gatherComponent_1 : decode cX4_gatherComponent 1 = .ok (.getfield 39, 3) := by decide +kernel
theorem dX4_gatherComponent_4 : decode cX4_gatherComponent 4 = .ok (.istore_n 3, 1) := by decide +kernel
theorem dX4_gatherComponent_5 : decode cX4_gatherComponent 5 = .ok (.aload_n 0, 1) := by decide +kernel
theorem dX4_gatherComponent_6 : decode cX4_gatherComponent 6 = .ok (.iload_n 2, 1) := by decide +kernel
theorem dX4_gatherComponent_7 : decode cX4_gatherComponent 7 = .ok (.invokevirtual 70, 3) := by decide +kernel
theorem dX4_gatherComponent_10 : decode cX4_gatherComponent 10 = .ok (.iload_n 3, 1) := by decide +kernel
theorem dX4_gatherComponent_11 : decode cX4_gatherComponent 11 = .ok (.istore 4, 2) := by decide +kernel
theorem dX4_gatherComponent_13 : decode cX4_gatherComponent 13 = .ok (.iload 4, 2) := by decide +kernel
theorem dX4_gatherComponent_15 : decode cX4_gatherComponent 15 = .ok (.sipush 1024, 3) := by decide +kernel
theorem dX4_gatherComponent_18 : decode cX4_gatherComponent 18 = .ok (.if_icmp .ge 67, 3) := by decide +kernel
theorem dX4_gatherComponent_21 : decode cX4_gatherComponent 21 = .ok (.iload 4, 2) := by decide +kernel
theorem dX4_gatherComponent_23 : decode cX4_gatherComponent 23 = .ok (.aload_n 0, 1) := by decide +kernel
theorem dX4_gatherComponent_24 : decode cX4_gatherComponent 24 = .ok (.getfield 39, 3) := by decide +kernel
theorem dX4_gatherComponent_27 : decode cX4_gatherComponent 27 = .ok (.if_icmp .ge 58, 3) := by decide +kernel
theorem dX4_gatherComponent_30 : decode cX4_gatherComponent 30 = .ok (.aload_n 0, 1) := by decide +kernel
theorem dX4_gatherComponent_31 : decode cX4_gatherComponent 31 = .ok (.getfield 28, 3) := by decide +kernel
theorem dX4_gatherComponent_34 : decode cX4_gatherComponent 34 = .ok (.iload 4, 2) := by decide +kernel
theorem dX4_gatherComponent_36 : decode cX4_gatherComponent 36 = .ok (.iaload, 1) := by decide +kernel
theorem dX4_gatherComponent_37 : decode cX4_gatherComponent 37 = .ok (.istore 5, 2) := by decide +kernel
theorem dX4_gatherComponent_39 : decode cX4_gatherComponent 39 = .ok (.aload_n 1, 1) := by decide +kernel
theorem dX4_gatherComponent_40 : decode cX4_gatherComponent 40 = .ok (.getfield 74, 3) := by decide +kernel
theorem dX4_gatherComponent_43 : decode cX4_gatherComponent 43 = .ok (.iload 5, 2) := by decide +kernel
theorem dX4_gatherComponent_45 : decode cX4_gatherComponent 45 = .ok (.iaload, 1) := by decide +kernel
theorem dX4_gatherComponent_46 : decode cX4_gatherComponent 46 = .ok (.istore 6, 2) := by decide +kernel
theorem dX4_gatherComponent_48 : decode cX4_gatherComponent 48 = .ok (.iload 6, 2) := by decide +kernel
theorem dX4_gatherComponent_50 : decode cX4_gatherComponent 50 = .ok (.aload_n 1, 1) := by decide +kernel
theorem dX4_gatherComponent_51 : decode cX4_gatherComponent 51 = .ok (.getfield 74, 3) := by decide +kernel
theorem dX4_gatherComponent_54 : decode cX4_gatherComponent 54 = .ok (.iload 5, 2) := by decide +kernel
theorem dX4_gatherComponent_56 : decode cX4_gatherComponent 56 = .ok (.iconst 1, 1) := by decide +kernel
theorem dX4_gatherComponent_57 : decode cX4_gatherComponent 57 = .ok (.iadd, 1) := by decide +kernel
theorem dX4_gatherComponent_58 : decode cX4_gatherComponent 58 = .ok (.iaload, 1) := by decide +kernel
theorem dX4_gatherComponent_59 : decode cX4_gatherComponent 59 = .ok (.if_icmp .ge 20, 3) := by decide +kernel
theorem dX4_gatherComponent_62 : decode cX4_gatherComponent 62 = .ok (.aload_n 0, 1) := by decide +kernel
theorem dX4_gatherComponent_63 : decode cX4_gatherComponent 63 = .ok (.aload_n 1, 1) := by decide +kernel
theorem dX4_gatherComponent_64 : decode cX4_gatherComponent 64 = .ok (.getfield 77, 3) := by decide +kernel
theorem dX4_gatherComponent_67 : decode cX4_gatherComponent 67 = .ok (.iload 6, 2) := by decide +kernel
theorem dX4_gatherComponent_69 : decode cX4_gatherComponent 69 = .ok (.iaload, 1) := by decide +kernel
theorem dX4_gatherComponent_70 : decode cX4_gatherComponent 70 = .ok (.invokevirtual 70, 3) := by decide +kernel
theorem dX4_gatherComponent_73 : decode cX4_gatherComponent 73 = .ok (.iinc 6 1, 3) := by decide +kernel
theorem dX4_gatherComponent_76 : decode cX4_gatherComponent 76 = .ok (.goto (-28), 3) := by decide +kernel
theorem dX4_gatherComponent_79 : decode cX4_gatherComponent 79 = .ok (.iinc 4 1, 3) := by decide +kernel
theorem dX4_gatherComponent_82 : decode cX4_gatherComponent 82 = .ok (.goto (-69), 3) := by decide +kernel
theorem dX4_gatherComponent_85 : decode cX4_gatherComponent 85 = .ok (.aload_n 0, 1) := by decide +kernel
theorem dX4_gatherComponent_86 : decode cX4_gatherComponent 86 = .ok (.getfield 39, 3) := by decide +kernel
theorem dX4_gatherComponent_89 : decode cX4_gatherComponent 89 = .ok (.iload_n 3, 1) := by decide +kernel
theorem dX4_gatherComponent_90 : decode cX4_gatherComponent 90 = .ok (.isub, 1) := by decide +kernel
theorem dX4_gatherComponent_91 : decode cX4_gatherComponent 91 = .ok (.iconst 1, 1) := by decide +kernel
theorem dX4_gatherComponent_92 : decode cX4_gatherComponent 92 = .ok (.if_icmp .le 34, 3) := by decide +kernel
theorem dX4_gatherComponent_95 : decode cX4_gatherComponent 95 = .ok (.iload_n 3, 1) := by decide +kernel
theorem dX4_gatherComponent_96 : decode cX4_gatherComponent 96 = .ok (.istore 4, 2) := by decide +kernel
theorem dX4_gatherComponent_98 : decode cX4_gatherComponent 98 = .ok (.iload 4, 2) := by decide +kernel
theorem dX4_gatherComponent_100 : decode cX4_gatherComponent 100 = .ok (.aload_n 0, 1) := by decide +kernel
theorem dX4_gatherComponent_101 : decode cX4_gatherComponent 101 = .ok (.getfield 39, 3) := by decide +kernel
theorem dX4_gatherComponent_104 : decode cX4_gatherComponent 104 = .ok (.if_icmp .ge 22, 3) := by decide +kernel
theorem dX4_gatherComponent_107 : decode cX4_gatherComponent 107 = .ok (.aload_n 0, 1) := by decide +kernel
theorem dX4_gatherComponent_108 : decode cX4_gatherComponent 108 = .ok (.getfield 9, 3) := by decide +kernel
theorem dX4_gatherComponent_111 : decode cX4_gatherComponent 111 = .ok (.aload_n 0, 1) := by decide +kernel
theorem dX4_gatherComponent_112 : decode cX4_gatherComponent 112 = .ok (.getfield 28, 3) := by decide +kernel
theorem dX4_gatherComponent_115 : decode cX4_gatherComponent 115 = .ok (.iload 4, 2) := by decide +kernel
theorem dX4_gatherComponent_117 : decode cX4_gatherComponent 117 = .ok (.iaload, 1) := by decide +kernel
theorem dX4_gatherComponent_118 : decode cX4_gatherComponent 118 = .ok (.iconst 1, 1) := by decide +kernel
theorem dX4_gatherComponent_119 : decode cX4_gatherComponent 119 = .ok (.bastore, 1) := by decide +kernel
theorem dX4_gatherComponent_120 : decode cX4_gatherComponent 120 = .ok (.iinc 4 1, 3) := by decide +kernel
theorem dX4_gatherComponent_123 : decode cX4_gatherComponent 123 = .ok (.goto (-25), 3) := by decide +kernel
theorem dX4_gatherComponent_126 : decode cX4_gatherComponent 126 = .ok (.return_, 1) := by decide +kernel
theorem dX4_join_0 : decode cX4_join 0 = .ok (.aload_n 0, 1) := by decide +kernel
theorem dX4_join_1 : decode cX4_join 1 = .ok (.getfield 15, 3) := by decide +kernel
theorem dX4_join_4 : decode cX4_join 4 = .ok (.iload_n 1, 1) := by decide +kernel
theorem dX4_join_5 : decode cX4_join 5 = .ok (.baload, 1) := by decide +kernel
theorem dX4_join_6 : decode cX4_join 6 = .ok (.ifCond .ne 40, 3) := by decide +kernel
theorem dX4_join_9 : decode cX4_join 9 = .ok (.aload_n 0, 1) := by decide +kernel
theorem dX4_join_10 : decode cX4_join 10 = .ok (.getfield 39, 3) := by decide +kernel
theorem dX4_join_13 : decode cX4_join 13 = .ok (.sipush 1024, 3) := by decide +kernel
theorem dX4_join_16 : decode cX4_join 16 = .ok (.if_icmp .ge 30, 3) := by decide +kernel
theorem dX4_join_19 : decode cX4_join 19 = .ok (.aload_n 0, 1) := by decide +kernel
theorem dX4_join_20 : decode cX4_join 20 = .ok (.getfield 15, 3) := by decide +kernel
theorem dX4_join_23 : decode cX4_join 23 = .ok (.iload_n 1, 1) := by decide +kernel
theorem dX4_join_24 : decode cX4_join 24 = .ok (.iconst 1, 1) := by decide +kernel
theorem dX4_join_25 : decode cX4_join 25 = .ok (.bastore, 1) := by decide +kernel
theorem dX4_join_26 : decode cX4_join 26 = .ok (.aload_n 0, 1) := by decide +kernel
theorem dX4_join_27 : decode cX4_join 27 = .ok (.getfield 28, 3) := by decide +kernel
theorem dX4_join_30 : decode cX4_join 30 = .ok (.aload_n 0, 1) := by decide +kernel
theorem dX4_join_31 : decode cX4_join 31 = .ok (.getfield 39, 3) := by decide +kernel
theorem dX4_join_34 : decode cX4_join 34 = .ok (.iload_n 1, 1) := by decide +kernel
theorem dX4_join_35 : decode cX4_join 35 = .ok (.iastore, 1) := by decide +kernel
theorem dX4_join_36 : decode cX4_join 36 = .ok (.aload_n 0, 1) := by decide +kernel
theorem dX4_join_37 : decode cX4_join 37 = .ok (.dup, 1) := by decide +kernel
theorem dX4_join_38 : decode cX4_join 38 = .ok (.getfield 39, 3) := by decide +kernel
theorem dX4_join_41 : decode cX4_join 41 = .ok (.iconst 1, 1) := by decide +kernel
theorem dX4_join_42 : decode cX4_join 42 = .ok (.iadd, 1) := by decide +kernel
theorem dX4_join_43 : decode cX4_join 43 = .ok (.putfield 39, 3) := by decide +kernel
theorem dX4_join_46 : decode cX4_join 46 = .ok (.return_, 1) := by decide +kernel
theorem dX5_init_0 : decode cX5_init 0 = .ok (.aload_n 0, 1) := by decide +kernel
theorem dX5_init_1 : decode cX5_init 1 = .ok (.invokespecial 3, 3) := by decide +kernel
theorem dX5_init_4 : decode cX5_init 4 = .ok (.aload_n 0, 1) := by decide +kernel
theorem dX5_init_5 : decode cX5_init 5 = .ok (.sipush 1024, 3) := by decide +kernel
theorem dX5_init_8 : decode cX5_init 8 = .ok (.newarray .int, 2) := by decide +kernel
theorem dX5_init_10 : decode cX5_init 10 = .ok (.putfield 9, 3) := by decide +kernel
theorem dX5_init_13 : decode cX5_init 13 = .ok (.return_, 1) := by decide +kernel
theorem dX5_learn_0 : decode cX5_learn 0 = .ok (.aload_n 0, 1) := by decide +kernel
theorem dX5_learn_1 : decode cX5_learn 1 = .ok (.getfield 9, 3) := by decide +kernel
theorem dX5_learn_4 : decode cX5_learn 4 = .ok (.sipush 10240, 3) := by decide +kernel
theorem dX5_learn_7 : decode cX5_learn 7 = .ok (.invokestatic 15, 3) := by decide +kernel
theorem dX5_learn_10 : decode cX5_learn 10 = .ok (.aload_n 0, 1) := by decide +kernel
theorem dX5_learn_11 : decode cX5_learn 11 = .ok (.getfield 9, 3) := by decide +kernel
theorem dX5_learn_14 : decode cX5_learn 14 = .ok (.iconst 0, 1) := by decide +kernel
theorem dX5_learn_15 : decode cX5_learn 15 = .ok (.iconst 0, 1) := by decide +kernel
theorem dX5_learn_16 : decode cX5_learn 16 = .ok (.iastore, 1) := by decide +kernel
theorem dX5_learn_17 : decode cX5_learn 17 = .ok (.iconst 1, 1) := by decide +kernel
theorem dX5_learn_18 : decode cX5_learn 18 = .ok (.istore_n 3, 1) := by decide +kernel
theorem dX5_learn_19 : decode cX5_learn 19 = .ok (.iconst 0, 1) := by decide +kernel
theorem dX5_learn_20 : decode cX5_learn 20 = .ok (.istore 4, 2) := by decide +kernel
theorem dX5_learn_22 : decode cX5_learn 22 = .ok (.iload 4, 2) := by decide +kernel
theorem dX5_learn_24 : decode cX5_learn 24 = .ok (.sipush 1024, 3) := by decide +kernel
theorem dX5_learn_27 : decode cX5_learn 27 = .ok (.if_icmp .ge 90, 3) := by decide +kernel
theorem dX5_learn_30 : decode cX5_learn 30 = .ok (.iload_n 3, 1) := by decide +kernel
theorem dX5_learn_31 : decode cX5_learn 31 = .ok (.ifCond .eq 86, 3) := by decide +kernel
theorem dX5_learn_34 : decode cX5_learn 34 = .ok (.iconst 0, 1) := by decide +kernel
theorem dX5_learn_35 : decode cX5_learn 35 = .ok (.istore_n 3, 1) := by decide +kernel
theorem dX5_learn_36 : decode cX5_learn 36 = .ok (.iconst 0, 1) := by decide +kernel
theorem dX5_learn_37 : decode cX5_learn 37 = .ok (.istore 5, 2) := by decide +kernel
theorem dX5_learn_39 : decode cX5_learn 39 = .ok (.iload 5, 2) := by decide +kernel
theorem dX5_learn_41 : decode cX5_learn 41 = .ok (.aload_n 1, 1) := by decide +kernel
theorem dX5_learn_42 : decode cX5_learn 42 = .ok (.getfield 21, 3) := by decide +kernel
theorem dX5_learn_45 : decode cX5_learn 45 = .ok (.if_icmp .ge 66, 3) := by decide +kernel
theorem dX5_learn_48 : decode cX5_learn 48 = .ok (.aload_n 0, 1) := by decide +kernel
theorem dX5_learn_49 : decode cX5_learn 49 = .ok (.getfield 9, 3) := by decide +kernel
theorem dX5_learn_52 : decode cX5_learn 52 = .ok (.aload_n 1, 1) := by decide +kernel
theorem dX5_learn_53 : decode cX5_learn 53 = .ok (.getfield 27, 3) := by decide +kernel
theorem dX5_learn_56 : decode cX5_learn 56 = .ok (.iload 5, 2) := by decide +kernel
theorem dX5_learn_58 : decode cX5_learn 58 = .ok (.iaload, 1) := by decide +kernel
theorem dX5_learn_59 : decode cX5_learn 59 = .ok (.iaload, 1) := by decide +kernel
theorem dX5_learn_60 : decode cX5_learn 60 = .ok (.aload_n 2, 1) := by decide +kernel
theorem dX5_learn_61 : decode cX5_learn 61 = .ok (.aload_n 1, 1) := by decide +kernel
theorem dX5_learn_62 : decode cX5_learn 62 = .ok (.getfield 30, 3) := by decide +kernel
theorem dX5_learn_65 : decode cX5_learn 65 = .ok (.iload 5, 2) := by decide +kernel
theorem dX5_learn_67 : decode cX5_learn 67 = .ok (.iaload, 1) := by decide +kernel
theorem dX5_learn_68 : decode cX5_learn 68 = .ok (.iaload, 1) := by decide +kernel
theorem dX5_learn_69 : decode cX5_learn 69 = .ok (.iadd, 1) := by decide +kernel
theorem dX5_learn_70 : decode cX5_learn 70 = .ok (.istore 6, 2) := by decide +kernel
theorem dX5_learn_72 : decode cX5_learn 72 = .ok (.iload 6, 2) := by decide +kernel
theorem dX5_learn_74 : decode cX5_learn 74 = .ok (.aload_n 0, 1) := by decide +kernel
theorem dX5_learn_75 : decode cX5_learn 75 = .ok (.getfield 9, 3) := by decide +kernel
theorem dX5_learn_78 : decode cX5_learn 78 = .ok (.aload_n 1, 1) := by decide +kernel
theorem dX5_learn_79 : decode cX5_learn 79 = .ok (.getfield 33, 3) := by decide +kernel
theorem dX5_learn_82 : decode cX5_learn 82 = .ok (.iload 5, 2) := by decide +kernel
theorem dX5_learn_84 : decode cX5_learn 84 = .ok (.iaload, 1) := by decide +kernel
theorem dX5_learn_85 : decode cX5_learn 85 = .ok (.iaload, 1) := by decide +kernel
theorem dX5_learn_86 : decode cX5_learn 86 = .ok (.if_icmp .ge 19, 3) := by decide +kernel
theorem dX5_learn_89 : decode cX5_learn 89 = .ok (.aload_n 0, 1) := by decide +kernel
theorem dX5_learn_90 : decode cX5_learn 90 = .ok (.getfield 9, 3) := by decide +kernel
theorem dX5_learn_93 : decode cX5_learn 93 = .ok (.aload_n 1, 1) := by decide +kernel
theorem dX5_learn_94 : decode cX5_learn 94 = .ok (.getfield 33, 3) := by decide +kernel
theorem dX5_learn_97 : decode cX5_learn 97 = .ok (.iload 5, 2) := by decide +kernel
theorem dX5_learn_99 : decode cX5_learn 99 = .ok (.iaload, 1) := by decide +kernel
theorem dX5_learn_100 : decode cX5_learn 100 = .ok (.iload 6, 2) := by decide +kernel
theorem dX5_learn_102 : decode cX5_learn 102 = .ok (.iastore, 1) := by decide +kernel
theorem dX5_learn_103 : decode cX5_learn 103 = .ok (.iconst 1, 1) := by decide +kernel
theorem dX5_learn_104 : decode cX5_learn 104 = .ok (.istore_n 3, 1) := by decide +kernel
theorem dX5_learn_105 : decode cX5_learn 105 = .ok (.iinc 5 1, 3) := by decide +kernel
theorem dX5_learn_108 : decode cX5_learn 108 = .ok (.goto (-69), 3) := by decide +kernel
theorem dX5_learn_111 : decode cX5_learn 111 = .ok (.iinc 4 1, 3) := by decide +kernel
theorem dX5_learn_114 : decode cX5_learn 114 = .ok (.goto (-92), 3) := by decide +kernel
theorem dX5_learn_117 : decode cX5_learn 117 = .ok (.return_, 1) := by decide +kernel
theorem dX5_cheapestOf_0 : decode cX5_cheapestOf 0 = .ok (.sipush 10240, 3) := by decide +kernel
theorem dX5_cheapestOf_3 : decode cX5_cheapestOf 3 = .ok (.istore_n 3, 1) := by decide +kernel
theorem dX5_cheapestOf_4 : decode cX5_cheapestOf 4 = .ok (.iconst 0, 1) := by decide +kernel
theorem dX5_cheapestOf_5 : decode cX5_cheapestOf 5 = .ok (.istore 4, 2) := by decide +kernel
theorem dX5_cheapestOf_7 : decode cX5_cheapestOf 7 = .ok (.iload 4, 2) := by decide +kernel
theorem dX5_cheapestOf_9 : decode cX5_cheapestOf 9 = .ok (.aload_n 1, 1) := by decide +kernel
theorem dX5_cheapestOf_10 : decode cX5_cheapestOf 10 = .ok (.getfield 36, 3) := by decide +kernel
theorem dX5_cheapestOf_13 : decode cX5_cheapestOf 13 = .ok (.if_icmp .ge 31, 3) := by decide +kernel
theorem dX5_cheapestOf_16 : decode cX5_cheapestOf 16 = .ok (.aload_n 1, 1) := by decide +kernel
theorem dX5_cheapestOf_17 : decode cX5_cheapestOf 17 = .ok (.iload 4, 2) := by decide +kernel
theorem dX5_cheapestOf_19 : decode cX5_cheapestOf 19 = .ok (.invokevirtual 39, 3) := by decide +kernel
theorem dX5_cheapestOf_22 : decode cX5_cheapestOf 22 = .ok (.iload_n 2, 1) := by decide +kernel
theorem dX5_cheapestOf_23 : decode cX5_cheapestOf 23 = .ok (.if_icmp .ne 15, 3) := by decide +kernel
theorem dX5_cheapestOf_26 : decode cX5_cheapestOf 26 = .ok (.iload_n 3, 1) := by decide +kernel
theorem dX5_cheapestOf_27 : decode cX5_cheapestOf 27 = .ok (.aload_n 0, 1) := by decide +kernel
theorem dX5_cheapestOf_28 : decode cX5_cheapestOf 28 = .ok (.getfield 9, 3) := by decide +kernel
theorem dX5_cheapestOf_31 : decode cX5_cheapestOf 31 = .ok (.iload 4, 2) := by decide +kernel
theorem dX5_cheapestOf_33 : decode cX5_cheapestOf 33 = .ok (.iaload, 1) := by decide +kernel
theorem dX5_cheapestOf_34 : decode cX5_cheapestOf 34 = .ok (.invokestatic 43, 3) := by decide +kernel
theorem dX5_cheapestOf_37 : decode cX5_cheapestOf 37 = .ok (.istore_n 3, 1) := by decide +kernel
theorem dX5_cheapestOf_38 : decode cX5_cheapestOf 38 = .ok (.iinc 4 1, 3) := by decide +kernel
theorem dX5_cheapestOf_41 : decode cX5_cheapestOf 41 = .ok (.goto (-34), 3) := by decide +kernel
theorem dX5_cheapestOf_44 : decode cX5_cheapestOf 44 = .ok (.iload_n 3, 1) := by decide +kernel
theorem dX5_cheapestOf_45 : decode cX5_cheapestOf 45 = .ok (.ireturn, 1) := by decide +kernel
theorem dX6_init_0 : decode cX6_init 0 = .ok (.aload_n 0, 1) := by decide +kernel
theorem dX6_init_1 : decode cX6_init 1 = .ok (.invokespecial 3, 3) := by decide +kernel
theorem dX6_init_4 : decode cX6_init 4 = .ok (.aload_n 0, 1) := by decide +kernel
theorem dX6_init_5 : decode cX6_init 5 = .ok (.sipush 200, 3) := by decide +kernel
theorem dX6_init_8 : decode cX6_init 8 = .ok (.newarray .int, 2) := by decide +kernel
theorem dX6_init_10 : decode cX6_init 10 = .ok (.putfield 9, 3) := by decide +kernel
theorem dX6_init_13 : decode cX6_init 13 = .ok (.return_, 1) := by decide +kernel
theorem dX6_append_0 : decode cX6_append 0 = .ok (.aload_n 0, 1) := by decide +kernel
theorem dX6_append_1 : decode cX6_append 1 = .ok (.getfield 15, 3) := by decide +kernel
theorem dX6_append_4 : decode cX6_append 4 = .ok (.sipush 200, 3) := by decide +kernel
theorem dX6_append_7 : decode cX6_append 7 = .ok (.if_icmp .lt 5, 3) := by decide +kernel
theorem dX6_append_10 : decode cX6_append 10 = .ok (.iconst 0, 1) := by decide +kernel
theorem dX6_append_11 : decode cX6_append 11 = .ok (.ireturn, 1) := by decide +kernel
theorem dX6_append_12 : decode cX6_append 12 = .ok (.aload_n 0, 1) := by decide +kernel
theorem dX6_append_13 : decode cX6_append 13 = .ok (.getfield 9, 3) := by decide +kernel
theorem dX6_append_16 : decode cX6_append 16 = .ok (.aload_n 0, 1) := by decide +kernel
theorem dX6_append_17 : decode cX6_append 17 = .ok (.getfield 15, 3) := by decide +kernel
theorem dX6_append_20 : decode cX6_append 20 = .ok (.iload_n 1, 1) := by decide +kernel
theorem dX6_append_21 : decode cX6_append 21 = .ok (.iastore, 1) := by decide +kernel
theorem dX6_append_22 : decode cX6_append 22 = .ok (.aload_n 0, 1) := by decide +kernel
theorem dX6_append_23 : decode cX6_append 23 = .ok (.dup, 1) := by decide +kernel
theorem dX6_append_24 : decode cX6_append 24 = .ok (.getfield 15, 3) := by decide +kernel
theorem dX6_append_27 : decode cX6_append 27 = .ok (.iconst 1, 1) := by decide +kernel
theorem dX6_append_28 : decode cX6_append 28 = .ok (.iadd, 1) := by decide +kernel
theorem dX6_append_29 : decode cX6_append 29 = .ok (.putfield 15, 3) := by decide +kernel
theorem dX6_append_32 : decode cX6_append 32 = .ok (.iconst 1, 1) := by decide +kernel
theorem dX6_append_33 : decode cX6_append 33 = .ok (.ireturn, 1) := by decide +kernel
theorem dX6_readInto_0 : decode cX6_readInto 0 = .ok (.aload_n 0, 1) := by decide +kernel
theorem dX6_readInto_1 : decode cX6_readInto 1 = .ok (.getfield 15, 3) := by decide +kernel
theorem dX6_readInto_4 : decode cX6_readInto 4 = .ok (.istore_n 2, 1) := by decide +kernel
theorem dX6_readInto_5 : decode cX6_readInto 5 = .ok (.aload_n 0, 1) := by decide +kernel
theorem dX6_readInto_6 : decode cX6_readInto 6 = .ok (.iconst 0, 1) := by decide +kernel
theorem dX6_readInto_7 : decode cX6_readInto 7 = .ok (.putfield 15, 3) := by decide +kernel
theorem dX6_readInto_10 : decode cX6_readInto 10 = .ok (.aload_n 1, 1) := by decide +kernel
theorem dX6_readInto_11 : decode cX6_readInto 11 = .ok (.invokevirtual 19, 3) := by decide +kernel
theorem dX6_readInto_14 : decode cX6_readInto 14 = .ok (.aload_n 0, 1) := by decide +kernel
theorem dX6_readInto_15 : decode cX6_readInto 15 = .ok (.iconst 0, 1) := by decide +kernel
theorem dX6_readInto_16 : decode cX6_readInto 16 = .ok (.putfield 24, 3) := by decide +kernel
theorem dX6_readInto_19 : decode cX6_readInto 19 = .ok (.iconst 0, 1) := by decide +kernel
theorem dX6_readInto_20 : decode cX6_readInto 20 = .ok (.istore_n 3, 1) := by decide +kernel
theorem dX6_readInto_21 : decode cX6_readInto 21 = .ok (.iload_n 3, 1) := by decide +kernel
theorem dX6_readInto_22 : decode cX6_readInto 22 = .ok (.iload_n 2, 1) := by decide +kernel
theorem dX6_readInto_23 : decode cX6_readInto 23 = .ok (.if_icmp .ge 48, 3) := by decide +kernel
theorem dX6_readInto_26 : decode cX6_readInto 26 = .ok (.aload_n 0, 1) := by decide +kernel
theorem dX6_readInto_27 : decode cX6_readInto 27 = .ok (.aload_n 0, 1) := by decide +kernel
theorem dX6_readInto_28 : decode cX6_readInto 28 = .ok (.getfield 9, 3) := by decide +kernel
theorem dX6_readInto_31 : decode cX6_readInto 31 = .ok (.iload_n 3, 1) := by decide +kernel
theorem dX6_readInto_32 : decode cX6_readInto 32 = .ok (.iaload, 1) := by decide +kernel
theorem dX6_readInto_33 : decode cX6_readInto 33 = .ok (.bipush 32, 2) := by decide +kernel
theorem dX6_readInto_35 : decode cX6_readInto 35 = .ok (.if_icmp .ne 7, 3) := by decide +kernel
theorem dX6_readInto_38 : decode cX6_readInto 38 = .ok (.iconst 0, 1) := by decide +kernel
theorem dX6_readInto_39 : decode cX6_readInto 39 = .ok (.goto 14, 3) := by decide +kernel
theorem dX6_readInto_42 : decode cX6_readInto 42 = .ok (.aload_n 0, 1) := by decide +kernel
theorem dX6_readInto_43 : decode cX6_readInto 43 = .ok (.aload_n 0, 1) := by decide +kernel
theorem dX6_readInto_44 : decode cX6_readInto 44 = .ok (.getfield 9, 3) := by decide +kernel
theorem dX6_readInto_47 : decode cX6_readInto 47 = .ok (.iload_n 3, 1) := by decide +kernel
theorem dX6_readInto_48 : decode cX6_readInto 48 = .ok (.iaload, 1) := by decide +kernel
theorem dX6_readInto_49 : decode cX6_readInto 49 = .ok (.aload_n 1, 1) := by decide +kernel
theorem dX6_readInto_50 : decode cX6_readInto 50 = .ok (.invokevirtual 27, 3) := by decide +kernel
theorem dX6_readInto_53 : decode cX6_readInto 53 = .ok (.putfield 31, 3) := by decide +kernel
theorem dX6_readInto_56 : decode cX6_readInto 56 = .ok (.aload_n 0, 1) := by decide +kernel
theorem dX6_readInto_57 : decode cX6_readInto 57 = .ok (.getfield 31, 3) := by decide +kernel
theorem dX6_readInto_60 : decode cX6_readInto 60 = .ok (.ifCond .eq 5, 3) := by decide +kernel
theorem dX6_readInto_63 : decode cX6_readInto 63 = .ok (.iload_n 3, 1) := by decide +kernel
theorem dX6_readInto_64 : decode cX6_readInto 64 = .ok (.ireturn, 1) := by decide +kernel
theorem dX6_readInto_65 : decode cX6_readInto 65 = .ok (.iinc 3 1, 3) := by decide +kernel
theorem dX6_readInto_68 : decode cX6_readInto 68 = .ok (.goto (-47), 3) := by decide +kernel
theorem dX6_readInto_71 : decode cX6_readInto 71 = .ok (.aload_n 0, 1) := by decide +kernel
theorem dX6_readInto_72 : decode cX6_readInto 72 = .ok (.getfield 24, 3) := by decide +kernel
theorem dX6_readInto_75 : decode cX6_readInto 75 = .ok (.ifCond .ne 10, 3) := by decide +kernel
theorem dX6_readInto_78 : decode cX6_readInto 78 = .ok (.aload_n 1, 1) := by decide +kernel
theorem dX6_readInto_79 : decode cX6_readInto 79 = .ok (.getfield 34, 3) := by decide +kernel
theorem dX6_readInto_82 : decode cX6_readInto 82 = .ok (.ifCond .ne 10, 3) := by decide +kernel
theorem dX6_readInto_85 : decode cX6_readInto 85 = .ok (.aload_n 0, 1) := by decide +kernel
theorem dX6_readInto_86 : decode cX6_readInto 86 = .ok (.iconst 1, 1) := by decide +kernel
theorem dX6_readInto_87 : decode cX6_readInto 87 = .ok (.putfield 31, 3) := by decide +kernel
theorem dX6_readInto_90 : decode cX6_readInto 90 = .ok (.iload_n 2, 1) := by decide +kernel
theorem dX6_readInto_91 : decode cX6_readInto 91 = .ok (.ireturn, 1) := by decide +kernel
theorem dX6_readInto_92 : decode cX6_readInto 92 = .ok (.aload_n 1, 1) := by decide +kernel
theorem dX6_readInto_93 : decode cX6_readInto 93 = .ok (.invokevirtual 37, 3) := by decide +kernel
theorem dX6_readInto_96 : decode cX6_readInto 96 = .ok (.iconst (-1), 1) := by decide +kernel
theorem dX6_readInto_97 : decode cX6_readInto 97 = .ok (.ireturn, 1) := by decide +kernel
theorem dX6_accept_0 : decode cX6_accept 0 = .ok (.aload_n 0, 1) := by decide +kernel
theorem dX6_accept_1 : decode cX6_accept 1 = .ok (.getfield 24, 3) := by decide +kernel
theorem dX6_accept_4 : decode cX6_accept 4 = .ok (.tableswitch 114 0 8 #[52, 59, 66, 72, 79, 86, 93, 100, 107], 52) := by decide +kernel
theorem dX6_accept_56 : decode cX6_accept 56 = .ok (.aload_n 0, 1) := by decide +kernel
theorem dX6_accept_57 : decode cX6_accept 57 = .ok (.iload_n 1, 1) := by decide +kernel
theorem dX6_accept_58 : decode cX6_accept 58 = .ok (.aload_n 2, 1) := by decide +kernel
theorem dX6_accept_59 : decode cX6_accept 59 = .ok (.invokevirtual 40, 3) := by decide +kernel
theorem dX6_accept_62 : decode cX6_accept 62 = .ok (.ireturn, 1) := by decide +kernel
theorem dX6_accept_63 : decode cX6_accept 63 = .ok (.aload_n 0, 1) := by decide +kernel
theorem dX6_accept_64 : decode cX6_accept 64 = .ok (.iload_n 1, 1) := by decide +kernel
theorem dX6_accept_65 : decode cX6_accept 65 = .ok (.aload_n 2, 1) := by decide +kernel
theorem dX6_accept_66 : decode cX6_accept 66 = .ok (.invokevirtual 43, 3) := by decide +kernel
theorem dX6_accept_69 : decode cX6_accept 69 = .ok (.ireturn, 1) := by decide +kernel
theorem dX6_accept_70 : decode cX6_accept 70 = .ok (.aload_n 0, 1) := by decide +kernel
theorem dX6_accept_71 : decode cX6_accept 71 = .ok (.iload_n 1, 1) := by decide +kernel
theorem dX6_accept_72 : decode cX6_accept 72 = .ok (.invokevirtual 46, 3) := by decide +kernel
theorem dX6_accept_75 : decode cX6_accept 75 = .ok (.ireturn, 1) := by decide +kernel
theorem dX6_accept_76 : decode cX6_accept 76 = .ok (.aload_n 0, 1) := by decide +kernel
theorem dX6_accept_77 : decode cX6_accept 77 = .ok (.iload_n 1, 1) := by decide +kernel
theorem dX6_accept_78 : decode cX6_accept 78 = .ok (.aload_n 2, 1) := by decide +kernel
theorem dX6_accept_79 : decode cX6_accept 79 = .ok (.invokevirtual 50, 3) := by decide +kernel
theorem dX6_accept_82 : decode cX6_accept 82 = .ok (.ireturn, 1) := by decide +kernel
theorem dX6_accept_83 : decode cX6_accept 83 = .ok (.aload_n 0, 1) := by decide +kernel
theorem dX6_accept_84 : decode cX6_accept 84 = .ok (.iload_n 1, 1) := by decide +kernel
theorem dX6_accept_85 : decode cX6_accept 85 = .ok (.aload_n 2, 1) := by decide +kernel
theorem dX6_accept_86 : decode cX6_accept 86 = .ok (.invokevirtual 53, 3) := by decide +kernel
theorem dX6_accept_89 : decode cX6_accept 89 = .ok (.ireturn, 1) := by decide +kernel
theorem dX6_accept_90 : decode cX6_accept 90 = .ok (.aload_n 0, 1) := by decide +kernel
theorem dX6_accept_91 : decode cX6_accept 91 = .ok (.iload_n 1, 1) := by decide +kernel
theorem dX6_accept_92 : decode cX6_accept 92 = .ok (.aload_n 2, 1) := by decide +kernel
theorem dX6_accept_93 : decode cX6_accept 93 = .ok (.invokevirtual 56, 3) := by decide +kernel
theorem dX6_accept_96 : decode cX6_accept 96 = .ok (.ireturn, 1) := by decide +kernel
theorem dX6_accept_97 : decode cX6_accept 97 = .ok (.aload_n 0, 1) := by decide +kernel
theorem dX6_accept_98 : decode cX6_accept 98 = .ok (.iload_n 1, 1) := by decide +kernel
theorem dX6_accept_99 : decode cX6_accept 99 = .ok (.aload_n 2, 1) := by decide +kernel
theorem dX6_accept_100 : decode cX6_accept 100 = .ok (.invokevirtual 59, 3) := by decide +kernel
theorem dX6_accept_103 : decode cX6_accept 103 = .ok (.ireturn, 1) := by decide +kernel
theorem dX6_accept_104 : decode cX6_accept 104 = .ok (.aload_n 0, 1) := by decide +kernel
theorem dX6_accept_105 : decode cX6_accept 105 = .ok (.iload_n 1, 1) := by decide +kernel
theorem dX6_accept_106 : decode cX6_accept 106 = .ok (.aload_n 2, 1) := by decide +kernel
theorem dX6_accept_107 : decode cX6_accept 107 = .ok (.invokevirtual 62, 3) := by decide +kernel
theorem dX6_accept_110 : decode cX6_accept 110 = .ok (.ireturn, 1) := by decide +kernel
theorem dX6_accept_111 : decode cX6_accept 111 = .ok (.aload_n 0, 1) := by decide +kernel
theorem dX6_accept_112 : decode cX6_accept 112 = .ok (.iload_n 1, 1) := by decide +kernel
theorem dX6_accept_113 : decode cX6_accept 113 = .ok (.aload_n 2, 1) := by decide +kernel
theorem dX6_accept_114 : decode cX6_accept 114 = .ok (.invokevirtual 65, 3) := by decide +kernel
theorem dX6_accept_117 : decode cX6_accept 117 = .ok (.ireturn, 1) := by decide +kernel
theorem dX6_accept_118 : decode cX6_accept 118 = .ok (.aload_n 0, 1) := by decide +kernel
theorem dX6_accept_119 : decode cX6_accept 119 = .ok (.iload_n 1, 1) := by decide +kernel
theorem dX6_accept_120 : decode cX6_accept 120 = .ok (.aload_n 2, 1) := by decide +kernel
theorem dX6_accept_121 : decode cX6_accept 121 = .ok (.invokevirtual 68, 3) := by decide +kernel
theorem dX6_accept_124 : decode cX6_accept 124 = .ok (.ireturn, 1) := by decide +kernel
theorem dX6_goOn_0 : decode cX6_goOn 0 = .ok (.aload_n 0, 1) := by decide +kernel
theorem dX6_goOn_1 : decode cX6_goOn 1 = .ok (.iload_n 1, 1) := by decide +kernel
theorem dX6_goOn_2 : decode cX6_goOn 2 = .ok (.putfield 24, 3) := by decide +kernel
theorem dX6_goOn_5 : decode cX6_goOn 5 = .ok (.iconst 0, 1) := by decide +kernel
theorem dX6_goOn_6 : decode cX6_goOn 6 = .ok (.ireturn, 1) := by decide +kernel
theorem dX6_acceptFirstLine_0 : decode cX6_acceptFirstLine 0 = .ok (.iload_n 1, 1) := by decide +kernel
theorem dX6_acceptFirstLine_1 : decode cX6_acceptFirstLine 1 = .ok (.bipush 97, 2) := by decide +kernel
theorem dX6_acceptFirstLine_3 : decode cX6_acceptFirstLine 3 = .ok (.if_icmp .lt 9, 3) := by decide +kernel
theorem dX6_acceptFirstLine_6 : decode cX6_acceptFirstLine 6 = .ok (.iload_n 1, 1) := by decide +kernel
theorem dX6_acceptFirstLine_7 : decode cX6_acceptFirstLine 7 = .ok (.bipush 112, 2) := by decide +kernel
theorem dX6_acceptFirstLine_9 : decode cX6_acceptFirstLine 9 = .ok (.if_icmp .le 5, 3) := by decide +kernel
theorem dX6_acceptFirstLine_12 : decode cX6_acceptFirstLine 12 = .ok (.iconst 1, 1) := by decide +kernel
theorem dX6_acceptFirstLine_13 : decode cX6_acceptFirstLine 13 = .ok (.ireturn, 1) := by decide +kernel
theorem dX6_acceptFirstLine_14 : decode cX6_acceptFirstLine 14 = .ok (.aload_n 0, 1) := by decide +kernel
theorem dX6_acceptFirstLine_15 : decode cX6_acceptFirstLine 15 = .ok (.iload_n 1, 1) := by decide +kernel
theorem dX6_acceptFirstLine_16 : decode cX6_acceptFirstLine 16 = .ok (.bipush 97, 2) := by decide +kernel
theorem dX6_acceptFirstLine_18 : decode cX6_acceptFirstLine 18 = .ok (.isub, 1) := by decide +kernel
theorem dX6_acceptFirstLine_19 : decode cX6_acceptFirstLine 19 = .ok (.putfield 71, 3) := by decide +kernel
theorem dX6_acceptFirstLine_22 : decode cX6_acceptFirstLine 22 = .ok (.aload_n 2, 1) := by decide +kernel
theorem dX6_acceptFirstLine_23 : decode cX6_acceptFirstLine 23 = .ok (.aload_n 0, 1) := by decide +kernel
theorem dX6_acceptFirstLine_24 : decode cX6_acceptFirstLine 24 = .ok (.getfield 71, 3) := by decide +kernel
theorem dX6_acceptFirstLine_27 : decode cX6_acceptFirstLine 27 = .ok (.invokevirtual 74, 3) := by decide +kernel
theorem dX6_acceptFirstLine_30 : decode cX6_acceptFirstLine 30 = .ok (.aload_n 0, 1) := by decide +kernel
theorem dX6_acceptFirstLine_31 : decode cX6_acceptFirstLine 31 = .ok (.iconst 1, 1) := by decide +kernel
theorem dX6_acceptFirstLine_32 : decode cX6_acceptFirstLine 32 = .ok (.invokevirtual 78, 3) := by decide +kernel
theorem dX6_acceptFirstLine_35 : decode cX6_acceptFirstLine 35 = .ok (.ireturn, 1) := by decide +kernel
theorem dX6_acceptArrowOrDot_0 : decode cX6_acceptArrowOrDot 0 = .ok (.iload_n 1, 1) := by decide +kernel
theorem dX6_acceptArrowOrDot_1 : decode cX6_acceptArrowOrDot 1 = .ok (.bipush 46, 2) := by decide +kernel
theorem dX6_acceptArrowOrDot_3 : decode cX6_acceptArrowOrDot 3 = .ok (.if_icmp .ne 24, 3) := by decide +kernel
theorem dX6_acceptArrowOrDot_6 : decode cX6_acceptArrowOrDot 6 = .ok (.aload_n 2, 1) := by decide +kernel
theorem dX6_acceptArrowOrDot_7 : decode cX6_acceptArrowOrDot 7 = .ok (.dup, 1) := by decide +kernel
theorem dX6_acceptArrowOrDot_8 : decode cX6_acceptArrowOrDot 8 = .ok (.getfield 81, 3) := by decide +kernel
theorem dX6_acceptArrowOrDot_11 : decode cX6_acceptArrowOrDot 11 = .ok (.iconst 1, 1) := by decide +kernel
theorem dX6_acceptArrowOrDot_12 : decode cX6_acceptArrowOrDot 12 = .ok (.aload_n 0, 1) := by decide +kernel
theorem dX6_acceptArrowOrDot_13 : decode cX6_acceptArrowOrDot 13 = .ok (.getfield 71, 3) := by decide +kernel
theorem dX6_acceptArrowOrDot_16 : decode cX6_acceptArrowOrDot 16 = .ok (.ishl, 1) := by decide +kernel
theorem dX6_acceptArrowOrDot_17 : decode cX6_acceptArrowOrDot 17 = .ok (.ior, 1) := by decide +kernel
theorem dX6_acceptArrowOrDot_18 : decode cX6_acceptArrowOrDot 18 = .ok (.putfield 81, 3) := by decide +kernel
theorem dX6_acceptArrowOrDot_21 : decode cX6_acceptArrowOrDot 21 = .ok (.aload_n 0, 1) := by decide +kernel
theorem dX6_acceptArrowOrDot_22 : decode cX6_acceptArrowOrDot 22 = .ok (.iconst 2, 1) := by decide +kernel
theorem dX6_acceptArrowOrDot_23 : decode cX6_acceptArrowOrDot 23 = .ok (.invokevirtual 78, 3) := by decide +kernel
theorem dX6_acceptArrowOrDot_26 : decode cX6_acceptArrowOrDot 26 = .ok (.ireturn, 1) := by decide +kernel
theorem dX6_acceptArrowOrDot_27 : decode cX6_acceptArrowOrDot 27 = .ok (.iload_n 1, 1) := by decide +kernel
theorem dX6_acceptArrowOrDot_28 : decode cX6_acceptArrowOrDot 28 = .ok (.bipush 62, 2) := by decide +kernel
theorem dX6_acceptArrowOrDot_30 : decode cX6_acceptArrowOrDot 30 = .ok (.if_icmp .eq 5, 3) := by decide +kernel
theorem dX6_acceptArrowOrDot_33 : decode cX6_acceptArrowOrDot 33 = .ok (.iconst 1, 1) := by decide +kernel
theorem dX6_acceptArrowOrDot_34 : decode cX6_acceptArrowOrDot 34 = .ok (.ireturn, 1) := by decide +kernel
theorem dX6_acceptArrowOrDot_35 : decode cX6_acceptArrowOrDot 35 = .ok (.aload_n 2, 1) := by decide +kernel
theorem dX6_acceptArrowOrDot_36 : decode cX6_acceptArrowOrDot 36 = .ok (.aload_n 0, 1) := by decide +kernel
theorem dX6_acceptArrowOrDot_37 : decode cX6_acceptArrowOrDot 37 = .ok (.getfield 71, 3) := by decide +kernel
theorem dX6_acceptArrowOrDot_40 : decode cX6_acceptArrowOrDot 40 = .ok (.invokevirtual 84, 3) := by decide +kernel
theorem dX6_acceptArrowOrDot_43 : decode cX6_acceptArrowOrDot 43 = .ok (.ifCond .eq 11, 3) := by decide +kernel
theorem dX6_acceptArrowOrDot_46 : decode cX6_acceptArrowOrDot 46 = .ok (.aload_n 0, 1) := by decide +kernel
theorem dX6_acceptArrowOrDot_47 : decode cX6_acceptArrowOrDot 47 = .ok (.iconst 3, 1) := by decide +kernel
theorem dX6_acceptArrowOrDot_48 : decode cX6_acceptArrowOrDot 48 = .ok (.invokevirtual 78, 3) := by decide +kernel
theorem dX6_acceptArrowOrDot_51 : decode cX6_acceptArrowOrDot 51 = .ok (.goto 4, 3) := by decide +kernel
theorem dX6_acceptArrowOrDot_54 : decode cX6_acceptArrowOrDot 54 = .ok (.iconst 3, 1) := by decide +kernel
theorem dX6_acceptArrowOrDot_55 : decode cX6_acceptArrowOrDot 55 = .ok (.ireturn, 1) := by decide +kernel
theorem dX6_acceptClauseEnd_0 : decode cX6_acceptClauseEnd 0 = .ok (.iload_n 1, 1) := by decide +kernel
theorem dX6_acceptClauseEnd_1 : decode cX6_acceptClauseEnd 1 = .ok (.bipush 59, 2) := by decide +kernel
theorem dX6_acceptClauseEnd_3 : decode cX6_acceptClauseEnd 3 = .ok (.if_icmp .ne 11, 3) := by decide +kernel
theorem dX6_acceptClauseEnd_6 : decode cX6_acceptClauseEnd 6 = .ok (.aload_n 0, 1) := by decide +kernel
theorem dX6_acceptClauseEnd_7 : decode cX6_acceptClauseEnd 7 = .ok (.iconst 0, 1) := by decide +kernel
theorem dX6_acceptClauseEnd_8 : decode cX6_acceptClauseEnd 8 = .ok (.invokevirtual 78, 3) := by decide +kernel
theorem dX6_acceptClauseEnd_11 : decode cX6_acceptClauseEnd 11 = .ok (.goto 4, 3) := by decide +kernel
theorem dX6_acceptClauseEnd_14 : decode cX6_acceptClauseEnd 14 = .ok (.iconst 1, 1) := by decide +kernel
theorem dX6_acceptClauseEnd_15 : decode cX6_acceptClauseEnd 15 = .ok (.ireturn, 1) := by decide +kernel
theorem dX6_acceptSecondLine_0 : decode cX6_acceptSecondLine 0 = .ok (.iload_n 1, 1) := by decide +kernel
theorem dX6_acceptSecondLine_1 : decode cX6_acceptSecondLine 1 = .ok (.bipush 97, 2) := by decide +kernel
theorem dX6_acceptSecondLine_3 : decode cX6_acceptSecondLine 3 = .ok (.if_icmp .lt 9, 3) := by decide +kernel
theorem dX6_acceptSecondLine_6 : decode cX6_acceptSecondLine 6 = .ok (.iload_n 1, 1) := by decide +kernel
theorem dX6_acceptSecondLine_7 : decode cX6_acceptSecondLine 7 = .ok (.bipush 112, 2) := by decide +kernel
theorem dX6_acceptSecondLine_9 : decode cX6_acceptSecondLine 9 = .ok (.if_icmp .le 5, 3) := by decide +kernel
theorem dX6_acceptSecondLine_12 : decode cX6_acceptSecondLine 12 = .ok (.iconst 1, 1) := by decide +kernel
theorem dX6_acceptSecondLine_13 : decode cX6_acceptSecondLine 13 = .ok (.ireturn, 1) := by decide +kernel
theorem dX6_acceptSecondLine_14 : decode cX6_acceptSecondLine 14 = .ok (.aload_n 2, 1) := by decide +kernel
theorem dX6_acceptSecondLine_15 : decode cX6_acceptSecondLine 15 = .ok (.iload_n 1, 1) := by decide +kernel
theorem dX6_acceptSecondLine_16 : decode cX6_acceptSecondLine 16 = .ok (.bipush 97, 2) := by decide +kernel
theorem dX6_acceptSecondLine_18 : decode cX6_acceptSecondLine 18 = .ok (.isub, 1) := by decide +kernel
theorem dX6_acceptSecondLine_19 : decode cX6_acceptSecondLine 19 = .ok (.invokevirtual 74, 3) := by decide +kernel
theorem dX6_acceptSecondLine_22 : decode cX6_acceptSecondLine 22 = .ok (.aload_n 2, 1) := by decide +kernel
theorem dX6_acceptSecondLine_23 : decode cX6_acceptSecondLine 23 = .ok (.getfield 88, 3) := by decide +kernel
theorem dX6_acceptSecondLine_26 : decode cX6_acceptSecondLine 26 = .ok (.aload_n 2, 1) := by decide +kernel
theorem dX6_acceptSecondLine_27 : decode cX6_acceptSecondLine 27 = .ok (.getfield 91, 3) := by decide +kernel
theorem dX6_acceptSecondLine_30 : decode cX6_acceptSecondLine 30 = .ok (.iload_n 1, 1) := by decide +kernel
theorem dX6_acceptSecondLine_31 : decode cX6_acceptSecondLine 31 = .ok (.bipush 97, 2) := by decide +kernel
theorem dX6_acceptSecondLine_33 : decode cX6_acceptSecondLine 33 = .ok (.isub, 1) := by decide +kernel
theorem dX6_acceptSecondLine_34 : decode cX6_acceptSecondLine 34 = .ok (.iastore, 1) := by decide +kernel
theorem dX6_acceptSecondLine_35 : decode cX6_acceptSecondLine 35 = .ok (.aload_n 0, 1) := by decide +kernel
theorem dX6_acceptSecondLine_36 : decode cX6_acceptSecondLine 36 = .ok (.iconst 4, 1) := by decide +kernel
theorem dX6_acceptSecondLine_37 : decode cX6_acceptSecondLine 37 = .ok (.invokevirtual 78, 3) := by decide +kernel
theorem dX6_acceptSecondLine_40 : decode cX6_acceptSecondLine 40 = .ok (.ireturn, 1) := by decide +kernel
theorem dX6_acceptCost_0 : decode cX6_acceptCost 0 = .ok (.iload_n 1, 1) := by decide +kernel
theorem dX6_acceptCost_1 : decode cX6_acceptCost 1 = .ok (.bipush 48, 2) := by decide +kernel
theorem dX6_acceptCost_3 : decode cX6_acceptCost 3 = .ok (.if_icmp .lt 9, 3) := by decide +kernel
theorem dX6_acceptCost_6 : decode cX6_acceptCost 6 = .ok (.iload_n 1, 1) := by decide +kernel
theorem dX6_acceptCost_7 : decode cX6_acceptCost 7 = .ok (.bipush 57, 2) := by decide +kernel
theorem dX6_acceptCost_9 : decode cX6_acceptCost 9 = .ok (.if_icmp .le 10, 3) := by decide +kernel
theorem dX6_acceptCost_12 : decode cX6_acceptCost 12 = .ok (.aload_n 0, 1) := by decide +kernel
theorem dX6_acceptCost_13 : decode cX6_acceptCost 13 = .ok (.iload_n 1, 1) := by decide +kernel
theorem dX6_acceptCost_14 : decode cX6_acceptCost 14 = .ok (.aload_n 2, 1) := by decide +kernel
theorem dX6_acceptCost_15 : decode cX6_acceptCost 15 = .ok (.invokevirtual 56, 3) := by decide +kernel
theorem dX6_acceptCost_18 : decode cX6_acceptCost 18 = .ok (.ireturn, 1) := by decide +kernel
theorem dX6_acceptCost_19 : decode cX6_acceptCost 19 = .ok (.aload_n 2, 1) := by decide +kernel
theorem dX6_acceptCost_20 : decode cX6_acceptCost 20 = .ok (.getfield 94, 3) := by decide +kernel
theorem dX6_acceptCost_23 : decode cX6_acceptCost 23 = .ok (.aload_n 2, 1) := by decide +kernel
theorem dX6_acceptCost_24 : decode cX6_acceptCost 24 = .ok (.getfield 91, 3) := by decide +kernel
theorem dX6_acceptCost_27 : decode cX6_acceptCost 27 = .ok (.iload_n 1, 1) := by decide +kernel
theorem dX6_acceptCost_28 : decode cX6_acceptCost 28 = .ok (.bipush 48, 2) := by decide +kernel
theorem dX6_acceptCost_30 : decode cX6_acceptCost 30 = .ok (.isub, 1) := by decide +kernel
theorem dX6_acceptCost_31 : decode cX6_acceptCost 31 = .ok (.iastore, 1) := by decide +kernel
theorem dX6_acceptCost_32 : decode cX6_acceptCost 32 = .ok (.aload_n 0, 1) := by decide +kernel
theorem dX6_acceptCost_33 : decode cX6_acceptCost 33 = .ok (.iconst 5, 1) := by decide +kernel
theorem dX6_acceptCost_34 : decode cX6_acceptCost 34 = .ok (.invokevirtual 78, 3) := by decide +kernel
theorem dX6_acceptCost_37 : decode cX6_acceptCost 37 = .ok (.ireturn, 1) := by decide +kernel
theorem dX6_acceptRest_0 : decode cX6_acceptRest 0 = .ok (.iload_n 1, 1) := by decide +kernel
theorem dX6_acceptRest_1 : decode cX6_acceptRest 1 = .ok (.bipush 63, 2) := by decide +kernel
theorem dX6_acceptRest_3 : decode cX6_acceptRest 3 = .ok (.if_icmp .ne 18, 3) := by decide +kernel
theorem dX6_acceptRest_6 : decode cX6_acceptRest 6 = .ok (.aload_n 0, 1) := by decide +kernel
theorem dX6_acceptRest_7 : decode cX6_acceptRest 7 = .ok (.getfield 24, 3) := by decide +kernel
theorem dX6_acceptRest_10 : decode cX6_acceptRest 10 = .ok (.bipush 7, 2) := by decide +kernel
theorem dX6_acceptRest_12 : decode cX6_acceptRest 12 = .ok (.if_icmp .eq 9, 3) := by decide +kernel
theorem dX6_acceptRest_15 : decode cX6_acceptRest 15 = .ok (.aload_n 0, 1) := by decide +kernel
theorem dX6_acceptRest_16 : decode cX6_acceptRest 16 = .ok (.aload_n 2, 1) := by decide +kernel
theorem dX6_acceptRest_17 : decode cX6_acceptRest 17 = .ok (.invokevirtual 97, 3) := by decide +kernel
theorem dX6_acceptRest_20 : decode cX6_acceptRest 20 = .ok (.ireturn, 1) := by decide +kernel
theorem dX6_acceptRest_21 : decode cX6_acceptRest 21 = .ok (.iload_n 1, 1) := by decide +kernel
theorem dX6_acceptRest_22 : decode cX6_acceptRest 22 = .ok (.bipush 33, 2) := by decide +kernel
theorem dX6_acceptRest_24 : decode cX6_acceptRest 24 = .ok (.if_icmp .ne 10, 3) := by decide +kernel
theorem dX6_acceptRest_27 : decode cX6_acceptRest 27 = .ok (.aload_n 0, 1) := by decide +kernel
theorem dX6_acceptRest_28 : decode cX6_acceptRest 28 = .ok (.bipush 8, 2) := by decide +kernel
theorem dX6_acceptRest_30 : decode cX6_acceptRest 30 = .ok (.invokevirtual 78, 3) := by decide +kernel
theorem dX6_acceptRest_33 : decode cX6_acceptRest 33 = .ok (.ireturn, 1) := by decide +kernel
theorem dX6_acceptRest_34 : decode cX6_acceptRest 34 = .ok (.aload_n 0, 1) := by decide +kernel
theorem dX6_acceptRest_35 : decode cX6_acceptRest 35 = .ok (.iload_n 1, 1) := by decide +kernel
theorem dX6_acceptRest_36 : decode cX6_acceptRest 36 = .ok (.invokevirtual 46, 3) := by decide +kernel
theorem dX6_acceptRest_39 : decode cX6_acceptRest 39 = .ok (.ireturn, 1) := by decide +kernel
theorem dX6_openAlternative_0 : decode cX6_openAlternative 0 = .ok (.aload_n 1, 1) := by decide +kernel
theorem dX6_openAlternative_1 : decode cX6_openAlternative 1 = .ok (.invokevirtual 101, 3) := by decide +kernel
theorem dX6_openAlternative_4 : decode cX6_openAlternative 4 = .ok (.ifCond .eq 12, 3) := by decide +kernel
theorem dX6_openAlternative_7 : decode cX6_openAlternative 7 = .ok (.aload_n 0, 1) := by decide +kernel
theorem dX6_openAlternative_8 : decode cX6_openAlternative 8 = .ok (.bipush 6, 2) := by decide +kernel
theorem dX6_openAlternative_10 : decode cX6_openAlternative 10 = .ok (.invokevirtual 78, 3) := by decide +kernel
theorem dX6_openAlternative_13 : decode cX6_openAlternative 13 = .ok (.goto 4, 3) := by decide +kernel
theorem dX6_openAlternative_16 : decode cX6_openAlternative 16 = .ok (.iconst 2, 1) := by decide +kernel
theorem dX6_openAlternative_17 : decode cX6_openAlternative 17 = .ok (.ireturn, 1) := by decide +kernel
theorem dX6_acceptAsked_0 : decode cX6_acceptAsked 0 = .ok (.iload_n 1, 1) := by decide +kernel
theorem dX6_acceptAsked_1 : decode cX6_acceptAsked 1 = .ok (.invokestatic 105, 3) := by decide +kernel
theorem dX6_acceptAsked_4 : decode cX6_acceptAsked 4 = .ok (.istore_n 3, 1) := by decide +kernel
theorem dX6_acceptAsked_5 : decode cX6_acceptAsked 5 = .ok (.iload_n 1, 1) := by decide +kernel
theorem dX6_acceptAsked_6 : decode cX6_acceptAsked 6 = .ok (.invokestatic 108, 3) := by decide +kernel
theorem dX6_acceptAsked_9 : decode cX6_acceptAsked 9 = .ok (.istore 4, 2) := by decide +kernel
theorem dX6_acceptAsked_11 : decode cX6_acceptAsked 11 = .ok (.iload_n 3, 1) := by decide +kernel
theorem dX6_acceptAsked_12 : decode cX6_acceptAsked 12 = .ok (.iload 4, 2) := by decide +kernel
theorem dX6_acceptAsked_14 : decode cX6_acceptAsked 14 = .ok (.ior, 1) := by decide +kernel
theorem dX6_acceptAsked_15 : decode cX6_acceptAsked 15 = .ok (.ifCond .ne 5, 3) := by decide +kernel
theorem dX6_acceptAsked_18 : decode cX6_acceptAsked 18 = .ok (.iconst 1, 1) := by decide +kernel
theorem dX6_acceptAsked_19 : decode cX6_acceptAsked 19 = .ok (.ireturn, 1) := by decide +kernel
theorem dX6_acceptAsked_20 : decode cX6_acceptAsked 20 = .ok (.aload_n 2, 1) := by decide +kernel
theorem dX6_acceptAsked_21 : decode cX6_acceptAsked 21 = .ok (.getfield 111, 3) := by decide +kernel
theorem dX6_acceptAsked_24 : decode cX6_acceptAsked 24 = .ok (.aload_n 2, 1) := by decide +kernel
theorem dX6_acceptAsked_25 : decode cX6_acceptAsked 25 = .ok (.getfield 114, 3) := by decide +kernel
theorem dX6_acceptAsked_28 : decode cX6_acceptAsked 28 = .ok (.dup2, 1) := by decide +kernel
theorem dX6_acceptAsked_29 : decode cX6_acceptAsked 29 = .ok (.iaload, 1) := by decide +kernel
theorem dX6_acceptAsked_30 : decode cX6_acceptAsked 30 = .ok (.iload_n 3, 1) := by decide +kernel
theorem dX6_acceptAsked_31 : decode cX6_acceptAsked 31 = .ok (.ior, 1) := by decide +kernel
theorem dX6_acceptAsked_32 : decode cX6_acceptAsked 32 = .ok (.iastore, 1) := by decide +kernel
theorem dX6_acceptAsked_33 : decode cX6_acceptAsked 33 = .ok (.aload_n 2, 1) := by decide +kernel
theorem dX6_acceptAsked_34 : decode cX6_acceptAsked 34 = .ok (.getfield 117, 3) := by decide +kernel
theorem dX6_acceptAsked_37 : decode cX6_acceptAsked 37 = .ok (.aload_n 2, 1) := by decide +kernel
theorem dX6_acceptAsked_38 : decode cX6_acceptAsked 38 = .ok (.getfield 114, 3) := by decide +kernel
theorem dX6_acceptAsked_41 : decode cX6_acceptAsked 41 = .ok (.dup2, 1) := by decide +kernel
theorem dX6_acceptAsked_42 : decode cX6_acceptAsked 42 = .ok (.iaload, 1) := by decide +kernel
theorem dX6_acceptAsked_43 : decode cX6_acceptAsked 43 = .ok (.iload 4, 2) := by decide +kernel
theorem dX6_acceptAsked_45 : decode cX6_acceptAsked 45 = .ok (.ior, 1) := by decide +kernel
theorem dX6_acceptAsked_46 : decode cX6_acceptAsked 46 = .ok (.iastore, 1) := by decide +kernel
theorem dX6_acceptAsked_47 : decode cX6_acceptAsked 47 = .ok (.aload_n 0, 1) := by decide +kernel
theorem dX6_acceptAsked_48 : decode cX6_acceptAsked 48 = .ok (.bipush 7, 2) := by decide +kernel
theorem dX6_acceptAsked_50 : decode cX6_acceptAsked 50 = .ok (.invokevirtual 78, 3) := by decide +kernel
theorem dX6_acceptAsked_53 : decode cX6_acceptAsked 53 = .ok (.ireturn, 1) := by decide +kernel
theorem dX6_acceptMoreOfGuard_0 : decode cX6_acceptMoreOfGuard 0 = .ok (.iload_n 1, 1) := by decide +kernel
theorem dX6_acceptMoreOfGuard_1 : decode cX6_acceptMoreOfGuard 1 = .ok (.invokestatic 105, 3) := by decide +kernel
theorem dX6_acceptMoreOfGuard_4 : decode cX6_acceptMoreOfGuard 4 = .ok (.iload_n 1, 1) := by decide +kernel
theorem dX6_acceptMoreOfGuard_5 : decode cX6_acceptMoreOfGuard 5 = .ok (.invokestatic 108, 3) := by decide +kernel
theorem dX6_acceptMoreOfGuard_8 : decode cX6_acceptMoreOfGuard 8 = .ok (.ior, 1) := by decide +kernel
theorem dX6_acceptMoreOfGuard_9 : decode cX6_acceptMoreOfGuard 9 = .ok (.ifCond .eq 10, 3) := by decide +kernel
theorem dX6_acceptMoreOfGuard_12 : decode cX6_acceptMoreOfGuard 12 = .ok (.aload_n 0, 1) := by decide +kernel
theorem dX6_acceptMoreOfGuard_13 : decode cX6_acceptMoreOfGuard 13 = .ok (.iload_n 1, 1) := by decide +kernel
theorem dX6_acceptMoreOfGuard_14 : decode cX6_acceptMoreOfGuard 14 = .ok (.aload_n 2, 1) := by decide +kernel
theorem dX6_acceptMoreOfGuard_15 : decode cX6_acceptMoreOfGuard 15 = .ok (.invokevirtual 59, 3) := by decide +kernel
theorem dX6_acceptMoreOfGuard_18 : decode cX6_acceptMoreOfGuard 18 = .ok (.ireturn, 1) := by decide +kernel
theorem dX6_acceptMoreOfGuard_19 : decode cX6_acceptMoreOfGuard 19 = .ok (.iload_n 1, 1) := by decide +kernel
theorem dX6_acceptMoreOfGuard_20 : decode cX6_acceptMoreOfGuard 20 = .ok (.bipush 124, 2) := by decide +kernel
theorem dX6_acceptMoreOfGuard_22 : decode cX6_acceptMoreOfGuard 22 = .ok (.if_icmp .ne 11, 3) := by decide +kernel
theorem dX6_acceptMoreOfGuard_25 : decode cX6_acceptMoreOfGuard 25 = .ok (.aload_n 0, 1) := by decide +kernel
theorem dX6_acceptMoreOfGuard_26 : decode cX6_acceptMoreOfGuard 26 = .ok (.aload_n 2, 1) := by decide +kernel
theorem dX6_acceptMoreOfGuard_27 : decode cX6_acceptMoreOfGuard 27 = .ok (.invokevirtual 97, 3) := by decide +kernel
theorem dX6_acceptMoreOfGuard_30 : decode cX6_acceptMoreOfGuard 30 = .ok (.goto 9, 3) := by decide +kernel
theorem dX6_acceptMoreOfGuard_33 : decode cX6_acceptMoreOfGuard 33 = .ok (.aload_n 0, 1) := by decide +kernel
theorem dX6_acceptMoreOfGuard_34 : decode cX6_acceptMoreOfGuard 34 = .ok (.iload_n 1, 1) := by decide +kernel
theorem dX6_acceptMoreOfGuard_35 : decode cX6_acceptMoreOfGuard 35 = .ok (.aload_n 2, 1) := by decide +kernel
theorem dX6_acceptMoreOfGuard_36 : decode cX6_acceptMoreOfGuard 36 = .ok (.invokevirtual 56, 3) := by decide +kernel
theorem dX6_acceptMoreOfGuard_39 : decode cX6_acceptMoreOfGuard 39 = .ok (.ireturn, 1) := by decide +kernel
theorem dX6_acceptChanged_0 : decode cX6_acceptChanged 0 = .ok (.iload_n 1, 1) := by decide +kernel
theorem dX6_acceptChanged_1 : decode cX6_acceptChanged 1 = .ok (.invokestatic 105, 3) := by decide +kernel
theorem dX6_acceptChanged_4 : decode cX6_acceptChanged 4 = .ok (.istore_n 3, 1) := by decide +kernel
theorem dX6_acceptChanged_5 : decode cX6_acceptChanged 5 = .ok (.iload_n 1, 1) := by decide +kernel
theorem dX6_acceptChanged_6 : decode cX6_acceptChanged 6 = .ok (.invokestatic 108, 3) := by decide +kernel
theorem dX6_acceptChanged_9 : decode cX6_acceptChanged 9 = .ok (.istore 4, 2) := by decide +kernel
theorem dX6_acceptChanged_11 : decode cX6_acceptChanged 11 = .ok (.iload_n 3, 1) := by decide +kernel
theorem dX6_acceptChanged_12 : decode cX6_acceptChanged 12 = .ok (.iload 4, 2) := by decide +kernel
theorem dX6_acceptChanged_14 : decode cX6_acceptChanged 14 = .ok (.ior, 1) := by decide +kernel
theorem dX6_acceptChanged_15 : decode cX6_acceptChanged 15 = .ok (.ifCond .ne 5, 3) := by decide +kernel
theorem dX6_acceptChanged_18 : decode cX6_acceptChanged 18 = .ok (.iconst 1, 1) := by decide +kernel
theorem dX6_acceptChanged_19 : decode cX6_acceptChanged 19 = .ok (.ireturn, 1) := by decide +kernel
theorem dX6_acceptChanged_20 : decode cX6_acceptChanged 20 = .ok (.aload_n 2, 1) := by decide +kernel
theorem dX6_acceptChanged_21 : decode cX6_acceptChanged 21 = .ok (.getfield 91, 3) := by decide +kernel
theorem dX6_acceptChanged_24 : decode cX6_acceptChanged 24 = .ok (.istore 5, 2) := by decide +kernel
theorem dX6_acceptChanged_26 : decode cX6_acceptChanged 26 = .ok (.aload_n 2, 1) := by decide +kernel
theorem dX6_acceptChanged_27 : decode cX6_acceptChanged 27 = .ok (.getfield 120, 3) := by decide +kernel
theorem dX6_acceptChanged_30 : decode cX6_acceptChanged 30 = .ok (.iload 5, 2) := by decide +kernel
theorem dX6_acceptChanged_32 : decode cX6_acceptChanged 32 = .ok (.iaload, 1) := by decide +kernel
theorem dX6_acceptChanged_33 : decode cX6_acceptChanged 33 = .ok (.aload_n 2, 1) := by decide +kernel
theorem dX6_acceptChanged_34 : decode cX6_acceptChanged 34 = .ok (.getfield 123, 3) := by decide +kernel
theorem dX6_acceptChanged_37 : decode cX6_acceptChanged 37 = .ok (.iload 5, 2) := by decide +kernel
theorem dX6_acceptChanged_39 : decode cX6_acceptChanged 39 = .ok (.iaload, 1) := by decide +kernel
theorem dX6_acceptChanged_40 : decode cX6_acceptChanged 40 = .ok (.ior, 1) := by decide +kernel
theorem dX6_acceptChanged_41 : decode cX6_acceptChanged 41 = .ok (.iload_n 3, 1) := by decide +kernel
theorem dX6_acceptChanged_42 : decode cX6_acceptChanged 42 = .ok (.iload 4, 2) := by decide +kernel
theorem dX6_acceptChanged_44 : decode cX6_acceptChanged 44 = .ok (.ior, 1) := by decide +kernel
theorem dX6_acceptChanged_45 : decode cX6_acceptChanged 45 = .ok (.iand, 1) := by decide +kernel
theorem dX6_acceptChanged_46 : decode cX6_acceptChanged 46 = .ok (.ifCond .eq 5, 3) := by decide +kernel
theorem dX6_acceptChanged_49 : decode cX6_acceptChanged 49 = .ok (.iconst 4, 1) := by decide +kernel
theorem dX6_acceptChanged_50 : decode cX6_acceptChanged 50 = .ok (.ireturn, 1) := by decide +kernel
theorem dX6_acceptChanged_51 : decode cX6_acceptChanged 51 = .ok (.aload_n 2, 1) := by decide +kernel
theorem dX6_acceptChanged_52 : decode cX6_acceptChanged 52 = .ok (.getfield 120, 3) := by decide +kernel
theorem dX6_acceptChanged_55 : decode cX6_acceptChanged 55 = .ok (.iload 5, 2) := by decide +kernel
theorem dX6_acceptChanged_57 : decode cX6_acceptChanged 57 = .ok (.dup2, 1) := by decide +kernel
theorem dX6_acceptChanged_58 : decode cX6_acceptChanged 58 = .ok (.iaload, 1) := by decide +kernel
theorem dX6_acceptChanged_59 : decode cX6_acceptChanged 59 = .ok (.iload_n 3, 1) := by decide +kernel
theorem dX6_acceptChanged_60 : decode cX6_acceptChanged 60 = .ok (.ior, 1) := by decide +kernel
theorem dX6_acceptChanged_61 : decode cX6_acceptChanged 61 = .ok (.iastore, 1) := by decide +kernel
theorem dX6_acceptChanged_62 : decode cX6_acceptChanged 62 = .ok (.aload_n 2, 1) := by decide +kernel
theorem dX6_acceptChanged_63 : decode cX6_acceptChanged 63 = .ok (.getfield 123, 3) := by decide +kernel
theorem dX6_acceptChanged_66 : decode cX6_acceptChanged 66 = .ok (.iload 5, 2) := by decide +kernel
theorem dX6_acceptChanged_68 : decode cX6_acceptChanged 68 = .ok (.dup2, 1) := by decide +kernel
theorem dX6_acceptChanged_69 : decode cX6_acceptChanged 69 = .ok (.iaload, 1) := by decide +kernel
theorem dX6_acceptChanged_70 : decode cX6_acceptChanged 70 = .ok (.iload 4, 2) := by decide +kernel
theorem dX6_acceptChanged_72 : decode cX6_acceptChanged 72 = .ok (.ior, 1) := by decide +kernel
theorem dX6_acceptChanged_73 : decode cX6_acceptChanged 73 = .ok (.iastore, 1) := by decide +kernel
theorem dX6_acceptChanged_74 : decode cX6_acceptChanged 74 = .ok (.aload_n 0, 1) := by decide +kernel
theorem dX6_acceptChanged_75 : decode cX6_acceptChanged 75 = .ok (.bipush 9, 2) := by decide +kernel
theorem dX6_acceptChanged_77 : decode cX6_acceptChanged 77 = .ok (.invokevirtual 78, 3) := by decide +kernel
theorem dX6_acceptChanged_80 : decode cX6_acceptChanged 80 = .ok (.ireturn, 1) := by decide +kernel
theorem dX6_acceptMoreOfEffect_0 : decode cX6_acceptMoreOfEffect 0 = .ok (.iload_n 1, 1) := by decide +kernel
theorem dX6_acceptMoreOfEffect_1 : decode cX6_acceptMoreOfEffect 1 = .ok (.bipush 59, 2) := by decide +kernel
theorem dX6_acceptMoreOfEffect_3 : decode cX6_acceptMoreOfEffect 3 = .ok (.if_icmp .ne 11, 3) := by decide +kernel
theorem dX6_acceptMoreOfEffect_6 : decode cX6_acceptMoreOfEffect 6 = .ok (.aload_n 0, 1) := by decide +kernel
theorem dX6_acceptMoreOfEffect_7 : decode cX6_acceptMoreOfEffect 7 = .ok (.iconst 0, 1) := by decide +kernel
theorem dX6_acceptMoreOfEffect_8 : decode cX6_acceptMoreOfEffect 8 = .ok (.invokevirtual 78, 3) := by decide +kernel
theorem dX6_acceptMoreOfEffect_11 : decode cX6_acceptMoreOfEffect 11 = .ok (.goto 9, 3) := by decide +kernel
theorem dX6_acceptMoreOfEffect_14 : decode cX6_acceptMoreOfEffect 14 = .ok (.aload_n 0, 1) := by decide +kernel
theorem dX6_acceptMoreOfEffect_15 : decode cX6_acceptMoreOfEffect 15 = .ok (.iload_n 1, 1) := by decide +kernel
theorem dX6_acceptMoreOfEffect_16 : decode cX6_acceptMoreOfEffect 16 = .ok (.aload_n 2, 1) := by decide +kernel
theorem dX6_acceptMoreOfEffect_17 : decode cX6_acceptMoreOfEffect 17 = .ok (.invokevirtual 65, 3) := by decide +kernel
theorem dX6_acceptMoreOfEffect_20 : decode cX6_acceptMoreOfEffect 20 = .ok (.ireturn, 1) := by decide +kernel
theorem dX6_smallMark_0 : decode cX6_smallMark 0 = .ok (.iload_n 0, 1) := by decide +kernel
theorem dX6_smallMark_1 : decode cX6_smallMark 1 = .ok (.bipush 113, 2) := by decide +kernel
theorem dX6_smallMark_3 : decode cX6_smallMark 3 = .ok (.if_icmp .lt 18, 3) := by decide +kernel
theorem dX6_smallMark_6 : decode cX6_smallMark 6 = .ok (.iload_n 0, 1) := by decide +kernel
theorem dX6_smallMark_7 : decode cX6_smallMark 7 = .ok (.bipush 118, 2) := by decide +kernel
theorem dX6_smallMark_9 : decode cX6_smallMark 9 = .ok (.if_icmp .gt 12, 3) := by decide +kernel
theorem dX6_smallMark_12 : decode cX6_smallMark 12 = .ok (.iconst 1, 1) := by decide +kernel
theorem dX6_smallMark_13 : decode cX6_smallMark 13 = .ok (.iload_n 0, 1) := by decide +kernel
theorem dX6_smallMark_14 : decode cX6_smallMark 14 = .ok (.bipush 113, 2) := by decide +kernel
theorem dX6_smallMark_16 : decode cX6_smallMark 16 = .ok (.isub, 1) := by decide +kernel
theorem dX6_smallMark_17 : decode cX6_smallMark 17 = .ok (.ishl, 1) := by decide +kernel
theorem dX6_smallMark_18 : decode cX6_smallMark 18 = .ok (.goto 4, 3) := by decide +kernel
theorem dX6_smallMark_21 : decode cX6_smallMark 21 = .ok (.iconst 0, 1) := by decide +kernel
theorem dX6_smallMark_22 : decode cX6_smallMark 22 = .ok (.ireturn, 1) := by decide +kernel
theorem dX6_greatMark_0 : decode cX6_greatMark 0 = .ok (.iload_n 0, 1) := by decide +kernel
theorem dX6_greatMark_1 : decode cX6_greatMark 1 = .ok (.bipush 81, 2) := by decide +kernel
theorem dX6_greatMark_3 : decode cX6_greatMark 3 = .ok (.if_icmp .lt 18, 3) := by decide +kernel
theorem dX6_greatMark_6 : decode cX6_greatMark 6 = .ok (.iload_n 0, 1) := by decide +kernel
theorem dX6_greatMark_7 : decode cX6_greatMark 7 = .ok (.bipush 86, 2) := by decide +kernel
theorem dX6_greatMark_9 : decode cX6_greatMark 9 = .ok (.if_icmp .gt 12, 3) := by decide +kernel
theorem dX6_greatMark_12 : decode cX6_greatMark 12 = .ok (.iconst 1, 1) := by decide +kernel
theorem dX6_greatMark_13 : decode cX6_greatMark 13 = .ok (.iload_n 0, 1) := by decide +kernel
theorem dX6_greatMark_14 : decode cX6_greatMark 14 = .ok (.bipush 81, 2) := by decide +kernel
theorem dX6_greatMark_16 : decode cX6_greatMark 16 = .ok (.isub, 1) := by decide +kernel
theorem dX6_greatMark_17 : decode cX6_greatMark 17 = .ok (.ishl, 1) := by decide +kernel
theorem dX6_greatMark_18 : decode cX6_greatMark 18 = .ok (.goto 4, 3) := by decide +kernel
theorem dX6_greatMark_21 : decode cX6_greatMark 21 = .ok (.iconst 0, 1) := by decide +kernel
theorem dX6_greatMark_22 : decode cX6_greatMark 22 = .ok (.ireturn, 1) := by decide +kernel
theorem dX7_init_0 : decode cX7_init 0 = .ok (.aload_n 0, 1) := by decide +kernel
theorem dX7_init_1 : decode cX7_init 1 = .ok (.invokespecial 3, 3) := by decide +kernel
theorem dX7_init_4 : decode cX7_init 4 = .ok (.aload_n 0, 1) := by decide +kernel
theorem dX7_init_5 : decode cX7_init 5 = .ok (.sipush 1024, 3) := by decide +kernel
theorem dX7_init_8 : decode cX7_init 8 = .ok (.newarray .long, 2) := by decide +kernel
theorem dX7_init_10 : decode cX7_init 10 = .ok (.putfield 9, 3) := by decide +kernel
theorem dX7_init_13 : decode cX7_init 13 = .ok (.aload_n 0, 1) := by decide +kernel
theorem dX7_init_14 : decode cX7_init 14 = .ok (.sipush 1024, 3) := by decide +kernel
theorem dX7_init_17 : decode cX7_init 17 = .ok (.newarray .long, 2) := by decide +kernel
theorem dX7_init_19 : decode cX7_init 19 = .ok (.putfield 15, 3) := by decide +kernel
theorem dX7_init_22 : decode cX7_init 22 = .ok (.return_, 1) := by decide +kernel
theorem dX7_rowsTo_0 : decode cX7_rowsTo 0 = .ok (.aload_n 0, 1) := by decide +kernel
theorem dX7_rowsTo_1 : decode cX7_rowsTo 1 = .ok (.getfield 9, 3) := by decide +kernel
theorem dX7_rowsTo_4 : decode cX7_rowsTo 4 = .ok (.lconst 0, 1) := by decide +kernel
theorem dX7_rowsTo_5 : decode cX7_rowsTo 5 = .ok (.invokestatic 18, 3) := by decide +kernel
theorem dX7_rowsTo_8 : decode cX7_rowsTo 8 = .ok (.aload_n 0, 1) := by decide +kernel
theorem dX7_rowsTo_9 : decode cX7_rowsTo 9 = .ok (.getfield 9, 3) := by decide +kernel
theorem dX7_rowsTo_12 : decode cX7_rowsTo 12 = .ok (.iconst 0, 1) := by decide +kernel
theorem dX7_rowsTo_13 : decode cX7_rowsTo 13 = .ok (.lconst 1, 1) := by decide +kernel
theorem dX7_rowsTo_14 : decode cX7_rowsTo 14 = .ok (.lastore, 1) := by decide +kernel
theorem dX7_rowsTo_15 : decode cX7_rowsTo 15 = .ok (.iconst 0, 1) := by decide +kernel
theorem dX7_rowsTo_16 : decode cX7_rowsTo 16 = .ok (.istore 4, 2) := by decide +kernel
theorem dX7_rowsTo_18 : decode cX7_rowsTo 18 = .ok (.iload 4, 2) := by decide +kernel
theorem dX7_rowsTo_20 : decode cX7_rowsTo 20 = .ok (.iload_n 3, 1) := by decide +kernel
theorem dX7_rowsTo_21 : decode cX7_rowsTo 21 = .ok (.if_icmp .ge 21, 3) := by decide +kernel
theorem dX7_rowsTo_24 : decode cX7_rowsTo 24 = .ok (.aload_n 0, 1) := by decide +kernel
theorem dX7_rowsTo_25 : decode cX7_rowsTo 25 = .ok (.aload_n 1, 1) := by decide +kernel
theorem dX7_rowsTo_26 : decode cX7_rowsTo 26 = .ok (.invokevirtual 24, 3) := by decide +kernel
theorem dX7_rowsTo_29 : decode cX7_rowsTo 29 = .ok (.ifCond .ne 7, 3) := by decide +kernel
theorem dX7_rowsTo_32 : decode cX7_rowsTo 32 = .ok (.ldc2_w 28, 3) := by decide +kernel
theorem dX7_rowsTo_35 : decode cX7_rowsTo 35 = .ok (.lreturn, 1) := by decide +kernel
theorem dX7_rowsTo_36 : decode cX7_rowsTo 36 = .ok (.iinc 4 1, 3) := by decide +kernel
theorem dX7_rowsTo_39 : decode cX7_rowsTo 39 = .ok (.goto (-21), 3) := by decide +kernel
theorem dX7_rowsTo_42 : decode cX7_rowsTo 42 = .ok (.lconst 0, 1) := by decide +kernel
theorem dX7_rowsTo_43 : decode cX7_rowsTo 43 = .ok (.lstore 4, 2) := by decide +kernel
theorem dX7_rowsTo_45 : decode cX7_rowsTo 45 = .ok (.iconst 0, 1) := by decide +kernel
theorem dX7_rowsTo_46 : decode cX7_rowsTo 46 = .ok (.istore 6, 2) := by decide +kernel
theorem dX7_rowsTo_48 : decode cX7_rowsTo 48 = .ok (.iload 6, 2) := by decide +kernel
theorem dX7_rowsTo_50 : decode cX7_rowsTo 50 = .ok (.aload_n 1, 1) := by decide +kernel
theorem dX7_rowsTo_51 : decode cX7_rowsTo 51 = .ok (.getfield 30, 3) := by decide +kernel
theorem dX7_rowsTo_54 : decode cX7_rowsTo 54 = .ok (.if_icmp .ge 52, 3) := by decide +kernel
theorem dX7_rowsTo_57 : decode cX7_rowsTo 57 = .ok (.aload_n 1, 1) := by decide +kernel
theorem dX7_rowsTo_58 : decode cX7_rowsTo 58 = .ok (.iload 6, 2) := by decide +kernel
theorem dX7_rowsTo_60 : decode cX7_rowsTo 60 = .ok (.invokevirtual 36, 3) := by decide +kernel
theorem dX7_rowsTo_63 : decode cX7_rowsTo 63 = .ok (.iload_n 2, 1) := by decide +kernel
theorem dX7_rowsTo_64 : decode cX7_rowsTo 64 = .ok (.if_icmp .ne 36, 3) := by decide +kernel
theorem dX7_rowsTo_67 : decode cX7_rowsTo 67 = .ok (.aload_n 0, 1) := by decide +kernel
theorem dX7_rowsTo_68 : decode cX7_rowsTo 68 = .ok (.getfield 9, 3) := by decide +kernel
theorem dX7_rowsTo_71 : decode cX7_rowsTo 71 = .ok (.iload 6, 2) := by decide +kernel
theorem dX7_rowsTo_73 : decode cX7_rowsTo 73 = .ok (.laload, 1) := by decide +kernel
theorem dX7_rowsTo_74 : decode cX7_rowsTo 74 = .ok (.ldc2_w 40, 3) := by decide +kernel
theorem dX7_rowsTo_77 : decode cX7_rowsTo 77 = .ok (.lload 4, 2) := by decide +kernel
theorem dX7_rowsTo_79 : decode cX7_rowsTo 79 = .ok (.lsub, 1) := by decide +kernel
theorem dX7_rowsTo_80 : decode cX7_rowsTo 80 = .ok (.lcmp, 1) := by decide +kernel
theorem dX7_rowsTo_81 : decode cX7_rowsTo 81 = .ok (.ifCond .le 7, 3) := by decide +kernel
theorem dX7_rowsTo_84 : decode cX7_rowsTo 84 = .ok (.ldc2_w 28, 3) := by decide +kernel
theorem dX7_rowsTo_87 : decode cX7_rowsTo 87 = .ok (.lreturn, 1) := by decide +kernel
theorem dX7_rowsTo_88 : decode cX7_rowsTo 88 = .ok (.lload 4, 2) := by decide +kernel
theorem dX7_rowsTo_90 : decode cX7_rowsTo 90 = .ok (.aload_n 0, 1) := by decide +kernel
theorem dX7_rowsTo_91 : decode cX7_rowsTo 91 = .ok (.getfield 9, 3) := by decide +kernel
theorem dX7_rowsTo_94 : decode cX7_rowsTo 94 = .ok (.iload 6, 2) := by decide +kernel
theorem dX7_rowsTo_96 : decode cX7_rowsTo 96 = .ok (.laload, 1) := by decide +kernel
theorem dX7_rowsTo_97 : decode cX7_rowsTo 97 = .ok (.ladd, 1) := by decide +kernel
theorem dX7_rowsTo_98 : decode cX7_rowsTo 98 = .ok (.lstore 4, 2) := by decide +kernel
theorem dX7_rowsTo_100 : decode cX7_rowsTo 100 = .ok (.iinc 6 1, 3) := by decide +kernel
theorem dX7_rowsTo_103 : decode cX7_rowsTo 103 = .ok (.goto (-55), 3) := by decide +kernel
theorem dX7_rowsTo_106 : decode cX7_rowsTo 106 = .ok (.lload 4, 2) := by decide +kernel
theorem dX7_rowsTo_108 : decode cX7_rowsTo 108 = .ok (.lreturn, 1) := by decide +kernel
theorem dX7_lengthen_0 : decode cX7_lengthen 0 = .ok (.aload_n 0, 1) := by decide +kernel
theorem dX7_lengthen_1 : decode cX7_lengthen 1 = .ok (.getfield 15, 3) := by decide +kernel
theorem dX7_lengthen_4 : decode cX7_lengthen 4 = .ok (.lconst 0, 1) := by decide +kernel
theorem dX7_lengthen_5 : decode cX7_lengthen 5 = .ok (.invokestatic 18, 3) := by decide +kernel
theorem dX7_lengthen_8 : decode cX7_lengthen 8 = .ok (.iconst 0, 1) := by decide +kernel
theorem dX7_lengthen_9 : decode cX7_lengthen 9 = .ok (.istore_n 2, 1) := by decide +kernel
theorem dX7_lengthen_10 : decode cX7_lengthen 10 = .ok (.iload_n 2, 1) := by decide +kernel
theorem dX7_lengthen_11 : decode cX7_lengthen 11 = .ok (.aload_n 1, 1) := by decide +kernel
theorem dX7_lengthen_12 : decode cX7_lengthen 12 = .ok (.getfield 42, 3) := by decide +kernel
theorem dX7_lengthen_15 : decode cX7_lengthen 15 = .ok (.if_icmp .ge 58, 3) := by decide +kernel
theorem dX7_lengthen_18 : decode cX7_lengthen 18 = .ok (.aload_n 0, 1) := by decide +kernel
theorem dX7_lengthen_19 : decode cX7_lengthen 19 = .ok (.getfield 9, 3) := by decide +kernel
theorem dX7_lengthen_22 : decode cX7_lengthen 22 = .ok (.aload_n 1, 1) := by decide +kernel
theorem dX7_lengthen_23 : decode cX7_lengthen 23 = .ok (.getfield 45, 3) := by decide +kernel
theorem dX7_lengthen_26 : decode cX7_lengthen 26 = .ok (.iload_n 2, 1) := by decide +kernel
theorem dX7_lengthen_27 : decode cX7_lengthen 27 = .ok (.iaload, 1) := by decide +kernel
theorem dX7_lengthen_28 : decode cX7_lengthen 28 = .ok (.laload, 1) := by decide +kernel
theorem dX7_lengthen_29 : decode cX7_lengthen 29 = .ok (.lstore_n 3, 1) := by decide +kernel
theorem dX7_lengthen_30 : decode cX7_lengthen 30 = .ok (.aload_n 1, 1) := by decide +kernel
theorem dX7_lengthen_31 : decode cX7_lengthen 31 = .ok (.getfield 49, 3) := by decide +kernel
theorem dX7_lengthen_34 : decode cX7_lengthen 34 = .ok (.iload_n 2, 1) := by decide +kernel
theorem dX7_lengthen_35 : decode cX7_lengthen 35 = .ok (.iaload, 1) := by decide +kernel
theorem dX7_lengthen_36 : decode cX7_lengthen 36 = .ok (.istore 5, 2) := by decide +kernel
theorem dX7_lengthen_38 : decode cX7_lengthen 38 = .ok (.lload_n 3, 1) := by decide +kernel
theorem dX7_lengthen_39 : decode cX7_lengthen 39 = .ok (.ldc2_w 40, 3) := by decide +kernel
theorem dX7_lengthen_42 : decode cX7_lengthen 42 = .ok (.aload_n 0, 1) := by decide +kernel
theorem dX7_lengthen_43 : decode cX7_lengthen 43 = .ok (.getfield 15, 3) := by decide +kernel
theorem dX7_lengthen_46 : decode cX7_lengthen 46 = .ok (.iload 5, 2) := by decide +kernel
theorem dX7_lengthen_48 : decode cX7_lengthen 48 = .ok (.laload, 1) := by decide +kernel
theorem dX7_lengthen_49 : decode cX7_lengthen 49 = .ok (.lsub, 1) := by decide +kernel
theorem dX7_lengthen_50 : decode cX7_lengthen 50 = .ok (.lcmp, 1) := by decide +kernel
theorem dX7_lengthen_51 : decode cX7_lengthen 51 = .ok (.ifCond .le 5, 3) := by decide +kernel
theorem dX7_lengthen_54 : decode cX7_lengthen 54 = .ok (.iconst 0, 1) := by decide +kernel
theorem dX7_lengthen_55 : decode cX7_lengthen 55 = .ok (.ireturn, 1) := by decide +kernel
theorem dX7_lengthen_56 : decode cX7_lengthen 56 = .ok (.aload_n 0, 1) := by decide +kernel
theorem dX7_lengthen_57 : decode cX7_lengthen 57 = .ok (.getfield 15, 3) := by decide +kernel
theorem dX7_lengthen_60 : decode cX7_lengthen 60 = .ok (.iload 5, 2) := by decide +kernel
theorem dX7_lengthen_62 : decode cX7_lengthen 62 = .ok (.dup2, 1) := by decide +kernel
theorem dX7_lengthen_63 : decode cX7_lengthen 63 = .ok (.laload, 1) := by decide +kernel
theorem dX7_lengthen_64 : decode cX7_lengthen 64 = .ok (.lload_n 3, 1) := by decide +kernel
theorem dX7_lengthen_65 : decode cX7_lengthen 65 = .ok (.ladd, 1) := by decide +kernel
theorem dX7_lengthen_66 : decode cX7_lengthen 66 = .ok (.lastore, 1) := by decide +kernel
theorem dX7_lengthen_67 : decode cX7_lengthen 67 = .ok (.iinc 2 1, 3) := by decide +kernel
theorem dX7_lengthen_70 : decode cX7_lengthen 70 = .ok (.goto (-60), 3) := by decide +kernel
theorem dX7_lengthen_73 : decode cX7_lengthen 73 = .ok (.aload_n 0, 1) := by decide +kernel
theorem dX7_lengthen_74 : decode cX7_lengthen 74 = .ok (.getfield 9, 3) := by decide +kernel
theorem dX7_lengthen_77 : decode cX7_lengthen 77 = .ok (.astore_n 2, 1) := by decide +kernel
theorem dX7_lengthen_78 : decode cX7_lengthen 78 = .ok (.aload_n 0, 1) := by decide +kernel
theorem dX7_lengthen_79 : decode cX7_lengthen 79 = .ok (.aload_n 0, 1) := by decide +kernel
theorem dX7_lengthen_80 : decode cX7_lengthen 80 = .ok (.getfield 15, 3) := by decide +kernel
theorem dX7_lengthen_83 : decode cX7_lengthen 83 = .ok (.putfield 9, 3) := by decide +kernel
theorem dX7_lengthen_86 : decode cX7_lengthen 86 = .ok (.aload_n 0, 1) := by decide +kernel
theorem dX7_lengthen_87 : decode cX7_lengthen 87 = .ok (.aload_n 2, 1) := by decide +kernel
theorem dX7_lengthen_88 : decode cX7_lengthen 88 = .ok (.putfield 15, 3) := by decide +kernel
theorem dX7_lengthen_91 : decode cX7_lengthen 91 = .ok (.iconst 1, 1) := by decide +kernel
theorem dX7_lengthen_92 : decode cX7_lengthen 92 = .ok (.ireturn, 1) := by decide +kernel
theorem dX8_init_0 : decode cX8_init 0 = .ok (.aload_n 0, 1) := by decide +kernel
theorem dX8_init_1 : decode cX8_init 1 = .ok (.invokespecial 3, 3) := by decide +kernel
theorem dX8_init_4 : decode cX8_init 4 = .ok (.aload_n 0, 1) := by decide +kernel
theorem dX8_init_5 : decode cX8_init 5 = .ok (.bipush 32, 2) := by decide +kernel
theorem dX8_init_7 : decode cX8_init 7 = .ok (.newarray .int, 2) := by decide +kernel
theorem dX8_init_9 : decode cX8_init 9 = .ok (.putfield 9, 3) := by decide +kernel
theorem dX8_init_12 : decode cX8_init 12 = .ok (.aload_n 0, 1) := by decide +kernel
theorem dX8_init_13 : decode cX8_init 13 = .ok (.bipush 32, 2) := by decide +kernel
theorem dX8_init_15 : decode cX8_init 15 = .ok (.newarray .int, 2) := by decide +kernel
theorem dX8_init_17 : decode cX8_init 17 = .ok (.putfield 15, 3) := by decide +kernel
theorem dX8_init_20 : decode cX8_init 20 = .ok (.aload_n 0, 1) := by decide +kernel
theorem dX8_init_21 : decode cX8_init 21 = .ok (.bipush 32, 2) := by decide +kernel
theorem dX8_init_23 : decode cX8_init 23 = .ok (.newarray .int, 2) := by decide +kernel
theorem dX8_init_25 : decode cX8_init 25 = .ok (.putfield 18, 3) := by decide +kernel
theorem dX8_init_28 : decode cX8_init 28 = .ok (.aload_n 0, 1) := by decide +kernel
theorem dX8_init_29 : decode cX8_init 29 = .ok (.bipush 32, 2) := by decide +kernel
theorem dX8_init_31 : decode cX8_init 31 = .ok (.newarray .int, 2) := by decide +kernel
theorem dX8_init_33 : decode cX8_init 33 = .ok (.putfield 21, 3) := by decide +kernel
theorem dX8_init_36 : decode cX8_init 36 = .ok (.aload_n 0, 1) := by decide +kernel
theorem dX8_init_37 : decode cX8_init 37 = .ok (.bipush 96, 2) := by decide +kernel
theorem dX8_init_39 : decode cX8_init 39 = .ok (.newarray .int, 2) := by decide +kernel
theorem dX8_init_41 : decode cX8_init 41 = .ok (.putfield 24, 3) := by decide +kernel
theorem dX8_init_44 : decode cX8_init 44 = .ok (.aload_n 0, 1) := by decide +kernel
theorem dX8_init_45 : decode cX8_init 45 = .ok (.bipush 96, 2) := by decide +kernel
theorem dX8_init_47 : decode cX8_init 47 = .ok (.newarray .int, 2) := by decide +kernel
theorem dX8_init_49 : decode cX8_init 49 = .ok (.putfield 27, 3) := by decide +kernel
theorem dX8_init_52 : decode cX8_init 52 = .ok (.aload_n 0, 1) := by decide +kernel
theorem dX8_init_53 : decode cX8_init 53 = .ok (.bipush 32, 2) := by decide +kernel
theorem dX8_init_55 : decode cX8_init 55 = .ok (.newarray .int, 2) := by decide +kernel
theorem dX8_init_57 : decode cX8_init 57 = .ok (.putfield 30, 3) := by decide +kernel
theorem dX8_init_60 : decode cX8_init 60 = .ok (.aload_n 0, 1) := by decide +kernel
theorem dX8_init_61 : decode cX8_init 61 = .ok (.bipush 32, 2) := by decide +kernel
theorem dX8_init_63 : decode cX8_init 63 = .ok (.newarray .int, 2) := by decide +kernel
theorem dX8_init_65 : decode cX8_init 65 = .ok (.putfield 33, 3) := by decide +kernel
theorem dX8_init_68 : decode cX8_init 68 = .ok (.aload_n 0, 1) := by decide +kernel
theorem dX8_init_69 : decode cX8_init 69 = .ok (.bipush 32, 2) := by decide +kernel
theorem dX8_init_71 : decode cX8_init 71 = .ok (.newarray .int, 2) := by decide +kernel
theorem dX8_init_73 : decode cX8_init 73 = .ok (.putfield 36, 3) := by decide +kernel
theorem dX8_init_76 : decode cX8_init 76 = .ok (.aload_n 0, 1) := by decide +kernel
theorem dX8_init_77 : decode cX8_init 77 = .ok (.bipush 17, 2) := by decide +kernel
theorem dX8_init_79 : decode cX8_init 79 = .ok (.newarray .int, 2) := by decide +kernel
theorem dX8_init_81 : decode cX8_init 81 = .ok (.putfield 39, 3) := by decide +kernel
theorem dX8_init_84 : decode cX8_init 84 = .ok (.return_, 1) := by decide +kernel
theorem dX8_clear_0 : decode cX8_clear 0 = .ok (.aload_n 0, 1) := by decide +kernel
theorem dX8_clear_1 : decode cX8_clear 1 = .ok (.iconst 0, 1) := by decide +kernel
theorem dX8_clear_2 : decode cX8_clear 2 = .ok (.putfield 42, 3) := by decide +kernel
theorem dX8_clear_5 : decode cX8_clear 5 = .ok (.aload_n 0, 1) := by decide +kernel
theorem dX8_clear_6 : decode cX8_clear 6 = .ok (.iconst 0, 1) := by decide +kernel
theorem dX8_clear_7 : decode cX8_clear 7 = .ok (.putfield 46, 3) := by decide +kernel
theorem dX8_clear_10 : decode cX8_clear 10 = .ok (.aload_n 0, 1) := by decide +kernel
theorem dX8_clear_11 : decode cX8_clear 11 = .ok (.iconst 0, 1) := by decide +kernel
theorem dX8_clear_12 : decode cX8_clear 12 = .ok (.putfield 49, 3) := by decide +kernel
theorem dX8_clear_15 : decode cX8_clear 15 = .ok (.aload_n 0, 1) := by decide +kernel
theorem dX8_clear_16 : decode cX8_clear 16 = .ok (.iconst 0, 1) := by decide +kernel
theorem dX8_clear_17 : decode cX8_clear 17 = .ok (.putfield 52, 3) := by decide +kernel
theorem dX8_clear_20 : decode cX8_clear 20 = .ok (.aload_n 0, 1) := by decide +kernel
theorem dX8_clear_21 : decode cX8_clear 21 = .ok (.iconst 0, 1) := by decide +kernel
theorem dX8_clear_22 : decode cX8_clear 22 = .ok (.putfield 55, 3) := by decide +kernel
theorem dX8_clear_25 : decode cX8_clear 25 = .ok (.aload_n 0, 1) := by decide +kernel
theorem dX8_clear_26 : decode cX8_clear 26 = .ok (.iconst 0, 1) := by decide +kernel
theorem dX8_clear_27 : decode cX8_clear 27 = .ok (.putfield 58, 3) := by decide +kernel
theorem dX8_clear_30 : decode cX8_clear 30 = .ok (.aload_n 0, 1) := by decide +kernel
theorem dX8_clear_31 : decode cX8_clear 31 = .ok (.iconst 0, 1) := by decide +kernel
theorem dX8_clear_32 : decode cX8_clear 32 = .ok (.putfield 61, 3) := by decide +kernel
theorem dX8_clear_35 : decode cX8_clear 35 = .ok (.return_, 1) := by decide +kernel
theorem dX8_nameLine_0 : decode cX8_nameLine 0 = .ok (.aload_n 0, 1) := by decide +kernel
theorem dX8_nameLine_1 : decode cX8_nameLine 1 = .ok (.getfield 52, 3) := by decide +kernel
theorem dX8_nameLine_4 : decode cX8_nameLine 4 = .ok (.ifCond .ne 8, 3) := by decide +kernel
theorem dX8_nameLine_7 : decode cX8_nameLine 7 = .ok (.aload_n 0, 1) := by decide +kernel
theorem dX8_nameLine_8 : decode cX8_nameLine 8 = .ok (.iload_n 1, 1) := by decide +kernel
theorem dX8_nameLine_9 : decode cX8_nameLine 9 = .ok (.putfield 58, 3) := by decide +kernel
theorem dX8_nameLine_12 : decode cX8_nameLine 12 = .ok (.aload_n 0, 1) := by decide +kernel
theorem dX8_nameLine_13 : decode cX8_nameLine 13 = .ok (.dup, 1) := by decide +kernel
theorem dX8_nameLine_14 : decode cX8_nameLine 14 = .ok (.getfield 52, 3) := by decide +kernel
theorem dX8_nameLine_17 : decode cX8_nameLine 17 = .ok (.iconst 1, 1) := by decide +kernel
theorem dX8_nameLine_18 : decode cX8_nameLine 18 = .ok (.iload_n 1, 1) := by decide +kernel
theorem dX8_nameLine_19 : decode cX8_nameLine 19 = .ok (.ishl, 1) := by decide +kernel
theorem dX8_nameLine_20 : decode cX8_nameLine 20 = .ok (.ior, 1) := by decide +kernel
theorem dX8_nameLine_21 : decode cX8_nameLine 21 = .ok (.putfield 52, 3) := by decide +kernel
theorem dX8_nameLine_24 : decode cX8_nameLine 24 = .ok (.return_, 1) := by decide +kernel
theorem dX8_addAnswer_0 : decode cX8_addAnswer 0 = .ok (.aload_n 0, 1) := by decide +kernel
theorem dX8_addAnswer_1 : decode cX8_addAnswer 1 = .ok (.getfield 42, 3) := by decide +kernel
theorem dX8_addAnswer_4 : decode cX8_addAnswer 4 = .ok (.bipush 32, 2) := by decide +kernel
theorem dX8_addAnswer_6 : decode cX8_addAnswer 6 = .ok (.if_icmp .lt 5, 3) := by decide +kernel
theorem dX8_addAnswer_9 : decode cX8_addAnswer 9 = .ok (.iconst 0, 1) := by decide +kernel
theorem dX8_addAnswer_10 : decode cX8_addAnswer 10 = .ok (.ireturn, 1) := by decide +kernel
theorem dX8_addAnswer_11 : decode cX8_addAnswer 11 = .ok (.aload_n 0, 1) := by decide +kernel
theorem dX8_addAnswer_12 : decode cX8_addAnswer 12 = .ok (.aload_n 0, 1) := by decide +kernel
theorem dX8_addAnswer_13 : decode cX8_addAnswer 13 = .ok (.getfield 42, 3) := by decide +kernel
theorem dX8_addAnswer_16 : decode cX8_addAnswer 16 = .ok (.putfield 46, 3) := by decide +kernel
theorem dX8_addAnswer_19 : decode cX8_addAnswer 19 = .ok (.aload_n 0, 1) := by decide +kernel
theorem dX8_addAnswer_20 : decode cX8_addAnswer 20 = .ok (.dup, 1) := by decide +kernel
theorem dX8_addAnswer_21 : decode cX8_addAnswer 21 = .ok (.getfield 42, 3) := by decide +kernel
theorem dX8_addAnswer_24 : decode cX8_addAnswer 24 = .ok (.iconst 1, 1) := by decide +kernel
theorem dX8_addAnswer_25 : decode cX8_addAnswer 25 = .ok (.iadd, 1) := by decide +kernel
theorem dX8_addAnswer_26 : decode cX8_addAnswer 26 = .ok (.putfield 42, 3) := by decide +kernel
theorem dX8_addAnswer_29 : decode cX8_addAnswer 29 = .ok (.aload_n 0, 1) := by decide +kernel
theorem dX8_addAnswer_30 : decode cX8_addAnswer 30 = .ok (.getfield 9, 3) := by decide +kernel
theorem dX8_addAnswer_33 : decode cX8_addAnswer 33 = .ok (.aload_n 0, 1) := by decide +kernel
theorem dX8_addAnswer_34 : decode cX8_addAnswer 34 = .ok (.getfield 46, 3) := by decide +kernel
theorem dX8_addAnswer_37 : decode cX8_addAnswer 37 = .ok (.iload_n 1, 1) := by decide +kernel
theorem dX8_addAnswer_38 : decode cX8_addAnswer 38 = .ok (.iastore, 1) := by decide +kernel
theorem dX8_addAnswer_39 : decode cX8_addAnswer 39 = .ok (.aload_n 0, 1) := by decide +kernel
