theorem dX0_init_0 : decode cX0_init 0 = .ok (.aload_n 0, 1) := by decide +kernel
theorem dX0_init_1 : decode cX0_init 1 = .ok (.iload_n 1, 1) := by decide +kernel
theorem dX0_init_2 : decode cX0_init 2 = .ok (.invokespecial 3, 3) := by decide +kernel
theorem dX0_init_5 : decode cX0_init 5 = .ok (.aload_n 0, 1) := by decide +kernel
theorem dX0_init_6 : decode cX0_init 6 = .ok (.aconst_null, 1) := by decide +kernel
theorem dX0_init_7 : decode cX0_init 7 = .ok (.putfield 9, 3) := by decide +kernel
theorem dX0_init_10 : decode cX0_init 10 = .ok (.aload_n 0, 1) := by decide +kernel
theorem dX0_init_11 : decode cX0_init 11 = .ok (.iconst 0, 1) := by decide +kernel
theorem dX0_init_12 : decode cX0_init 12 = .ok (.putfield 15, 3) := by decide +kernel
theorem dX0_init_15 : decode cX0_init 15 = .ok (.aload_n 0, 1) := by decide +kernel
theorem dX0_init_16 : decode cX0_init 16 = .ok (.aconst_null, 1) := by decide +kernel
theorem dX0_init_17 : decode cX0_init 17 = .ok (.putfield 19, 3) := by decide +kernel
theorem dX0_init_20 : decode cX0_init 20 = .ok (.aload_n 0, 1) := by decide +kernel
theorem dX0_init_21 : decode cX0_init 21 = .ok (.iconst 0, 1) := by decide +kernel
theorem dX0_init_22 : decode cX0_init 22 = .ok (.putfield 23, 3) := by decide +kernel
theorem dX0_init_25 : decode cX0_init 25 = .ok (.aload_n 0, 1) := by decide +kernel
theorem dX0_init_26 : decode cX0_init 26 = .ok (.iconst 0, 1) := by decide +kernel
theorem dX0_init_27 : decode cX0_init 27 = .ok (.putfield 26, 3) := by decide +kernel
theorem dX0_init_30 : decode cX0_init 30 = .ok (.aload_n 0, 1) := by decide +kernel
theorem dX0_init_31 : decode cX0_init 31 = .ok (.iconst 0, 1) := by decide +kernel
theorem dX0_init_32 : decode cX0_init 32 = .ok (.putfield 30, 3) := by decide +kernel
theorem dX0_init_35 : decode cX0_init 35 = .ok (.aload_n 0, 1) := by decide +kernel
theorem dX0_init_36 : decode cX0_init 36 = .ok (.aload_n 2, 1) := by decide +kernel
theorem dX0_init_37 : decode cX0_init 37 = .ok (.putfield 33, 3) := by decide +kernel
theorem dX0_init_40 : decode cX0_init 40 = .ok (.aload_n 0, 1) := by decide +kernel
theorem dX0_init_41 : decode cX0_init 41 = .ok (.iload_n 3, 1) := by decide +kernel
theorem dX0_init_42 : decode cX0_init 42 = .ok (.putfield 37, 3) := by decide +kernel
theorem dX0_init_45 : decode cX0_init 45 = .ok (.aload_n 0, 1) := by decide +kernel
theorem dX0_init_46 : decode cX0_init 46 = .ok (.iload 4, 2) := by decide +kernel
theorem dX0_init_48 : decode cX0_init 48 = .ok (.putfield 40, 3) := by decide +kernel
theorem dX0_init_51 : decode cX0_init 51 = .ok (.aload_n 0, 1) := by decide +kernel
theorem dX0_init_52 : decode cX0_init 52 = .ok (.iload 5, 2) := by decide +kernel
theorem dX0_init_54 : decode cX0_init 54 = .ok (.putfield 43, 3) := by decide +kernel
theorem dX0_init_57 : decode cX0_init 57 = .ok (.aload_n 0, 1) := by decide +kernel
theorem dX0_init_58 : decode cX0_init 58 = .ok (.iload 6, 2) := by decide +kernel
theorem dX0_init_60 : decode cX0_init 60 = .ok (.putfield 46, 3) := by decide +kernel
theorem dX0_init_63 : decode cX0_init 63 = .ok (.aload_n 0, 1) := by decide +kernel
theorem dX0_init_64 : decode cX0_init 64 = .ok (.iload 7, 2) := by decide +kernel
theorem dX0_init_66 : decode cX0_init 66 = .ok (.putfield 49, 3) := by decide +kernel
theorem dX0_init_69 : decode cX0_init 69 = .ok (.return_, 1) := by decide +kernel
theorem dX0_wasSplitFrom_0 : decode cX0_wasSplitFrom 0 = .ok (.aload_n 0, 1) := by decide +kernel
theorem dX0_wasSplitFrom_1 : decode cX0_wasSplitFrom 1 = .ok (.getfield 30, 3) := by decide +kernel
theorem dX0_wasSplitFrom_4 : decode cX0_wasSplitFrom 4 = .ok (.iconst 1, 1) := by decide +kernel
theorem dX0_wasSplitFrom_5 : decode cX0_wasSplitFrom 5 = .ok (.aload_n 1, 1) := by decide +kernel
theorem dX0_wasSplitFrom_6 : decode cX0_wasSplitFrom 6 = .ok (.getfield 52, 3) := by decide +kernel
theorem dX0_wasSplitFrom_9 : decode cX0_wasSplitFrom 9 = .ok (.ishl, 1) := by decide +kernel
theorem dX0_wasSplitFrom_10 : decode cX0_wasSplitFrom 10 = .ok (.iand, 1) := by decide +kernel
theorem dX0_wasSplitFrom_11 : decode cX0_wasSplitFrom 11 = .ok (.ifCond .eq 7, 3) := by decide +kernel
theorem dX0_wasSplitFrom_14 : decode cX0_wasSplitFrom 14 = .ok (.iconst 1, 1) := by decide +kernel
theorem dX0_wasSplitFrom_15 : decode cX0_wasSplitFrom 15 = .ok (.goto 4, 3) := by decide +kernel
theorem dX0_wasSplitFrom_18 : decode cX0_wasSplitFrom 18 = .ok (.iconst 0, 1) := by decide +kernel
theorem dX0_wasSplitFrom_19 : decode cX0_wasSplitFrom 19 = .ok (.ireturn, 1) := by decide +kernel
theorem dX0_stepsNeeded_0 : decode cX0_stepsNeeded 0 = .ok (.aload_n 0, 1) := by decide +kernel
theorem dX0_stepsNeeded_1 : decode cX0_stepsNeeded 1 = .ok (.getfield 43, 3) := by decide +kernel
theorem dX0_stepsNeeded_4 : decode cX0_stepsNeeded 4 = .ok (.sipush 2000, 3) := by decide +kernel
theorem dX0_stepsNeeded_7 : decode cX0_stepsNeeded 7 = .ok (.if_icmp .le 7, 3) := by decide +kernel
theorem dX0_stepsNeeded_10 : decode cX0_stepsNeeded 10 = .ok (.iconst 3, 1) := by decide +kernel
theorem dX0_stepsNeeded_11 : decode cX0_stepsNeeded 11 = .ok (.goto 18, 3) := by decide +kernel
theorem dX0_stepsNeeded_14 : decode cX0_stepsNeeded 14 = .ok (.aload_n 0, 1) := by decide +kernel
theorem dX0_stepsNeeded_15 : decode cX0_stepsNeeded 15 = .ok (.getfield 43, 3) := by decide +kernel
theorem dX0_stepsNeeded_18 : decode cX0_stepsNeeded 18 = .ok (.sipush 500, 3) := by decide +kernel
theorem dX0_stepsNeeded_21 : decode cX0_stepsNeeded 21 = .ok (.if_icmp .le 7, 3) := by decide +kernel
theorem dX0_stepsNeeded_24 : decode cX0_stepsNeeded 24 = .ok (.iconst 2, 1) := by decide +kernel
theorem dX0_stepsNeeded_25 : decode cX0_stepsNeeded 25 = .ok (.goto 4, 3) := by decide +kernel
theorem dX0_stepsNeeded_28 : decode cX0_stepsNeeded 28 = .ok (.iconst 1, 1) := by decide +kernel
theorem dX0_stepsNeeded_29 : decode cX0_stepsNeeded 29 = .ok (.istore_n 1, 1) := by decide +kernel
theorem dX0_stepsNeeded_30 : decode cX0_stepsNeeded 30 = .ok (.iconst 0, 1) := by decide +kernel
theorem dX0_stepsNeeded_31 : decode cX0_stepsNeeded 31 = .ok (.istore_n 2, 1) := by decide +kernel
theorem dX0_stepsNeeded_32 : decode cX0_stepsNeeded 32 = .ok (.aload_n 0, 1) := by decide +kernel
theorem dX0_stepsNeeded_33 : decode cX0_stepsNeeded 33 = .ok (.getfield 33, 3) := by decide +kernel
theorem dX0_stepsNeeded_36 : decode cX0_stepsNeeded 36 = .ok (.getfield 61, 3) := by decide +kernel
theorem dX0_stepsNeeded_39 : decode cX0_stepsNeeded 39 = .ok (.astore_n 3, 1) := by decide +kernel
theorem dX0_stepsNeeded_40 : decode cX0_stepsNeeded 40 = .ok (.aload_n 3, 1) := by decide +kernel
theorem dX0_stepsNeeded_41 : decode cX0_stepsNeeded 41 = .ok (.ifnull 19, 3) := by decide +kernel
theorem dX0_stepsNeeded_44 : decode cX0_stepsNeeded 44 = .ok (.iload_n 2, 1) := by decide +kernel
theorem dX0_stepsNeeded_45 : decode cX0_stepsNeeded 45 = .ok (.iload_n 1, 1) := by decide +kernel
theorem dX0_stepsNeeded_46 : decode cX0_stepsNeeded 46 = .ok (.if_icmp .ge 14, 3) := by decide +kernel
theorem dX0_stepsNeeded_49 : decode cX0_stepsNeeded 49 = .ok (.iinc 2 1, 3) := by decide +kernel
theorem dX0_stepsNeeded_52 : decode cX0_stepsNeeded 52 = .ok (.aload_n 3, 1) := by decide +kernel
theorem dX0_stepsNeeded_53 : decode cX0_stepsNeeded 53 = .ok (.getfield 61, 3) := by decide +kernel
theorem dX0_stepsNeeded_56 : decode cX0_stepsNeeded 56 = .ok (.astore_n 3, 1) := by decide +kernel
theorem dX0_stepsNeeded_57 : decode cX0_stepsNeeded 57 = .ok (.goto (-17), 3) := by decide +kernel
theorem dX0_stepsNeeded_60 : decode cX0_stepsNeeded 60 = .ok (.iload_n 2, 1) := by decide +kernel
theorem dX0_stepsNeeded_61 : decode cX0_stepsNeeded 61 = .ok (.ireturn, 1) := by decide +kernel
theorem dX0_bossOfNextStep_0 : decode cX0_bossOfNextStep 0 = .ok (.aload_n 0, 1) := by decide +kernel
theorem dX0_bossOfNextStep_1 : decode cX0_bossOfNextStep 1 = .ok (.getfield 23, 3) := by decide +kernel
theorem dX0_bossOfNextStep_4 : decode cX0_bossOfNextStep 4 = .ok (.aload_n 0, 1) := by decide +kernel
theorem dX0_bossOfNextStep_5 : decode cX0_bossOfNextStep 5 = .ok (.invokevirtual 66, 3) := by decide +kernel
theorem dX0_bossOfNextStep_8 : decode cX0_bossOfNextStep 8 = .ok (.if_icmp .ge 13, 3) := by decide +kernel
theorem dX0_bossOfNextStep_11 : decode cX0_bossOfNextStep 11 = .ok (.aload_n 0, 1) := by decide +kernel
theorem dX0_bossOfNextStep_12 : decode cX0_bossOfNextStep 12 = .ok (.getfield 33, 3) := by decide +kernel
theorem dX0_bossOfNextStep_15 : decode cX0_bossOfNextStep 15 = .ok (.getfield 61, 3) := by decide +kernel
theorem dX0_bossOfNextStep_18 : decode cX0_bossOfNextStep 18 = .ok (.goto 4, 3) := by decide +kernel
theorem dX0_bossOfNextStep_21 : decode cX0_bossOfNextStep 21 = .ok (.aconst_null, 1) := by decide +kernel
theorem dX0_bossOfNextStep_22 : decode cX0_bossOfNextStep 22 = .ok (.astore_n 1, 1) := by decide +kernel
theorem dX0_bossOfNextStep_23 : decode cX0_bossOfNextStep 23 = .ok (.iconst 0, 1) := by decide +kernel
theorem dX0_bossOfNextStep_24 : decode cX0_bossOfNextStep 24 = .ok (.istore_n 2, 1) := by decide +kernel
theorem dX0_bossOfNextStep_25 : decode cX0_bossOfNextStep 25 = .ok (.iload_n 2, 1) := by decide +kernel
theorem dX0_bossOfNextStep_26 : decode cX0_bossOfNextStep 26 = .ok (.aload_n 0, 1) := by decide +kernel
theorem dX0_bossOfNextStep_27 : decode cX0_bossOfNextStep 27 = .ok (.getfield 23, 3) := by decide +kernel
theorem dX0_bossOfNextStep_30 : decode cX0_bossOfNextStep 30 = .ok (.if_icmp .ge 18, 3) := by decide +kernel
theorem dX0_bossOfNextStep_33 : decode cX0_bossOfNextStep 33 = .ok (.aload_n 1, 1) := by decide +kernel
theorem dX0_bossOfNextStep_34 : decode cX0_bossOfNextStep 34 = .ok (.ifnull 14, 3) := by decide +kernel
theorem dX0_bossOfNextStep_37 : decode cX0_bossOfNextStep 37 = .ok (.aload_n 1, 1) := by decide +kernel
theorem dX0_bossOfNextStep_38 : decode cX0_bossOfNextStep 38 = .ok (.getfield 61, 3) := by decide +kernel
theorem dX0_bossOfNextStep_41 : decode cX0_bossOfNextStep 41 = .ok (.astore_n 1, 1) := by decide +kernel
theorem dX0_bossOfNextStep_42 : decode cX0_bossOfNextStep 42 = .ok (.iinc 2 1, 3) := by decide +kernel
theorem dX0_bossOfNextStep_45 : decode cX0_bossOfNextStep 45 = .ok (.goto (-20), 3) := by decide +kernel
theorem dX0_bossOfNextStep_48 : decode cX0_bossOfNextStep 48 = .ok (.aload_n 1, 1) := by decide +kernel
theorem dX0_bossOfNextStep_49 : decode cX0_bossOfNextStep 49 = .ok (.areturn, 1) := by decide +kernel
theorem dX1_init_0 : decode cX1_init 0 = .ok (.aload_n 0, 1) := by decide +kernel
theorem dX1_init_1 : decode cX1_init 1 = .ok (.invokespecial 1, 3) := by decide +kernel
theorem dX1_init_4 : decode cX1_init 4 = .ok (.aload_n 0, 1) := by decide +kernel
theorem dX1_init_5 : decode cX1_init 5 = .ok (.iload_n 1, 1) := by decide +kernel
theorem dX1_init_6 : decode cX1_init 6 = .ok (.putfield 7, 3) := by decide +kernel
theorem dX1_init_9 : decode cX1_init 9 = .ok (.return_, 1) := by decide +kernel
theorem dX2_init_0 : decode cX2_init 0 = .ok (.aload_n 0, 1) := by decide +kernel
theorem dX2_init_1 : decode cX2_init 1 = .ok (.iload_n 1, 1) := by decide +kernel
theorem dX2_init_2 : decode cX2_init 2 = .ok (.invokespecial 3, 3) := by decide +kernel
theorem dX2_init_5 : decode cX2_init 5 = .ok (.aload_n 0, 1) := by decide +kernel
theorem dX2_init_6 : decode cX2_init 6 = .ok (.iconst 5, 1) := by decide +kernel
theorem dX2_init_7 : decode cX2_init 7 = .ok (.putfield 9, 3) := by decide +kernel
theorem dX2_init_10 : decode cX2_init 10 = .ok (.aload_n 0, 1) := by decide +kernel
theorem dX2_init_11 : decode cX2_init 11 = .ok (.iconst 0, 1) := by decide +kernel
theorem dX2_init_12 : decode cX2_init 12 = .ok (.putfield 15, 3) := by decide +kernel
theorem dX2_init_15 : decode cX2_init 15 = .ok (.aload_n 0, 1) := by decide +kernel
theorem dX2_init_16 : decode cX2_init 16 = .ok (.iconst (-1), 1) := by decide +kernel
theorem dX2_init_17 : decode cX2_init 17 = .ok (.putfield 18, 3) := by decide +kernel
theorem dX2_init_20 : decode cX2_init 20 = .ok (.aload_n 0, 1) := by decide +kernel
theorem dX2_init_21 : decode cX2_init 21 = .ok (.aconst_null, 1) := by decide +kernel
theorem dX2_init_22 : decode cX2_init 22 = .ok (.putfield 21, 3) := by decide +kernel
theorem dX2_init_25 : decode cX2_init 25 = .ok (.aload_n 0, 1) := by decide +kernel
theorem dX2_init_26 : decode cX2_init 26 = .ok (.aload_n 2, 1) := by decide +kernel
theorem dX2_init_27 : decode cX2_init 27 = .ok (.putfield 25, 3) := by decide +kernel
theorem dX2_init_30 : decode cX2_init 30 = .ok (.return_, 1) := by decide +kernel
theorem dX2_isAwayOn_0 : decode cX2_isAwayOn 0 = .ok (.aload_n 0, 1) := by decide +kernel
theorem dX2_isAwayOn_1 : decode cX2_isAwayOn 1 = .ok (.getfield 18, 3) := by decide +kernel
theorem dX2_isAwayOn_4 : decode cX2_isAwayOn 4 = .ok (.iload_n 1, 1) := by decide +kernel
theorem dX2_isAwayOn_5 : decode cX2_isAwayOn 5 = .ok (.if_icmp .lt 7, 3) := by decide +kernel
theorem dX2_isAwayOn_8 : decode cX2_isAwayOn 8 = .ok (.iconst 1, 1) := by decide +kernel
theorem dX2_isAwayOn_9 : decode cX2_isAwayOn 9 = .ok (.goto 4, 3) := by decide +kernel
theorem dX2_isAwayOn_12 : decode cX2_isAwayOn 12 = .ok (.iconst 0, 1) := by decide +kernel
theorem dX2_isAwayOn_13 : decode cX2_isAwayOn 13 = .ok (.ireturn, 1) := by decide +kernel
theorem dX2_gainPoint_0 : decode cX2_gainPoint 0 = .ok (.aload_n 0, 1) := by decide +kernel
theorem dX2_gainPoint_1 : decode cX2_gainPoint 1 = .ok (.dup, 1) := by decide +kernel
theorem dX2_gainPoint_2 : decode cX2_gainPoint 2 = .ok (.getfield 15, 3) := by decide +kernel
theorem dX2_gainPoint_5 : decode cX2_gainPoint 5 = .ok (.iconst 1, 1) := by decide +kernel
theorem dX2_gainPoint_6 : decode cX2_gainPoint 6 = .ok (.iadd, 1) := by decide +kernel
theorem dX2_gainPoint_7 : decode cX2_gainPoint 7 = .ok (.putfield 15, 3) := by decide +kernel
theorem dX2_gainPoint_10 : decode cX2_gainPoint 10 = .ok (.aload_n 0, 1) := by decide +kernel
theorem dX2_gainPoint_11 : decode cX2_gainPoint 11 = .ok (.getfield 15, 3) := by decide +kernel
theorem dX2_gainPoint_14 : decode cX2_gainPoint 14 = .ok (.iconst 3, 1) := by decide +kernel
theorem dX2_gainPoint_15 : decode cX2_gainPoint 15 = .ok (.if_icmp .lt 23, 3) := by decide +kernel
theorem dX2_gainPoint_18 : decode cX2_gainPoint 18 = .ok (.aload_n 0, 1) := by decide +kernel
theorem dX2_gainPoint_19 : decode cX2_gainPoint 19 = .ok (.iconst 0, 1) := by decide +kernel
theorem dX2_gainPoint_20 : decode cX2_gainPoint 20 = .ok (.putfield 15, 3) := by decide +kernel
theorem dX2_gainPoint_23 : decode cX2_gainPoint 23 = .ok (.aload_n 0, 1) := by decide +kernel
theorem dX2_gainPoint_24 : decode cX2_gainPoint 24 = .ok (.aload_n 0, 1) := by decide +kernel
theorem dX2_gainPoint_25 : decode cX2_gainPoint 25 = .ok (.getfield 9, 3) := by decide +kernel
theorem dX2_gainPoint_28 : decode cX2_gainPoint 28 = .ok (.iconst 1, 1) := by decide +kernel
theorem dX2_gainPoint_29 : decode cX2_gainPoint 29 = .ok (.iadd, 1) := by decide +kernel
theorem dX2_gainPoint_30 : decode cX2_gainPoint 30 = .ok (.bipush 10, 2) := by decide +kernel
theorem dX2_gainPoint_32 : decode cX2_gainPoint 32 = .ok (.invokestatic 28, 3) := by decide +kernel
theorem dX2_gainPoint_35 : decode cX2_gainPoint 35 = .ok (.putfield 9, 3) := by decide +kernel
theorem dX2_gainPoint_38 : decode cX2_gainPoint 38 = .ok (.return_, 1) := by decide +kernel
theorem dX2_loseTrust_0 : decode cX2_loseTrust 0 = .ok (.aload_n 0, 1) := by decide +kernel
theorem dX2_loseTrust_1 : decode cX2_loseTrust 1 = .ok (.aload_n 0, 1) := by decide +kernel
theorem dX2_loseTrust_2 : decode cX2_loseTrust 2 = .ok (.getfield 9, 3) := by decide +kernel
theorem dX2_loseTrust_5 : decode cX2_loseTrust 5 = .ok (.iconst 1, 1) := by decide +kernel
theorem dX2_loseTrust_6 : decode cX2_loseTrust 6 = .ok (.isub, 1) := by decide +kernel
theorem dX2_loseTrust_7 : decode cX2_loseTrust 7 = .ok (.iconst 0, 1) := by decide +kernel
theorem dX2_loseTrust_8 : decode cX2_loseTrust 8 = .ok (.invokestatic 34, 3) := by decide +kernel
theorem dX2_loseTrust_11 : decode cX2_loseTrust 11 = .ok (.putfield 9, 3) := by decide +kernel
theorem dX2_loseTrust_14 : decode cX2_loseTrust 14 = .ok (.return_, 1) := by decide +kernel
theorem dX3_init_0 : decode cX3_init 0 = .ok (.aload_n 0, 1) := by decide +kernel
theorem dX3_init_1 : decode cX3_init 1 = .ok (.iload_n 1, 1) := by decide +kernel
theorem dX3_init_2 : decode cX3_init 2 = .ok (.invokespecial 1, 3) := by decide +kernel
theorem dX3_init_5 : decode cX3_init 5 = .ok (.aload_n 0, 1) := by decide +kernel
theorem dX3_init_6 : decode cX3_init 6 = .ok (.aconst_null, 1) := by decide +kernel
theorem dX3_init_7 : decode cX3_init 7 = .ok (.putfield 7, 3) := by decide +kernel
theorem dX3_init_10 : decode cX3_init 10 = .ok (.aload_n 0, 1) := by decide +kernel
theorem dX3_init_11 : decode cX3_init 11 = .ok (.iload_n 2, 1) := by decide +kernel
theorem dX3_init_12 : decode cX3_init 12 = .ok (.putfield 13, 3) := by decide +kernel
theorem dX3_init_15 : decode cX3_init 15 = .ok (.aload_n 0, 1) := by decide +kernel
theorem dX3_init_16 : decode cX3_init 16 = .ok (.iload_n 3, 1) := by decide +kernel
theorem dX3_init_17 : decode cX3_init 17 = .ok (.putfield 17, 3) := by decide +kernel
theorem dX3_init_20 : decode cX3_init 20 = .ok (.aload_n 0, 1) := by decide +kernel
theorem dX3_init_21 : decode cX3_init 21 = .ok (.iload 4, 2) := by decide +kernel
theorem dX3_init_23 : decode cX3_init 23 = .ok (.putfield 20, 3) := by decide +kernel
theorem dX3_init_26 : decode cX3_init 26 = .ok (.return_, 1) := by decide +kernel
theorem dX4_init_0 : decode cX4_init 0 = .ok (.aload_n 0, 1) := by decide +kernel
theorem dX4_init_1 : decode cX4_init 1 = .ok (.invokespecial 1, 3) := by decide +kernel
theorem dX4_init_4 : decode cX4_init 4 = .ok (.aload_n 0, 1) := by decide +kernel
theorem dX4_init_5 : decode cX4_init 5 = .ok (.iload_n 1, 1) := by decide +kernel
theorem dX4_init_6 : decode cX4_init 6 = .ok (.iconst 0, 1) := by decide +kernel
theorem dX4_init_7 : decode cX4_init 7 = .ok (.invokestatic 7, 3) := by decide +kernel
theorem dX4_init_10 : decode cX4_init 10 = .ok (.putfield 13, 3) := by decide +kernel
theorem dX4_init_13 : decode cX4_init 13 = .ok (.aload_n 0, 1) := by decide +kernel
theorem dX4_init_14 : decode cX4_init 14 = .ok (.iload_n 2, 1) := by decide +kernel
theorem dX4_init_15 : decode cX4_init 15 = .ok (.iconst 0, 1) := by decide +kernel
theorem dX4_init_16 : decode cX4_init 16 = .ok (.invokestatic 7, 3) := by decide +kernel
theorem dX4_init_19 : decode cX4_init 19 = .ok (.putfield 19, 3) := by decide +kernel
theorem dX4_init_22 : decode cX4_init 22 = .ok (.aload_n 0, 1) := by decide +kernel
theorem dX4_init_23 : decode cX4_init 23 = .ok (.aload_n 0, 1) := by decide +kernel
theorem dX4_init_24 : decode cX4_init 24 = .ok (.getfield 13, 3) := by decide +kernel
theorem dX4_init_27 : decode cX4_init 27 = .ok (.aload_n 0, 1) := by decide +kernel
theorem dX4_init_28 : decode cX4_init 28 = .ok (.getfield 19, 3) := by decide +kernel
theorem dX4_init_31 : decode cX4_init 31 = .ok (.imul, 1) := by decide +kernel
theorem dX4_init_32 : decode cX4_init 32 = .ok (.newarray .int, 2) := by decide +kernel
theorem dX4_init_34 : decode cX4_init 34 = .ok (.putfield 22, 3) := by decide +kernel
theorem dX4_init_37 : decode cX4_init 37 = .ok (.return_, 1) := by decide +kernel
theorem dX4_at_0 : decode cX4_at 0 = .ok (.iload_n 1, 1) := by decide +kernel
theorem dX4_at_1 : decode cX4_at 1 = .ok (.ifCond .lt 27, 3) := by decide +kernel
theorem dX4_at_4 : decode cX4_at 4 = .ok (.iload_n 1, 1) := by decide +kernel
theorem dX4_at_5 : decode cX4_at 5 = .ok (.aload_n 0, 1) := by decide +kernel
theorem dX4_at_6 : decode cX4_at 6 = .ok (.getfield 13, 3) := by decide +kernel
theorem dX4_at_9 : decode cX4_at 9 = .ok (.if_icmp .ge 19, 3) := by decide +kernel
theorem dX4_at_12 : decode cX4_at 12 = .ok (.iload_n 2, 1) := by decide +kernel
theorem dX4_at_13 : decode cX4_at 13 = .ok (.ifCond .lt 15, 3) := by decide +kernel
theorem dX4_at_16 : decode cX4_at 16 = .ok (.iload_n 2, 1) := by decide +kernel
theorem dX4_at_17 : decode cX4_at 17 = .ok (.aload_n 0, 1) := by decide +kernel
theorem dX4_at_18 : decode cX4_at 18 = .ok (.getfield 19, 3) := by decide +kernel
theorem dX4_at_21 : decode cX4_at 21 = .ok (.if_icmp .ge 7, 3) := by decide +kernel
theorem dX4_at_24 : decode cX4_at 24 = .ok (.iconst 1, 1) := by decide +kernel
theorem dX4_at_25 : decode cX4_at 25 = .ok (.goto 4, 3) := by decide +kernel
theorem dX4_at_28 : decode cX4_at 28 = .ok (.iconst 0, 1) := by decide +kernel
theorem dX4_at_29 : decode cX4_at 29 = .ok (.istore_n 3, 1) := by decide +kernel
theorem dX4_at_30 : decode cX4_at 30 = .ok (.iload_n 3, 1) := by decide +kernel
theorem dX4_at_31 : decode cX4_at 31 = .ok (.ifCond .eq 19, 3) := by decide +kernel
theorem dX4_at_34 : decode cX4_at 34 = .ok (.aload_n 0, 1) := by decide +kernel
theorem dX4_at_35 : decode cX4_at 35 = .ok (.getfield 22, 3) := by decide +kernel
theorem dX4_at_38 : decode cX4_at 38 = .ok (.iload_n 1, 1) := by decide +kernel
theorem dX4_at_39 : decode cX4_at 39 = .ok (.aload_n 0, 1) := by decide +kernel
theorem dX4_at_40 : decode cX4_at 40 = .ok (.getfield 19, 3) := by decide +kernel
theorem dX4_at_43 : decode cX4_at 43 = .ok (.imul, 1) := by decide +kernel
theorem dX4_at_44 : decode cX4_at 44 = .ok (.iload_n 2, 1) := by decide +kernel
theorem dX4_at_45 : decode cX4_at 45 = .ok (.iadd, 1) := by decide +kernel
theorem dX4_at_46 : decode cX4_at 46 = .ok (.iaload, 1) := by decide +kernel
theorem dX4_at_47 : decode cX4_at 47 = .ok (.goto 4, 3) := by decide +kernel
theorem dX4_at_50 : decode cX4_at 50 = .ok (.iconst 0, 1) := by decide +kernel
theorem dX4_at_51 : decode cX4_at 51 = .ok (.ireturn, 1) := by decide +kernel
theorem dX4_replace_0 : decode cX4_replace 0 = .ok (.aload_n 0, 1) := by decide +kernel
theorem dX4_replace_1 : decode cX4_replace 1 = .ok (.iload_n 1, 1) := by decide +kernel
theorem dX4_replace_2 : decode cX4_replace 2 = .ok (.iload_n 2, 1) := by decide +kernel
theorem dX4_replace_3 : decode cX4_replace 3 = .ok (.invokevirtual 26, 3) := by decide +kernel
theorem dX4_replace_6 : decode cX4_replace 6 = .ok (.istore 4, 2) := by decide +kernel
theorem dX4_replace_8 : decode cX4_replace 8 = .ok (.iload_n 1, 1) := by decide +kernel
theorem dX4_replace_9 : decode cX4_replace 9 = .ok (.ifCond .lt 37, 3) := by decide +kernel
theorem dX4_replace_12 : decode cX4_replace 12 = .ok (.iload_n 1, 1) := by decide +kernel
theorem dX4_replace_13 : decode cX4_replace 13 = .ok (.aload_n 0, 1) := by decide +kernel
theorem dX4_replace_14 : decode cX4_replace 14 = .ok (.getfield 13, 3) := by decide +kernel
theorem dX4_replace_17 : decode cX4_replace 17 = .ok (.if_icmp .ge 29, 3) := by decide +kernel
theorem dX4_replace_20 : decode cX4_replace 20 = .ok (.iload_n 2, 1) := by decide +kernel
theorem dX4_replace_21 : decode cX4_replace 21 = .ok (.ifCond .lt 25, 3) := by decide +kernel
theorem dX4_replace_24 : decode cX4_replace 24 = .ok (.iload_n 2, 1) := by decide +kernel
theorem dX4_replace_25 : decode cX4_replace 25 = .ok (.aload_n 0, 1) := by decide +kernel
theorem dX4_replace_26 : decode cX4_replace 26 = .ok (.getfield 19, 3) := by decide +kernel
theorem dX4_replace_29 : decode cX4_replace 29 = .ok (.if_icmp .ge 17, 3) := by decide +kernel
theorem dX4_replace_32 : decode cX4_replace 32 = .ok (.aload_n 0, 1) := by decide +kernel
theorem dX4_replace_33 : decode cX4_replace 33 = .ok (.getfield 22, 3) := by decide +kernel
theorem dX4_replace_36 : decode cX4_replace 36 = .ok (.iload_n 1, 1) := by decide +kernel
theorem dX4_replace_37 : decode cX4_replace 37 = .ok (.aload_n 0, 1) := by decide +kernel
theorem dX4_replace_38 : decode cX4_replace 38 = .ok (.getfield 19, 3) := by decide +kernel
theorem dX4_replace_41 : decode cX4_replace 41 = .ok (.imul, 1) := by decide +kernel
theorem dX4_replace_42 : decode cX4_replace 42 = .ok (.iload_n 2, 1) := by decide +kernel
theorem dX4_replace_43 : decode cX4_replace 43 = .ok (.iadd, 1) := by decide +kernel
theorem dX4_replace_44 : decode cX4_replace 44 = .ok (.iload_n 3, 1) := by decide +kernel
theorem dX4_replace_45 : decode cX4_replace 45 = .ok (.iastore, 1) := by decide +kernel
theorem dX4_replace_46 : decode cX4_replace 46 = .ok (.iload 4, 2) := by decide +kernel
theorem dX4_replace_48 : decode cX4_replace 48 = .ok (.ireturn, 1) := by decide +kernel
theorem dX6_init_0 : decode cX6_init 0 = .ok (.aload_n 0, 1) := by decide +kernel
theorem dX6_init_1 : decode cX6_init 1 = .ok (.invokespecial 1, 3) := by decide +kernel
theorem dX6_init_4 : decode cX6_init 4 = .ok (.aload_n 0, 1) := by decide +kernel
theorem dX6_init_5 : decode cX6_init 5 = .ok (.new 7, 3) := by decide +kernel
theorem dX6_init_8 : decode cX6_init 8 = .ok (.dup, 1) := by decide +kernel
theorem dX6_init_9 : decode cX6_init 9 = .ok (.invokespecial 9, 3) := by decide +kernel
theorem dX6_init_12 : decode cX6_init 12 = .ok (.putfield 10, 3) := by decide +kernel
theorem dX6_init_15 : decode cX6_init 15 = .ok (.aload_n 0, 1) := by decide +kernel
theorem dX6_init_16 : decode cX6_init 16 = .ok (.new 7, 3) := by decide +kernel
theorem dX6_init_19 : decode cX6_init 19 = .ok (.dup, 1) := by decide +kernel
theorem dX6_init_20 : decode cX6_init 20 = .ok (.invokespecial 9, 3) := by decide +kernel
theorem dX6_init_23 : decode cX6_init 23 = .ok (.putfield 16, 3) := by decide +kernel
theorem dX6_init_26 : decode cX6_init 26 = .ok (.aload_n 0, 1) := by decide +kernel
theorem dX6_init_27 : decode cX6_init 27 = .ok (.new 7, 3) := by decide +kernel
theorem dX6_init_30 : decode cX6_init 30 = .ok (.dup, 1) := by decide +kernel
theorem dX6_init_31 : decode cX6_init 31 = .ok (.invokespecial 9, 3) := by decide +kernel
theorem dX6_init_34 : decode cX6_init 34 = .ok (.putfield 19, 3) := by decide +kernel
theorem dX6_init_37 : decode cX6_init 37 = .ok (.aload_n 0, 1) := by decide +kernel
theorem dX6_init_38 : decode cX6_init 38 = .ok (.new 7, 3) := by decide +kernel
theorem dX6_init_41 : decode cX6_init 41 = .ok (.dup, 1) := by decide +kernel
theorem dX6_init_42 : decode cX6_init 42 = .ok (.invokespecial 9, 3) := by decide +kernel
theorem dX6_init_45 : decode cX6_init 45 = .ok (.putfield 22, 3) := by decide +kernel
theorem dX6_init_48 : decode cX6_init 48 = .ok (.aload_n 0, 1) := by decide +kernel
theorem dX6_init_49 : decode cX6_init 49 = .ok (.new 25, 3) := by decide +kernel
theorem dX6_init_52 : decode cX6_init 52 = .ok (.dup, 1) := by decide +kernel
theorem dX6_init_53 : decode cX6_init 53 = .ok (.bipush 8, 2) := by decide +kernel
theorem dX6_init_55 : decode cX6_init 55 = .ok (.iconst 4, 1) := by decide +kernel
theorem dX6_init_56 : decode cX6_init 56 = .ok (.invokespecial 27, 3) := by decide +kernel
theorem dX6_init_59 : decode cX6_init 59 = .ok (.putfield 30, 3) := by decide +kernel
theorem dX6_init_62 : decode cX6_init 62 = .ok (.aload_n 0, 1) := by decide +kernel
theorem dX6_init_63 : decode cX6_init 63 = .ok (.new 25, 3) := by decide +kernel
theorem dX6_init_66 : decode cX6_init 66 = .ok (.dup, 1) := by decide +kernel
theorem dX6_init_67 : decode cX6_init 67 = .ok (.iconst 4, 1) := by decide +kernel
theorem dX6_init_68 : decode cX6_init 68 = .ok (.iconst 4, 1) := by decide +kernel
theorem dX6_init_69 : decode cX6_init 69 = .ok (.invokespecial 27, 3) := by decide +kernel
theorem dX6_init_72 : decode cX6_init 72 = .ok (.putfield 34, 3) := by decide +kernel
theorem dX6_init_75 : decode cX6_init 75 = .ok (.aload_n 0, 1) := by decide +kernel
theorem dX6_init_76 : decode cX6_init 76 = .ok (.new 25, 3) := by decide +kernel
theorem dX6_init_79 : decode cX6_init 79 = .ok (.dup, 1) := by decide +kernel
theorem dX6_init_80 : decode cX6_init 80 = .ok (.iconst 4, 1) := by decide +kernel
theorem dX6_init_81 : decode cX6_init 81 = .ok (.iconst 1, 1) := by decide +kernel
theorem dX6_init_82 : decode cX6_init 82 = .ok (.invokespecial 27, 3) := by decide +kernel
theorem dX6_init_85 : decode cX6_init 85 = .ok (.putfield 37, 3) := by decide +kernel
theorem dX6_init_88 : decode cX6_init 88 = .ok (.aload_n 0, 1) := by decide +kernel
theorem dX6_init_89 : decode cX6_init 89 = .ok (.new 25, 3) := by decide +kernel
theorem dX6_init_92 : decode cX6_init 92 = .ok (.dup, 1) := by decide +kernel
theorem dX6_init_93 : decode cX6_init 93 = .ok (.iconst 3, 1) := by decide +kernel
theorem dX6_init_94 : decode cX6_init 94 = .ok (.iconst 4, 1) := by decide +kernel
theorem dX6_init_95 : decode cX6_init 95 = .ok (.invokespecial 27, 3) := by decide +kernel
theorem dX6_init_98 : decode cX6_init 98 = .ok (.putfield 40, 3) := by decide +kernel
theorem dX6_init_101 : decode cX6_init 101 = .ok (.aload_n 0, 1) := by decide +kernel
theorem dX6_init_102 : decode cX6_init 102 = .ok (.iconst 0, 1) := by decide +kernel
theorem dX6_init_103 : decode cX6_init 103 = .ok (.putfield 43, 3) := by decide +kernel
theorem dX6_init_106 : decode cX6_init 106 = .ok (.return_, 1) := by decide +kernel
theorem dX6_person_0 : decode cX6_person 0 = .ok (.iload_n 1, 1) := by decide +kernel
theorem dX6_person_1 : decode cX6_person 1 = .ok (.iconst (-1), 1) := by decide +kernel
theorem dX6_person_2 : decode cX6_person 2 = .ok (.if_icmp .ne 7, 3) := by decide +kernel
theorem dX6_person_5 : decode cX6_person 5 = .ok (.aconst_null, 1) := by decide +kernel
theorem dX6_person_6 : decode cX6_person 6 = .ok (.goto 8, 3) := by decide +kernel
theorem dX6_person_9 : decode cX6_person 9 = .ok (.aload_n 0, 1) := by decide +kernel
theorem dX6_person_10 : decode cX6_person 10 = .ok (.iload_n 1, 1) := by decide +kernel
theorem dX6_person_11 : decode cX6_person 11 = .ok (.invokevirtual 47, 3) := by decide +kernel
theorem dX6_person_14 : decode cX6_person 14 = .ok (.astore_n 2, 1) := by decide +kernel
theorem dX6_person_15 : decode cX6_person 15 = .ok (.aload_n 0, 1) := by decide +kernel
theorem dX6_person_16 : decode cX6_person 16 = .ok (.getfield 10, 3) := by decide +kernel
theorem dX6_person_19 : decode cX6_person 19 = .ok (.invokevirtual 51, 3) := by decide +kernel
theorem dX6_person_22 : decode cX6_person 22 = .ok (.bipush 8, 2) := by decide +kernel
theorem dX6_person_24 : decode cX6_person 24 = .ok (.if_icmp .lt 13, 3) := by decide +kernel
theorem dX6_person_27 : decode cX6_person 27 = .ok (.new 55, 3) := by decide +kernel
theorem dX6_person_30 : decode cX6_person 30 = .ok (.dup, 1) := by decide +kernel
theorem dX6_person_31 : decode cX6_person 31 = .ok (.ldc 57, 2) := by decide +kernel
theorem dX6_person_33 : decode cX6_person 33 = .ok (.invokespecial 59, 3) := by decide +kernel
theorem dX6_person_36 : decode cX6_person 36 = .ok (.athrow, 1) := by decide +kernel
theorem dX6_person_37 : decode cX6_person 37 = .ok (.new 62, 3) := by decide +kernel
theorem dX6_person_40 : decode cX6_person 40 = .ok (.dup, 1) := by decide +kernel
theorem dX6_person_41 : decode cX6_person 41 = .ok (.aload_n 0, 1) := by decide +kernel
theorem dX6_person_42 : decode cX6_person 42 = .ok (.getfield 10, 3) := by decide +kernel
theorem dX6_person_45 : decode cX6_person 45 = .ok (.invokevirtual 51, 3) := by decide +kernel
theorem dX6_person_48 : decode cX6_person 48 = .ok (.aload_n 2, 1) := by decide +kernel
theorem dX6_person_49 : decode cX6_person 49 = .ok (.invokespecial 64, 3) := by decide +kernel
theorem dX6_person_52 : decode cX6_person 52 = .ok (.astore_n 3, 1) := by decide +kernel
theorem dX6_person_53 : decode cX6_person 53 = .ok (.aload_n 0, 1) := by decide +kernel
theorem dX6_person_54 : decode cX6_person 54 = .ok (.getfield 10, 3) := by decide +kernel
theorem dX6_person_57 : decode cX6_person 57 = .ok (.aload_n 3, 1) := by decide +kernel
theorem dX6_person_58 : decode cX6_person 58 = .ok (.invokevirtual 67, 3) := by decide +kernel
theorem dX6_person_61 : decode cX6_person 61 = .ok (.pop, 1) := by decide +kernel
theorem dX6_person_62 : decode cX6_person 62 = .ok (.aload_n 3, 1) := by decide +kernel
theorem dX6_person_63 : decode cX6_person 63 = .ok (.getfield 71, 3) := by decide +kernel
theorem dX6_person_66 : decode cX6_person 66 = .ok (.ireturn, 1) := by decide +kernel
theorem dX6_limit_0 : decode cX6_limit 0 = .ok (.aload_n 0, 1) := by decide +kernel
theorem dX6_limit_1 : decode cX6_limit 1 = .ok (.iload_n 1, 1) := by decide +kernel
theorem dX6_limit_2 : decode cX6_limit 2 = .ok (.invokevirtual 47, 3) := by decide +kernel
theorem dX6_limit_5 : decode cX6_limit 5 = .ok (.astore 4, 2) := by decide +kernel
theorem dX6_limit_7 : decode cX6_limit 7 = .ok (.iload_n 2, 1) := by decide +kernel
theorem dX6_limit_8 : decode cX6_limit 8 = .ok (.invokestatic 74, 3) := by decide +kernel
theorem dX6_limit_11 : decode cX6_limit 11 = .ok (.iload_n 3, 1) := by decide +kernel
theorem dX6_limit_12 : decode cX6_limit 12 = .ok (.iconst 0, 1) := by decide +kernel
theorem dX6_limit_13 : decode cX6_limit 13 = .ok (.sipush 9999, 3) := by decide +kernel
theorem dX6_limit_16 : decode cX6_limit 16 = .ok (.invokestatic 78, 3) := by decide +kernel
theorem dX6_limit_19 : decode cX6_limit 19 = .ok (.aload_n 0, 1) := by decide +kernel
theorem dX6_limit_20 : decode cX6_limit 20 = .ok (.getfield 30, 3) := by decide +kernel
theorem dX6_limit_23 : decode cX6_limit 23 = .ok (.aload 4, 2) := by decide +kernel
theorem dX6_limit_25 : decode cX6_limit 25 = .ok (.getfield 71, 3) := by decide +kernel
theorem dX6_limit_28 : decode cX6_limit 28 = .ok (.iload_n 2, 1) := by decide +kernel
theorem dX6_limit_29 : decode cX6_limit 29 = .ok (.iload_n 3, 1) := by decide +kernel
theorem dX6_limit_30 : decode cX6_limit 30 = .ok (.invokevirtual 82, 3) := by decide +kernel
theorem dX6_limit_33 : decode cX6_limit 33 = .ok (.ireturn, 1) := by decide +kernel
theorem dX6_away_0 : decode cX6_away 0 = .ok (.aload_n 0, 1) := by decide +kernel
theorem dX6_away_1 : decode cX6_away 1 = .ok (.iload_n 1, 1) := by decide +kernel
theorem dX6_away_2 : decode cX6_away 2 = .ok (.invokevirtual 47, 3) := by decide +kernel
theorem dX6_away_5 : decode cX6_away 5 = .ok (.astore 4, 2) := by decide +kernel
theorem dX6_away_7 : decode cX6_away 7 = .ok (.aload_n 0, 1) := by decide +kernel
theorem dX6_away_8 : decode cX6_away 8 = .ok (.iload_n 3, 1) := by decide +kernel
theorem dX6_away_9 : decode cX6_away 9 = .ok (.invokevirtual 47, 3) := by decide +kernel
theorem dX6_away_12 : decode cX6_away 12 = .ok (.astore 5, 2) := by decide +kernel
theorem dX6_away_14 : decode cX6_away 14 = .ok (.iload_n 2, 1) := by decide +kernel
theorem dX6_away_15 : decode cX6_away 15 = .ok (.iconst 0, 1) := by decide +kernel
theorem dX6_away_16 : decode cX6_away 16 = .ok (.bipush 119, 2) := by decide +kernel
theorem dX6_away_18 : decode cX6_away 18 = .ok (.invokestatic 78, 3) := by decide +kernel
theorem dX6_away_21 : decode cX6_away 21 = .ok (.iload_n 3, 1) := by decide +kernel
theorem dX6_away_22 : decode cX6_away 22 = .ok (.iload_n 1, 1) := by decide +kernel
theorem dX6_away_23 : decode cX6_away 23 = .ok (.if_icmp .ne 13, 3) := by decide +kernel
theorem dX6_away_26 : decode cX6_away 26 = .ok (.new 86, 3) := by decide +kernel
theorem dX6_away_29 : decode cX6_away 29 = .ok (.dup, 1) := by decide +kernel
theorem dX6_away_30 : decode cX6_away 30 = .ok (.ldc 88, 2) := by decide +kernel
theorem dX6_away_32 : decode cX6_away 32 = .ok (.invokespecial 90, 3) := by decide +kernel
theorem dX6_away_35 : decode cX6_away 35 = .ok (.athrow, 1) := by decide +kernel
theorem dX6_away_36 : decode cX6_away 36 = .ok (.aload 4, 2) := by decide +kernel
theorem dX6_away_38 : decode cX6_away 38 = .ok (.aload_n 0, 1) := by decide +kernel
theorem dX6_away_39 : decode cX6_away 39 = .ok (.getfield 43, 3) := by decide +kernel
theorem dX6_away_42 : decode cX6_away 42 = .ok (.invokevirtual 91, 3) := by decide +kernel
theorem dX6_away_45 : decode cX6_away 45 = .ok (.istore 6, 2) := by decide +kernel
theorem dX6_away_47 : decode cX6_away 47 = .ok (.aload 4, 2) := by decide +kernel
theorem dX6_away_49 : decode cX6_away 49 = .ok (.iload_n 2, 1) := by decide +kernel
theorem dX6_away_50 : decode cX6_away 50 = .ok (.putfield 95, 3) := by decide +kernel
theorem dX6_away_53 : decode cX6_away 53 = .ok (.aload 4, 2) := by decide +kernel
theorem dX6_away_55 : decode cX6_away 55 = .ok (.aload 5, 2) := by decide +kernel
theorem dX6_away_57 : decode cX6_away 57 = .ok (.putfield 98, 3) := by decide +kernel
theorem dX6_away_60 : decode cX6_away 60 = .ok (.aload_n 0, 1) := by decide +kernel
theorem dX6_away_61 : decode cX6_away 61 = .ok (.invokevirtual 102, 3) := by decide +kernel
theorem dX6_away_64 : decode cX6_away 64 = .ok (.iload 6, 2) := by decide +kernel
theorem dX6_away_66 : decode cX6_away 66 = .ok (.ireturn, 1) := by decide +kernel
theorem dX6_ofPerson_0 : decode cX6_ofPerson 0 = .ok (.aload_n 0, 1) := by decide +kernel
theorem dX6_ofPerson_1 : decode cX6_ofPerson 1 = .ok (.iload_n 1, 1) := by decide +kernel
theorem dX6_ofPerson_2 : decode cX6_ofPerson 2 = .ok (.invokevirtual 47, 3) := by decide +kernel
theorem dX6_ofPerson_5 : decode cX6_ofPerson 5 = .ok (.astore_n 3, 1) := by decide +kernel
theorem dX6_ofPerson_6 : decode cX6_ofPerson 6 = .ok (.iload_n 2, 1) := by decide +kernel
theorem dX6_ofPerson_7 : decode cX6_ofPerson 7 = .ok (.iconst 0, 1) := by decide +kernel
theorem dX6_ofPerson_8 : decode cX6_ofPerson 8 = .ok (.bipush 6, 2) := by decide +kernel
theorem dX6_ofPerson_10 : decode cX6_ofPerson 10 = .ok (.invokestatic 78, 3) := by decide +kernel
theorem dX6_ofPerson_13 : decode cX6_ofPerson 13 = .ok (.iload_n 2, 1) := by decide +kernel
theorem dX6_ofPerson_14 : decode cX6_ofPerson 14 = .ok (.tableswitch 85 0 5 #[38, 46, 51, 56, 73, 79], 38) := by decide +kernel
theorem dX6_ofPerson_52 : decode cX6_ofPerson 52 = .ok (.aload_n 3, 1) := by decide +kernel
theorem dX6_ofPerson_53 : decode cX6_ofPerson 53 = .ok (.getfield 116, 3) := by decide +kernel
theorem dX6_ofPerson_56 : decode cX6_ofPerson 56 = .ok (.invokestatic 119, 3) := by decide +kernel
theorem dX6_ofPerson_59 : decode cX6_ofPerson 59 = .ok (.ireturn, 1) := by decide +kernel
theorem dX6_ofPerson_60 : decode cX6_ofPerson 60 = .ok (.aload_n 3, 1) := by decide +kernel
theorem dX6_ofPerson_61 : decode cX6_ofPerson 61 = .ok (.getfield 123, 3) := by decide +kernel
theorem dX6_ofPerson_64 : decode cX6_ofPerson 64 = .ok (.ireturn, 1) := by decide +kernel
theorem dX6_ofPerson_65 : decode cX6_ofPerson 65 = .ok (.aload_n 3, 1) := by decide +kernel
theorem dX6_ofPerson_66 : decode cX6_ofPerson 66 = .ok (.getfield 126, 3) := by decide +kernel
theorem dX6_ofPerson_69 : decode cX6_ofPerson 69 = .ok (.ireturn, 1) := by decide +kernel
theorem dX6_ofPerson_70 : decode cX6_ofPerson 70 = .ok (.aload_n 3, 1) := by decide +kernel
theorem dX6_ofPerson_71 : decode cX6_ofPerson 71 = .ok (.aload_n 0, 1) := by decide +kernel
theorem dX6_ofPerson_72 : decode cX6_ofPerson 72 = .ok (.getfield 43, 3) := by decide +kernel
theorem dX6_ofPerson_75 : decode cX6_ofPerson 75 = .ok (.invokevirtual 91, 3) := by decide +kernel
theorem dX6_ofPerson_78 : decode cX6_ofPerson 78 = .ok (.ifCond .eq 7, 3) := by decide +kernel
theorem dX6_ofPerson_81 : decode cX6_ofPerson 81 = .ok (.iconst 1, 1) := by decide +kernel
theorem dX6_ofPerson_82 : decode cX6_ofPerson 82 = .ok (.goto 4, 3) := by decide +kernel
theorem dX6_ofPerson_85 : decode cX6_ofPerson 85 = .ok (.iconst 0, 1) := by decide +kernel
theorem dX6_ofPerson_86 : decode cX6_ofPerson 86 = .ok (.ireturn, 1) := by decide +kernel
theorem dX6_ofPerson_87 : decode cX6_ofPerson 87 = .ok (.aload_n 0, 1) := by decide +kernel
theorem dX6_ofPerson_88 : decode cX6_ofPerson 88 = .ok (.aload_n 3, 1) := by decide +kernel
theorem dX6_ofPerson_89 : decode cX6_ofPerson 89 = .ok (.invokevirtual 129, 3) := by decide +kernel
theorem dX6_ofPerson_92 : decode cX6_ofPerson 92 = .ok (.ireturn, 1) := by decide +kernel
theorem dX6_ofPerson_93 : decode cX6_ofPerson 93 = .ok (.aload_n 0, 1) := by decide +kernel
theorem dX6_ofPerson_94 : decode cX6_ofPerson 94 = .ok (.aload_n 3, 1) := by decide +kernel
theorem dX6_ofPerson_95 : decode cX6_ofPerson 95 = .ok (.invokevirtual 133, 3) := by decide +kernel
theorem dX6_ofPerson_98 : decode cX6_ofPerson 98 = .ok (.ireturn, 1) := by decide +kernel
theorem dX6_ofPerson_99 : decode cX6_ofPerson 99 = .ok (.aload_n 0, 1) := by decide +kernel
theorem dX6_ofPerson_100 : decode cX6_ofPerson 100 = .ok (.aload_n 3, 1) := by decide +kernel
theorem dX6_ofPerson_101 : decode cX6_ofPerson 101 = .ok (.invokevirtual 136, 3) := by decide +kernel
theorem dX6_ofPerson_104 : decode cX6_ofPerson 104 = .ok (.ireturn, 1) := by decide +kernel
theorem dX6_maySpend_0 : decode cX6_maySpend 0 = .ok (.aload_n 0, 1) := by decide +kernel
theorem dX6_maySpend_1 : decode cX6_maySpend 1 = .ok (.iload_n 1, 1) := by decide +kernel
theorem dX6_maySpend_2 : decode cX6_maySpend 2 = .ok (.invokevirtual 47, 3) := by decide +kernel
theorem dX6_maySpend_5 : decode cX6_maySpend 5 = .ok (.astore 4, 2) := by decide +kernel
theorem dX6_maySpend_7 : decode cX6_maySpend 7 = .ok (.iload_n 2, 1) := by decide +kernel
theorem dX6_maySpend_8 : decode cX6_maySpend 8 = .ok (.invokestatic 74, 3) := by decide +kernel
theorem dX6_maySpend_11 : decode cX6_maySpend 11 = .ok (.iload_n 3, 1) := by decide +kernel
theorem dX6_maySpend_12 : decode cX6_maySpend 12 = .ok (.invokestatic 105, 3) := by decide +kernel
theorem dX6_maySpend_15 : decode cX6_maySpend 15 = .ok (.aload_n 0, 1) := by decide +kernel
theorem dX6_maySpend_16 : decode cX6_maySpend 16 = .ok (.aload 4, 2) := by decide +kernel
theorem dX6_maySpend_18 : decode cX6_maySpend 18 = .ok (.iload_n 2, 1) := by decide +kernel
theorem dX6_maySpend_19 : decode cX6_maySpend 19 = .ok (.iload_n 3, 1) := by decide +kernel
theorem dX6_maySpend_20 : decode cX6_maySpend 20 = .ok (.invokevirtual 139, 3) := by decide +kernel
theorem dX6_maySpend_23 : decode cX6_maySpend 23 = .ok (.ireturn, 1) := by decide +kernel
theorem dX6_plan_0 : decode cX6_plan 0 = .ok (.iload_n 1, 1) := by decide +kernel
theorem dX6_plan_1 : decode cX6_plan 1 = .ok (.invokestatic 74, 3) := by decide +kernel
theorem dX6_plan_4 : decode cX6_plan 4 = .ok (.iload_n 2, 1) := by decide +kernel
theorem dX6_plan_5 : decode cX6_plan 5 = .ok (.invokestatic 143, 3) := by decide +kernel
theorem dX6_plan_8 : decode cX6_plan 8 = .ok (.iload_n 3, 1) := by decide +kernel
theorem dX6_plan_9 : decode cX6_plan 9 = .ok (.iconst 0, 1) := by decide +kernel
theorem dX6_plan_10 : decode cX6_plan 10 = .ok (.ldc 146, 2) := by decide +kernel
theorem dX6_plan_12 : decode cX6_plan 12 = .ok (.invokestatic 78, 3) := by decide +kernel
theorem dX6_plan_15 : decode cX6_plan 15 = .ok (.aload_n 0, 1) := by decide +kernel
theorem dX6_plan_16 : decode cX6_plan 16 = .ok (.getfield 34, 3) := by decide +kernel
theorem dX6_plan_19 : decode cX6_plan 19 = .ok (.iload_n 1, 1) := by decide +kernel
theorem dX6_plan_20 : decode cX6_plan 20 = .ok (.iload_n 2, 1) := by decide +kernel
theorem dX6_plan_21 : decode cX6_plan 21 = .ok (.iload_n 3, 1) := by decide +kernel
theorem dX6_plan_22 : decode cX6_plan 22 = .ok (.invokevirtual 82, 3) := by decide +kernel
theorem dX6_plan_25 : decode cX6_plan 25 = .ok (.ireturn, 1) := by decide +kernel
theorem dX6_carry_0 : decode cX6_carry 0 = .ok (.iload_n 1, 1) := by decide +kernel
theorem dX6_carry_1 : decode cX6_carry 1 = .ok (.invokestatic 74, 3) := by decide +kernel
theorem dX6_carry_4 : decode cX6_carry 4 = .ok (.iload_n 2, 1) := by decide +kernel
theorem dX6_carry_5 : decode cX6_carry 5 = .ok (.iconst 0, 1) := by decide +kernel
theorem dX6_carry_6 : decode cX6_carry 6 = .ok (.bipush 100, 2) := by decide +kernel
theorem dX6_carry_8 : decode cX6_carry 8 = .ok (.invokestatic 78, 3) := by decide +kernel
theorem dX6_carry_11 : decode cX6_carry 11 = .ok (.aload_n 0, 1) := by decide +kernel
theorem dX6_carry_12 : decode cX6_carry 12 = .ok (.getfield 37, 3) := by decide +kernel
theorem dX6_carry_15 : decode cX6_carry 15 = .ok (.iload_n 1, 1) := by decide +kernel
theorem dX6_carry_16 : decode cX6_carry 16 = .ok (.iconst 0, 1) := by decide +kernel
theorem dX6_carry_17 : decode cX6_carry 17 = .ok (.iload_n 2, 1) := by decide +kernel
theorem dX6_carry_18 : decode cX6_carry 18 = .ok (.invokevirtual 82, 3) := by decide +kernel
theorem dX6_carry_21 : decode cX6_carry 21 = .ok (.ireturn, 1) := by decide +kernel
theorem dX6_rate_0 : decode cX6_rate 0 = .ok (.iload_n 1, 1) := by decide +kernel
theorem dX6_rate_1 : decode cX6_rate 1 = .ok (.invokestatic 105, 3) := by decide +kernel
theorem dX6_rate_4 : decode cX6_rate 4 = .ok (.iload_n 2, 1) := by decide +kernel
theorem dX6_rate_5 : decode cX6_rate 5 = .ok (.invokestatic 74, 3) := by decide +kernel
theorem dX6_rate_8 : decode cX6_rate 8 = .ok (.iload_n 3, 1) := by decide +kernel
theorem dX6_rate_9 : decode cX6_rate 9 = .ok (.iconst 0, 1) := by decide +kernel
theorem dX6_rate_10 : decode cX6_rate 10 = .ok (.bipush 30, 2) := by decide +kernel
theorem dX6_rate_12 : decode cX6_rate 12 = .ok (.invokestatic 78, 3) := by decide +kernel
theorem dX6_rate_15 : decode cX6_rate 15 = .ok (.aload_n 0, 1) := by decide +kernel
theorem dX6_rate_16 : decode cX6_rate 16 = .ok (.getfield 40, 3) := by decide +kernel
theorem dX6_rate_19 : decode cX6_rate 19 = .ok (.iload_n 1, 1) := by decide +kernel
theorem dX6_rate_20 : decode cX6_rate 20 = .ok (.iload_n 2, 1) := by decide +kernel
theorem dX6_rate_21 : decode cX6_rate 21 = .ok (.iload_n 3, 1) := by decide +kernel
theorem dX6_rate_22 : decode cX6_rate 22 = .ok (.invokevirtual 82, 3) := by decide +kernel
theorem dX6_rate_25 : decode cX6_rate 25 = .ok (.ireturn, 1) := by decide +kernel
theorem dX6_left_0 : decode cX6_left 0 = .ok (.iload_n 1, 1) := by decide +kernel
theorem dX6_left_1 : decode cX6_left 1 = .ok (.invokestatic 74, 3) := by decide +kernel
theorem dX6_left_4 : decode cX6_left 4 = .ok (.iload_n 2, 1) := by decide +kernel
theorem dX6_left_5 : decode cX6_left 5 = .ok (.invokestatic 143, 3) := by decide +kernel
theorem dX6_left_8 : decode cX6_left 8 = .ok (.aload_n 0, 1) := by decide +kernel
theorem dX6_left_9 : decode cX6_left 9 = .ok (.iload_n 1, 1) := by decide +kernel
theorem dX6_left_10 : decode cX6_left 10 = .ok (.iload_n 2, 1) := by decide +kernel
theorem dX6_left_11 : decode cX6_left 11 = .ok (.iconst 0, 1) := by decide +kernel
theorem dX6_left_12 : decode cX6_left 12 = .ok (.invokevirtual 147, 3) := by decide +kernel
theorem dX6_left_15 : decode cX6_left 15 = .ok (.ireturn, 1) := by decide +kernel
theorem dX6_charge_0 : decode cX6_charge 0 = .ok (.aload_n 0, 1) := by decide +kernel
theorem dX6_charge_1 : decode cX6_charge 1 = .ok (.iload_n 1, 1) := by decide +kernel
theorem dX6_charge_2 : decode cX6_charge 2 = .ok (.invokevirtual 47, 3) := by decide +kernel
theorem dX6_charge_5 : decode cX6_charge 5 = .ok (.astore 6, 2) := by decide +kernel
theorem dX6_charge_7 : decode cX6_charge 7 = .ok (.iload_n 2, 1) := by decide +kernel
theorem dX6_charge_8 : decode cX6_charge 8 = .ok (.invokestatic 74, 3) := by decide +kernel
theorem dX6_charge_11 : decode cX6_charge 11 = .ok (.iload_n 3, 1) := by decide +kernel
theorem dX6_charge_12 : decode cX6_charge 12 = .ok (.invokestatic 105, 3) := by decide +kernel
theorem dX6_charge_15 : decode cX6_charge 15 = .ok (.iload 4, 2) := by decide +kernel
theorem dX6_charge_17 : decode cX6_charge 17 = .ok (.iconst 1, 1) := by decide +kernel
theorem dX6_charge_18 : decode cX6_charge 18 = .ok (.sipush 9999, 3) := by decide +kernel
theorem dX6_charge_21 : decode cX6_charge 21 = .ok (.invokestatic 78, 3) := by decide +kernel
theorem dX6_charge_24 : decode cX6_charge 24 = .ok (.iload 5, 2) := by decide +kernel
theorem dX6_charge_26 : decode cX6_charge 26 = .ok (.iconst 0, 1) := by decide +kernel
theorem dX6_charge_27 : decode cX6_charge 27 = .ok (.bipush 9, 2) := by decide +kernel
theorem dX6_charge_29 : decode cX6_charge 29 = .ok (.invokestatic 78, 3) := by decide +kernel
theorem dX6_charge_32 : decode cX6_charge 32 = .ok (.aload_n 0, 1) := by decide +kernel
theorem dX6_charge_33 : decode cX6_charge 33 = .ok (.getfield 19, 3) := by decide +kernel
theorem dX6_charge_36 : decode cX6_charge 36 = .ok (.invokevirtual 51, 3) := by decide +kernel
theorem dX6_charge_39 : decode cX6_charge 39 = .ok (.bipush 30, 2) := by decide +kernel
theorem dX6_charge_41 : decode cX6_charge 41 = .ok (.if_icmp .lt 13, 3) := by decide +kernel
theorem dX6_charge_44 : decode cX6_charge 44 = .ok (.new 55, 3) := by decide +kernel
theorem dX6_charge_47 : decode cX6_charge 47 = .ok (.dup, 1) := by decide +kernel
theorem dX6_charge_48 : decode cX6_charge 48 = .ok (.ldc 151, 2) := by decide +kernel
theorem dX6_charge_50 : decode cX6_charge 50 = .ok (.invokespecial 59, 3) := by decide +kernel
theorem dX6_charge_53 : decode cX6_charge 53 = .ok (.athrow, 1) := by decide +kernel
theorem dX6_charge_54 : decode cX6_charge 54 = .ok (.iload 4, 2) := by decide +kernel
theorem dX6_charge_56 : decode cX6_charge 56 = .ok (.aload_n 0, 1) := by decide +kernel
theorem dX6_charge_57 : decode cX6_charge 57 = .ok (.aload 6, 2) := by decide +kernel
theorem dX6_charge_59 : decode cX6_charge 59 = .ok (.iload_n 2, 1) := by decide +kernel
theorem dX6_charge_60 : decode cX6_charge 60 = .ok (.iload_n 3, 1) := by decide +kernel
theorem dX6_charge_61 : decode cX6_charge 61 = .ok (.invokevirtual 139, 3) := by decide +kernel
theorem dX6_charge_64 : decode cX6_charge 64 = .ok (.if_icmp .gt 21, 3) := by decide +kernel
theorem dX6_charge_67 : decode cX6_charge 67 = .ok (.iload 4, 2) := by decide +kernel
theorem dX6_charge_69 : decode cX6_charge 69 = .ok (.aload_n 0, 1) := by decide +kernel
theorem dX6_charge_70 : decode cX6_charge 70 = .ok (.iload_n 2, 1) := by decide +kernel
theorem dX6_charge_71 : decode cX6_charge 71 = .ok (.aload_n 0, 1) := by decide +kernel
theorem dX6_charge_72 : decode cX6_charge 72 = .ok (.getfield 43, 3) := by decide +kernel
theorem dX6_charge_75 : decode cX6_charge 75 = .ok (.bipush 30, 2) := by decide +kernel
theorem dX6_charge_77 : decode cX6_charge 77 = .ok (.idiv, 1) := by decide +kernel
theorem dX6_charge_78 : decode cX6_charge 78 = .ok (.iconst 0, 1) := by decide +kernel
theorem dX6_charge_79 : decode cX6_charge 79 = .ok (.invokevirtual 147, 3) := by decide +kernel
theorem dX6_charge_82 : decode cX6_charge 82 = .ok (.if_icmp .le 13, 3) := by decide +kernel
theorem dX6_charge_85 : decode cX6_charge 85 = .ok (.new 55, 3) := by decide +kernel
theorem dX6_charge_88 : decode cX6_charge 88 = .ok (.dup, 1) := by decide +kernel
theorem dX6_charge_89 : decode cX6_charge 89 = .ok (.ldc 153, 2) := by decide +kernel
theorem dX6_charge_91 : decode cX6_charge 91 = .ok (.invokespecial 59, 3) := by decide +kernel
theorem dX6_charge_94 : decode cX6_charge 94 = .ok (.athrow, 1) := by decide +kernel
theorem dX6_charge_95 : decode cX6_charge 95 = .ok (.new 155, 3) := by decide +kernel
theorem dX6_charge_98 : decode cX6_charge 98 = .ok (.dup, 1) := by decide +kernel
theorem dX6_charge_99 : decode cX6_charge 99 = .ok (.aload_n 0, 1) := by decide +kernel
theorem dX6_charge_100 : decode cX6_charge 100 = .ok (.getfield 19, 3) := by decide +kernel
theorem dX6_charge_103 : decode cX6_charge 103 = .ok (.invokevirtual 51, 3) := by decide +kernel
theorem dX6_charge_106 : decode cX6_charge 106 = .ok (.aload 6, 2) := by decide +kernel
theorem dX6_charge_108 : decode cX6_charge 108 = .ok (.iload_n 2, 1) := by decide +kernel
theorem dX6_charge_109 : decode cX6_charge 109 = .ok (.iload_n 3, 1) := by decide +kernel
theorem dX6_charge_110 : decode cX6_charge 110 = .ok (.iload 4, 2) := by decide +kernel
theorem dX6_charge_112 : decode cX6_charge 112 = .ok (.iload 5, 2) := by decide +kernel
theorem dX6_charge_114 : decode cX6_charge 114 = .ok (.aload_n 0, 1) := by decide +kernel
theorem dX6_charge_115 : decode cX6_charge 115 = .ok (.getfield 43, 3) := by decide +kernel
theorem dX6_charge_118 : decode cX6_charge 118 = .ok (.invokespecial 157, 3) := by decide +kernel
theorem dX6_charge_121 : decode cX6_charge 121 = .ok (.astore 7, 2) := by decide +kernel
theorem dX6_charge_123 : decode cX6_charge 123 = .ok (.aload 7, 2) := by decide +kernel
theorem dX6_charge_125 : decode cX6_charge 125 = .ok (.aload_n 0, 1) := by decide +kernel
theorem dX6_charge_126 : decode cX6_charge 126 = .ok (.aload 6, 2) := by decide +kernel
theorem dX6_charge_128 : decode cX6_charge 128 = .ok (.iload_n 3, 1) := by decide +kernel
theorem dX6_charge_129 : decode cX6_charge 129 = .ok (.invokevirtual 160, 3) := by decide +kernel
theorem dX6_charge_132 : decode cX6_charge 132 = .ok (.putfield 164, 3) := by decide +kernel
theorem dX6_charge_135 : decode cX6_charge 135 = .ok (.aload_n 0, 1) := by decide +kernel
theorem dX6_charge_136 : decode cX6_charge 136 = .ok (.getfield 19, 3) := by decide +kernel
theorem dX6_charge_139 : decode cX6_charge 139 = .ok (.aload 7, 2) := by decide +kernel
theorem dX6_charge_141 : decode cX6_charge 141 = .ok (.invokevirtual 67, 3) := by decide +kernel
theorem dX6_charge_144 : decode cX6_charge 144 = .ok (.pop, 1) := by decide +kernel
theorem dX6_charge_145 : decode cX6_charge 145 = .ok (.aload_n 0, 1) := by decide +kernel
theorem dX6_charge_146 : decode cX6_charge 146 = .ok (.invokevirtual 168, 3) := by decide +kernel
theorem dX6_charge_149 : decode cX6_charge 149 = .ok (.aload_n 0, 1) := by decide +kernel
theorem dX6_charge_150 : decode cX6_charge 150 = .ok (.invokevirtual 102, 3) := by decide +kernel
theorem dX6_charge_153 : decode cX6_charge 153 = .ok (.aload 7, 2) := by decide +kernel
theorem dX6_charge_155 : decode cX6_charge 155 = .ok (.getfield 171, 3) := by decide +kernel
theorem dX6_charge_158 : decode cX6_charge 158 = .ok (.ireturn, 1) := by decide +kernel
theorem dX6_receipt_0 : decode cX6_receipt 0 = .ok (.iload_n 1, 1) := by decide +kernel
theorem dX6_receipt_1 : decode cX6_receipt 1 = .ok (.iload_n 2, 1) := by decide +kernel
theorem dX6_receipt_2 : decode cX6_receipt 2 = .ok (.iload_n 3, 1) := by decide +kernel
theorem dX6_receipt_3 : decode cX6_receipt 3 = .ok (.invokestatic 172, 3) := by decide +kernel
theorem dX6_receipt_6 : decode cX6_receipt 6 = .ok (.aload_n 0, 1) := by decide +kernel
theorem dX6_receipt_7 : decode cX6_receipt 7 = .ok (.getfield 22, 3) := by decide +kernel
theorem dX6_receipt_10 : decode cX6_receipt 10 = .ok (.invokevirtual 51, 3) := by decide +kernel
theorem dX6_receipt_13 : decode cX6_receipt 13 = .ok (.bipush 30, 2) := by decide +kernel
theorem dX6_receipt_15 : decode cX6_receipt 15 = .ok (.if_icmp .lt 13, 3) := by decide +kernel
theorem dX6_receipt_18 : decode cX6_receipt 18 = .ok (.new 55, 3) := by decide +kernel
theorem dX6_receipt_21 : decode cX6_receipt 21 = .ok (.dup, 1) := by decide +kernel
theorem dX6_receipt_22 : decode cX6_receipt 22 = .ok (.ldc 175, 2) := by decide +kernel
theorem dX6_receipt_24 : decode cX6_receipt 24 = .ok (.invokespecial 59, 3) := by decide +kernel
theorem dX6_receipt_27 : decode cX6_receipt 27 = .ok (.athrow, 1) := by decide +kernel
theorem dX6_receipt_28 : decode cX6_receipt 28 = .ok (.new 177, 3) := by decide +kernel
theorem dX6_receipt_31 : decode cX6_receipt 31 = .ok (.dup, 1) := by decide +kernel
theorem dX6_receipt_32 : decode cX6_receipt 32 = .ok (.aload_n 0, 1) := by decide +kernel
theorem dX6_receipt_33 : decode cX6_receipt 33 = .ok (.getfield 22, 3) := by decide +kernel
theorem dX6_receipt_36 : decode cX6_receipt 36 = .ok (.invokevirtual 51, 3) := by decide +kernel
theorem dX6_receipt_39 : decode cX6_receipt 39 = .ok (.iload_n 1, 1) := by decide +kernel
theorem dX6_receipt_40 : decode cX6_receipt 40 = .ok (.iload_n 2, 1) := by decide +kernel
theorem dX6_receipt_41 : decode cX6_receipt 41 = .ok (.iload_n 3, 1) := by decide +kernel
theorem dX6_receipt_42 : decode cX6_receipt 42 = .ok (.invokespecial 179, 3) := by decide +kernel
theorem dX6_receipt_45 : decode cX6_receipt 45 = .ok (.astore 4, 2) := by decide +kernel
theorem dX6_receipt_47 : decode cX6_receipt 47 = .ok (.aload_n 0, 1) := by decide +kernel
theorem dX6_receipt_48 : decode cX6_receipt 48 = .ok (.getfield 22, 3) := by decide +kernel
theorem dX6_receipt_51 : decode cX6_receipt 51 = .ok (.aload 4, 2) := by decide +kernel
theorem dX6_receipt_53 : decode cX6_receipt 53 = .ok (.invokevirtual 67, 3) := by decide +kernel
theorem dX6_receipt_56 : decode cX6_receipt 56 = .ok (.pop, 1) := by decide +kernel
theorem dX6_receipt_57 : decode cX6_receipt 57 = .ok (.aload_n 0, 1) := by decide +kernel
theorem dX6_receipt_58 : decode cX6_receipt 58 = .ok (.invokevirtual 168, 3) := by decide +kernel
theorem dX6_receipt_61 : decode cX6_receipt 61 = .ok (.aload_n 0, 1) := by decide +kernel
theorem dX6_receipt_62 : decode cX6_receipt 62 = .ok (.invokevirtual 102, 3) := by decide +kernel
theorem dX6_receipt_65 : decode cX6_receipt 65 = .ok (.aload 4, 2) := by decide +kernel
theorem dX6_receipt_67 : decode cX6_receipt 67 = .ok (.getfield 182, 3) := by decide +kernel
theorem dX6_receipt_70 : decode cX6_receipt 70 = .ok (.invokestatic 119, 3) := by decide +kernel
theorem dX6_receipt_73 : decode cX6_receipt 73 = .ok (.ireturn, 1) := by decide +kernel
theorem dX6_approve_0 : decode cX6_approve 0 = .ok (.aload_n 0, 1) := by decide +kernel
theorem dX6_approve_1 : decode cX6_approve 1 = .ok (.iload_n 1, 1) := by decide +kernel
theorem dX6_approve_2 : decode cX6_approve 2 = .ok (.invokevirtual 186, 3) := by decide +kernel
theorem dX6_approve_5 : decode cX6_approve 5 = .ok (.astore_n 3, 1) := by decide +kernel
theorem dX6_approve_6 : decode cX6_approve 6 = .ok (.aload_n 0, 1) := by decide +kernel
theorem dX6_approve_7 : decode cX6_approve 7 = .ok (.iload_n 2, 1) := by decide +kernel
theorem dX6_approve_8 : decode cX6_approve 8 = .ok (.invokevirtual 47, 3) := by decide +kernel
theorem dX6_approve_11 : decode cX6_approve 11 = .ok (.astore 4, 2) := by decide +kernel
theorem dX6_approve_13 : decode cX6_approve 13 = .ok (.aload_n 0, 1) := by decide +kernel
theorem dX6_approve_14 : decode cX6_approve 14 = .ok (.aload_n 3, 1) := by decide +kernel
theorem dX6_approve_15 : decode cX6_approve 15 = .ok (.aload 4, 2) := by decide +kernel
theorem dX6_approve_17 : decode cX6_approve 17 = .ok (.invokevirtual 200, 3) := by decide +kernel
theorem dX6_approve_20 : decode cX6_approve 20 = .ok (.aload_n 3, 1) := by decide +kernel
theorem dX6_approve_21 : decode cX6_approve 21 = .ok (.dup, 1) := by decide +kernel
theorem dX6_approve_22 : decode cX6_approve 22 = .ok (.getfield 204, 3) := by decide +kernel
theorem dX6_approve_25 : decode cX6_approve 25 = .ok (.iconst 1, 1) := by decide +kernel
theorem dX6_approve_26 : decode cX6_approve 26 = .ok (.iadd, 1) := by decide +kernel
theorem dX6_approve_27 : decode cX6_approve 27 = .ok (.putfield 204, 3) := by decide +kernel
theorem dX6_approve_30 : decode cX6_approve 30 = .ok (.aload_n 0, 1) := by decide +kernel
theorem dX6_approve_31 : decode cX6_approve 31 = .ok (.invokevirtual 102, 3) := by decide +kernel
theorem dX6_approve_34 : decode cX6_approve 34 = .ok (.aload_n 3, 1) := by decide +kernel
theorem dX6_approve_35 : decode cX6_approve 35 = .ok (.getfield 197, 3) := by decide +kernel
theorem dX6_approve_38 : decode cX6_approve 38 = .ok (.ireturn, 1) := by decide +kernel
theorem dX6_refuse_0 : decode cX6_refuse 0 = .ok (.aload_n 0, 1) := by decide +kernel
theorem dX6_refuse_1 : decode cX6_refuse 1 = .ok (.iload_n 1, 1) := by decide +kernel
theorem dX6_refuse_2 : decode cX6_refuse 2 = .ok (.invokevirtual 186, 3) := by decide +kernel
theorem dX6_refuse_5 : decode cX6_refuse 5 = .ok (.astore_n 3, 1) := by decide +kernel
theorem dX6_refuse_6 : decode cX6_refuse 6 = .ok (.aload_n 0, 1) := by decide +kernel
theorem dX6_refuse_7 : decode cX6_refuse 7 = .ok (.iload_n 2, 1) := by decide +kernel
theorem dX6_refuse_8 : decode cX6_refuse 8 = .ok (.invokevirtual 47, 3) := by decide +kernel
theorem dX6_refuse_11 : decode cX6_refuse 11 = .ok (.astore 4, 2) := by decide +kernel
theorem dX6_refuse_13 : decode cX6_refuse 13 = .ok (.aload_n 0, 1) := by decide +kernel
theorem dX6_refuse_14 : decode cX6_refuse 14 = .ok (.aload_n 3, 1) := by decide +kernel
theorem dX6_refuse_15 : decode cX6_refuse 15 = .ok (.aload 4, 2) := by decide +kernel
theorem dX6_refuse_17 : decode cX6_refuse 17 = .ok (.invokevirtual 200, 3) := by decide +kernel
theorem dX6_refuse_20 : decode cX6_refuse 20 = .ok (.aload_n 3, 1) := by decide +kernel
theorem dX6_refuse_21 : decode cX6_refuse 21 = .ok (.iconst 4, 1) := by decide +kernel
theorem dX6_refuse_22 : decode cX6_refuse 22 = .ok (.putfield 197, 3) := by decide +kernel
theorem dX6_refuse_25 : decode cX6_refuse 25 = .ok (.aload_n 0, 1) := by decide +kernel
theorem dX6_refuse_26 : decode cX6_refuse 26 = .ok (.invokevirtual 102, 3) := by decide +kernel
theorem dX6_refuse_29 : decode cX6_refuse 29 = .ok (.aload_n 0, 1) := by decide +kernel
theorem dX6_refuse_30 : decode cX6_refuse 30 = .ok (.iconst 4, 1) := by decide +kernel
theorem dX6_refuse_31 : decode cX6_refuse 31 = .ok (.invokevirtual 207, 3) := by decide +kernel
theorem dX6_refuse_34 : decode cX6_refuse 34 = .ok (.ireturn, 1) := by decide +kernel
theorem dX6_settle_0 : decode cX6_settle 0 = .ok (.aload_n 0, 1) := by decide +kernel
theorem dX6_settle_1 : decode cX6_settle 1 = .ok (.iload_n 1, 1) := by decide +kernel
theorem dX6_settle_2 : decode cX6_settle 2 = .ok (.invokevirtual 186, 3) := by decide +kernel
theorem dX6_settle_5 : decode cX6_settle 5 = .ok (.astore_n 3, 1) := by decide +kernel
theorem dX6_settle_6 : decode cX6_settle 6 = .ok (.aload_n 3, 1) := by decide +kernel
theorem dX6_settle_7 : decode cX6_settle 7 = .ok (.iconst 4, 1) := by decide +kernel
theorem dX6_settle_8 : decode cX6_settle 8 = .ok (.invokestatic 190, 3) := by decide +kernel
theorem dX6_settle_11 : decode cX6_settle 11 = .ok (.iload_n 2, 1) := by decide +kernel
theorem dX6_settle_12 : decode cX6_settle 12 = .ok (.ifCond .eq 11, 3) := by decide +kernel
theorem dX6_settle_15 : decode cX6_settle 15 = .ok (.aload_n 3, 1) := by decide +kernel
theorem dX6_settle_16 : decode cX6_settle 16 = .ok (.iconst 3, 1) := by decide +kernel
theorem dX6_settle_17 : decode cX6_settle 17 = .ok (.putfield 197, 3) := by decide +kernel
theorem dX6_settle_20 : decode cX6_settle 20 = .ok (.goto 13, 3) := by decide +kernel
theorem dX6_settle_23 : decode cX6_settle 23 = .ok (.aload_n 3, 1) := by decide +kernel
theorem dX6_settle_24 : decode cX6_settle 24 = .ok (.iconst 1, 1) := by decide +kernel
theorem dX6_settle_25 : decode cX6_settle 25 = .ok (.putfield 197, 3) := by decide +kernel
theorem dX6_settle_28 : decode cX6_settle 28 = .ok (.aload_n 3, 1) := by decide +kernel
theorem dX6_settle_29 : decode cX6_settle 29 = .ok (.iconst 0, 1) := by decide +kernel
theorem dX6_settle_30 : decode cX6_settle 30 = .ok (.putfield 204, 3) := by decide +kernel
theorem dX6_settle_33 : decode cX6_settle 33 = .ok (.aload_n 0, 1) := by decide +kernel
theorem dX6_settle_34 : decode cX6_settle 34 = .ok (.invokevirtual 102, 3) := by decide +kernel
theorem dX6_settle_37 : decode cX6_settle 37 = .ok (.aload_n 3, 1) := by decide +kernel
theorem dX6_settle_38 : decode cX6_settle 38 = .ok (.getfield 197, 3) := by decide +kernel
theorem dX6_settle_41 : decode cX6_settle 41 = .ok (.ireturn, 1) := by decide +kernel
theorem dX6_ofCharge_0 : decode cX6_ofCharge 0 = .ok (.aload_n 0, 1) := by decide +kernel
theorem dX6_ofCharge_1 : decode cX6_ofCharge 1 = .ok (.iload_n 1, 1) := by decide +kernel
theorem dX6_ofCharge_2 : decode cX6_ofCharge 2 = .ok (.invokevirtual 186, 3) := by decide +kernel
theorem dX6_ofCharge_5 : decode cX6_ofCharge 5 = .ok (.astore_n 3, 1) := by decide +kernel
theorem dX6_ofCharge_6 : decode cX6_ofCharge 6 = .ok (.iload_n 2, 1) := by decide +kernel
theorem dX6_ofCharge_7 : decode cX6_ofCharge 7 = .ok (.iconst 0, 1) := by decide +kernel
theorem dX6_ofCharge_8 : decode cX6_ofCharge 8 = .ok (.bipush 11, 2) := by decide +kernel
theorem dX6_ofCharge_10 : decode cX6_ofCharge 10 = .ok (.invokestatic 78, 3) := by decide +kernel
theorem dX6_ofCharge_13 : decode cX6_ofCharge 13 = .ok (.iload_n 2, 1) := by decide +kernel
theorem dX6_ofCharge_14 : decode cX6_ofCharge 14 = .ok (.tableswitch 129 0 10 #[58, 66, 71, 76, 81, 86, 94, 102, 108, 115, 120], 58) := by decide +kernel
theorem dX6_ofCharge_72 : decode cX6_ofCharge 72 = .ok (.aload_n 3, 1) := by decide +kernel
theorem dX6_ofCharge_73 : decode cX6_ofCharge 73 = .ok (.getfield 211, 3) := by decide +kernel
theorem dX6_ofCharge_76 : decode cX6_ofCharge 76 = .ok (.getfield 71, 3) := by decide +kernel
theorem dX6_ofCharge_79 : decode cX6_ofCharge 79 = .ok (.ireturn, 1) := by decide +kernel
theorem dX6_ofCharge_80 : decode cX6_ofCharge 80 = .ok (.aload_n 3, 1) := by decide +kernel
theorem dX6_ofCharge_81 : decode cX6_ofCharge 81 = .ok (.getfield 214, 3) := by decide +kernel
theorem dX6_ofCharge_84 : decode cX6_ofCharge 84 = .ok (.ireturn, 1) := by decide +kernel
theorem dX6_ofCharge_85 : decode cX6_ofCharge 85 = .ok (.aload_n 3, 1) := by decide +kernel
theorem dX6_ofCharge_86 : decode cX6_ofCharge 86 = .ok (.getfield 217, 3) := by decide +kernel
theorem dX6_ofCharge_89 : decode cX6_ofCharge 89 = .ok (.ireturn, 1) := by decide +kernel
theorem dX6_ofCharge_90 : decode cX6_ofCharge 90 = .ok (.aload_n 3, 1) := by decide +kernel
theorem dX6_ofCharge_91 : decode cX6_ofCharge 91 = .ok (.getfield 220, 3) := by decide +kernel
theorem dX6_ofCharge_94 : decode cX6_ofCharge 94 = .ok (.ireturn, 1) := by decide +kernel
theorem dX6_ofCharge_95 : decode cX6_ofCharge 95 = .ok (.aload_n 3, 1) := by decide +kernel
theorem dX6_ofCharge_96 : decode cX6_ofCharge 96 = .ok (.getfield 197, 3) := by decide +kernel
theorem dX6_ofCharge_99 : decode cX6_ofCharge 99 = .ok (.ireturn, 1) := by decide +kernel
theorem dX6_ofCharge_100 : decode cX6_ofCharge 100 = .ok (.aload_n 3, 1) := by decide +kernel
theorem dX6_ofCharge_101 : decode cX6_ofCharge 101 = .ok (.getfield 223, 3) := by decide +kernel
theorem dX6_ofCharge_104 : decode cX6_ofCharge 104 = .ok (.invokestatic 119, 3) := by decide +kernel
theorem dX6_ofCharge_107 : decode cX6_ofCharge 107 = .ok (.ireturn, 1) := by decide +kernel
theorem dX6_ofCharge_108 : decode cX6_ofCharge 108 = .ok (.aload_n 3, 1) := by decide +kernel
theorem dX6_ofCharge_109 : decode cX6_ofCharge 109 = .ok (.getfield 164, 3) := by decide +kernel
theorem dX6_ofCharge_112 : decode cX6_ofCharge 112 = .ok (.invokestatic 119, 3) := by decide +kernel
theorem dX6_ofCharge_115 : decode cX6_ofCharge 115 = .ok (.ireturn, 1) := by decide +kernel
theorem dX6_ofCharge_116 : decode cX6_ofCharge 116 = .ok (.aload_n 0, 1) := by decide +kernel
theorem dX6_ofCharge_117 : decode cX6_ofCharge 117 = .ok (.aload_n 3, 1) := by decide +kernel
theorem dX6_ofCharge_118 : decode cX6_ofCharge 118 = .ok (.invokevirtual 227, 3) := by decide +kernel
theorem dX6_ofCharge_121 : decode cX6_ofCharge 121 = .ok (.ireturn, 1) := by decide +kernel
theorem dX6_ofCharge_122 : decode cX6_ofCharge 122 = .ok (.aload_n 0, 1) := by decide +kernel
theorem dX6_ofCharge_123 : decode cX6_ofCharge 123 = .ok (.aload_n 3, 1) := by decide +kernel
theorem dX6_ofCharge_124 : decode cX6_ofCharge 124 = .ok (.iconst 0, 1) := by decide +kernel
theorem dX6_ofCharge_125 : decode cX6_ofCharge 125 = .ok (.invokevirtual 231, 3) := by decide +kernel
theorem dX6_ofCharge_128 : decode cX6_ofCharge 128 = .ok (.ireturn, 1) := by decide +kernel
theorem dX6_ofCharge_129 : decode cX6_ofCharge 129 = .ok (.aload_n 3, 1) := by decide +kernel
theorem dX6_ofCharge_130 : decode cX6_ofCharge 130 = .ok (.getfield 204, 3) := by decide +kernel
theorem dX6_ofCharge_133 : decode cX6_ofCharge 133 = .ok (.ireturn, 1) := by decide +kernel
theorem dX6_ofCharge_134 : decode cX6_ofCharge 134 = .ok (.aload_n 0, 1) := by decide +kernel
theorem dX6_ofCharge_135 : decode cX6_ofCharge 135 = .ok (.aload_n 3, 1) := by decide +kernel
theorem dX6_ofCharge_136 : decode cX6_ofCharge 136 = .ok (.invokevirtual 235, 3) := by decide +kernel
theorem dX6_ofCharge_139 : decode cX6_ofCharge 139 = .ok (.invokestatic 119, 3) := by decide +kernel
theorem dX6_ofCharge_142 : decode cX6_ofCharge 142 = .ok (.ireturn, 1) := by decide +kernel
theorem dX6_ofCharge_143 : decode cX6_ofCharge 143 = .ok (.aload_n 3, 1) := by decide +kernel
theorem dX6_ofCharge_144 : decode cX6_ofCharge 144 = .ok (.getfield 239, 3) := by decide +kernel
theorem dX6_ofCharge_147 : decode cX6_ofCharge 147 = .ok (.ifCond .eq 7, 3) := by decide +kernel
theorem dX6_ofCharge_150 : decode cX6_ofCharge 150 = .ok (.iconst 1, 1) := by decide +kernel
theorem dX6_ofCharge_151 : decode cX6_ofCharge 151 = .ok (.goto 4, 3) := by decide +kernel
theorem dX6_ofCharge_154 : decode cX6_ofCharge 154 = .ok (.iconst 0, 1) := by decide +kernel
theorem dX6_ofCharge_155 : decode cX6_ofCharge 155 = .ok (.ireturn, 1) := by decide +kernel
theorem dX6_ofReceipt_0 : decode cX6_ofReceipt 0 = .ok (.aload_n 0, 1) := by decide +kernel
theorem dX6_ofReceipt_1 : decode cX6_ofReceipt 1 = .ok (.iload_n 1, 1) := by decide +kernel
theorem dX6_ofReceipt_2 : decode cX6_ofReceipt 2 = .ok (.invokevirtual 243, 3) := by decide +kernel
theorem dX6_ofReceipt_5 : decode cX6_ofReceipt 5 = .ok (.getfield 182, 3) := by decide +kernel
theorem dX6_ofReceipt_8 : decode cX6_ofReceipt 8 = .ok (.invokestatic 119, 3) := by decide +kernel
theorem dX6_ofReceipt_11 : decode cX6_ofReceipt 11 = .ok (.ireturn, 1) := by decide +kernel
theorem dX6_score_0 : decode cX6_score 0 = .ok (.aload_n 0, 1) := by decide +kernel
theorem dX6_score_1 : decode cX6_score 1 = .ok (.iload_n 1, 1) := by decide +kernel
theorem dX6_score_2 : decode cX6_score 2 = .ok (.invokevirtual 186, 3) := by decide +kernel
theorem dX6_score_5 : decode cX6_score 5 = .ok (.aload_n 0, 1) := by decide +kernel
theorem dX6_score_6 : decode cX6_score 6 = .ok (.iload_n 2, 1) := by decide +kernel
theorem dX6_score_7 : decode cX6_score 7 = .ok (.invokevirtual 243, 3) := by decide +kernel
theorem dX6_score_10 : decode cX6_score 10 = .ok (.invokestatic 247, 3) := by decide +kernel
theorem dX6_score_13 : decode cX6_score 13 = .ok (.ireturn, 1) := by decide +kernel
theorem dX6_day_0 : decode cX6_day 0 = .ok (.aload_n 0, 1) := by decide +kernel
theorem dX6_day_1 : decode cX6_day 1 = .ok (.getfield 43, 3) := by decide +kernel
theorem dX6_day_4 : decode cX6_day 4 = .ok (.bipush 119, 2) := by decide +kernel
theorem dX6_day_6 : decode cX6_day 6 = .ok (.if_icmp .lt 13, 3) := by decide +kernel
theorem dX6_day_9 : decode cX6_day 9 = .ok (.new 55, 3) := by decide +kernel
theorem dX6_day_12 : decode cX6_day 12 = .ok (.dup, 1) := by decide +kernel
theorem dX6_day_13 : decode cX6_day 13 = .ok (.ldc 251, 2) := by decide +kernel
theorem dX6_day_15 : decode cX6_day 15 = .ok (.invokespecial 59, 3) := by decide +kernel
theorem dX6_day_18 : decode cX6_day 18 = .ok (.athrow, 1) := by decide +kernel
theorem dX6_day_19 : decode cX6_day 19 = .ok (.aload_n 0, 1) := by decide +kernel
theorem dX6_day_20 : decode cX6_day 20 = .ok (.dup, 1) := by decide +kernel
theorem dX6_day_21 : decode cX6_day 21 = .ok (.getfield 43, 3) := by decide +kernel
theorem dX6_day_24 : decode cX6_day 24 = .ok (.iconst 1, 1) := by decide +kernel
theorem dX6_day_25 : decode cX6_day 25 = .ok (.iadd, 1) := by decide +kernel
theorem dX6_day_26 : decode cX6_day 26 = .ok (.putfield 43, 3) := by decide +kernel
theorem dX6_day_29 : decode cX6_day 29 = .ok (.iconst 0, 1) := by decide +kernel
theorem dX6_day_30 : decode cX6_day 30 = .ok (.istore_n 1, 1) := by decide +kernel
theorem dX6_day_31 : decode cX6_day 31 = .ok (.iconst 0, 1) := by decide +kernel
theorem dX6_day_32 : decode cX6_day 32 = .ok (.istore_n 2, 1) := by decide +kernel
theorem dX6_day_33 : decode cX6_day 33 = .ok (.iload_n 2, 1) := by decide +kernel
theorem dX6_day_34 : decode cX6_day 34 = .ok (.aload_n 0, 1) := by decide +kernel
theorem dX6_day_35 : decode cX6_day 35 = .ok (.getfield 19, 3) := by decide +kernel
theorem dX6_day_38 : decode cX6_day 38 = .ok (.invokevirtual 51, 3) := by decide +kernel
theorem dX6_day_41 : decode cX6_day 41 = .ok (.if_icmp .ge 37, 3) := by decide +kernel
theorem dX6_day_44 : decode cX6_day 44 = .ok (.aload_n 0, 1) := by decide +kernel
theorem dX6_day_45 : decode cX6_day 45 = .ok (.getfield 19, 3) := by decide +kernel
theorem dX6_day_48 : decode cX6_day 48 = .ok (.iload_n 2, 1) := by decide +kernel
theorem dX6_day_49 : decode cX6_day 49 = .ok (.invokevirtual 253, 3) := by decide +kernel
theorem dX6_day_52 : decode cX6_day 52 = .ok (.checkcast 155, 3) := by decide +kernel
theorem dX6_day_55 : decode cX6_day 55 = .ok (.astore_n 3, 1) := by decide +kernel
theorem dX6_day_56 : decode cX6_day 56 = .ok (.aload_n 0, 1) := by decide +kernel
theorem dX6_day_57 : decode cX6_day 57 = .ok (.aload_n 3, 1) := by decide +kernel
theorem dX6_day_58 : decode cX6_day 58 = .ok (.invokevirtual 257, 3) := by decide +kernel
theorem dX6_day_61 : decode cX6_day 61 = .ok (.ifCond .eq 11, 3) := by decide +kernel
theorem dX6_day_64 : decode cX6_day 64 = .ok (.aload_n 0, 1) := by decide +kernel
theorem dX6_day_65 : decode cX6_day 65 = .ok (.aload_n 3, 1) := by decide +kernel
theorem dX6_day_66 : decode cX6_day 66 = .ok (.invokevirtual 261, 3) := by decide +kernel
theorem dX6_day_69 : decode cX6_day 69 = .ok (.iinc 1 1, 3) := by decide +kernel
theorem dX6_day_72 : decode cX6_day 72 = .ok (.iinc 2 1, 3) := by decide +kernel
theorem dX6_day_75 : decode cX6_day 75 = .ok (.goto (-42), 3) := by decide +kernel
theorem dX6_day_78 : decode cX6_day 78 = .ok (.aload_n 0, 1) := by decide +kernel
theorem dX6_day_79 : decode cX6_day 79 = .ok (.invokevirtual 102, 3) := by decide +kernel
theorem dX6_day_82 : decode cX6_day 82 = .ok (.iload_n 1, 1) := by decide +kernel
theorem dX6_day_83 : decode cX6_day 83 = .ok (.ireturn, 1) := by decide +kernel
theorem dX6_many_0 : decode cX6_many 0 = .ok (.iload_n 1, 1) := by decide +kernel
theorem dX6_many_1 : decode cX6_many 1 = .ok (.iconst 0, 1) := by decide +kernel
theorem dX6_many_2 : decode cX6_many 2 = .ok (.bipush 12, 2) := by decide +kernel
theorem dX6_many_4 : decode cX6_many 4 = .ok (.invokestatic 78, 3) := by decide +kernel
theorem dX6_many_7 : decode cX6_many 7 = .ok (.iload_n 1, 1) := by decide +kernel
theorem dX6_many_8 : decode cX6_many 8 = .ok (.tableswitch 120 0 12 #[68, 76, 84, 120, 120, 120, 120, 120, 92, 100, 105, 110, 115], 68) := by decide +kernel
theorem dX6_many_76 : decode cX6_many 76 = .ok (.aload_n 0, 1) := by decide +kernel
theorem dX6_many_77 : decode cX6_many 77 = .ok (.getfield 10, 3) := by decide +kernel
theorem dX6_many_80 : decode cX6_many 80 = .ok (.invokevirtual 51, 3) := by decide +kernel
theorem dX6_many_83 : decode cX6_many 83 = .ok (.ireturn, 1) := by decide +kernel
theorem dX6_many_84 : decode cX6_many 84 = .ok (.aload_n 0, 1) := by decide +kernel
theorem dX6_many_85 : decode cX6_many 85 = .ok (.getfield 16, 3) := by decide +kernel
theorem dX6_many_88 : decode cX6_many 88 = .ok (.invokevirtual 51, 3) := by decide +kernel
theorem dX6_many_91 : decode cX6_many 91 = .ok (.ireturn, 1) := by decide +kernel
theorem dX6_many_92 : decode cX6_many 92 = .ok (.aload_n 0, 1) := by decide +kernel
theorem dX6_many_93 : decode cX6_many 93 = .ok (.getfield 19, 3) := by decide +kernel
theorem dX6_many_96 : decode cX6_many 96 = .ok (.invokevirtual 51, 3) := by decide +kernel
theorem dX6_many_99 : decode cX6_many 99 = .ok (.ireturn, 1) := by decide +kernel
theorem dX6_many_100 : decode cX6_many 100 = .ok (.aload_n 0, 1) := by decide +kernel
theorem dX6_many_101 : decode cX6_many 101 = .ok (.getfield 22, 3) := by decide +kernel
theorem dX6_many_104 : decode cX6_many 104 = .ok (.invokevirtual 51, 3) := by decide +kernel
theorem dX6_many_107 : decode cX6_many 107 = .ok (.ireturn, 1) := by decide +kernel
theorem dX6_many_108 : decode cX6_many 108 = .ok (.aload_n 0, 1) := by decide +kernel
theorem dX6_many_109 : decode cX6_many 109 = .ok (.invokevirtual 265, 3) := by decide +kernel
theorem dX6_many_112 : decode cX6_many 112 = .ok (.ireturn, 1) := by decide +kernel
theorem dX6_many_113 : decode cX6_many 113 = .ok (.aload_n 0, 1) := by decide +kernel
theorem dX6_many_114 : decode cX6_many 114 = .ok (.getfield 43, 3) := by decide +kernel
theorem dX6_many_117 : decode cX6_many 117 = .ok (.ireturn, 1) := by decide +kernel
theorem dX6_many_118 : decode cX6_many 118 = .ok (.aload_n 0, 1) := by decide +kernel
theorem dX6_many_119 : decode cX6_many 119 = .ok (.invokevirtual 268, 3) := by decide +kernel
theorem dX6_many_122 : decode cX6_many 122 = .ok (.ireturn, 1) := by decide +kernel
theorem dX6_many_123 : decode cX6_many 123 = .ok (.aload_n 0, 1) := by decide +kernel
theorem dX6_many_124 : decode cX6_many 124 = .ok (.invokevirtual 271, 3) := by decide +kernel
theorem dX6_many_127 : decode cX6_many 127 = .ok (.ireturn, 1) := by decide +kernel
theorem dX6_many_128 : decode cX6_many 128 = .ok (.aload_n 0, 1) := by decide +kernel
theorem dX6_many_129 : decode cX6_many 129 = .ok (.iload_n 1, 1) := by decide +kernel
theorem dX6_many_130 : decode cX6_many 130 = .ok (.iconst 3, 1) := by decide +kernel
theorem dX6_many_131 : decode cX6_many 131 = .ok (.isub, 1) := by decide +kernel
theorem dX6_many_132 : decode cX6_many 132 = .ok (.invokevirtual 207, 3) := by decide +kernel
theorem dX6_many_135 : decode cX6_many 135 = .ok (.ireturn, 1) := by decide +kernel
theorem dX6_wouldMatch_0 : decode cX6_wouldMatch 0 = .ok (.iload_n 1, 1) := by decide +kernel
theorem dX6_wouldMatch_1 : decode cX6_wouldMatch 1 = .ok (.iload_n 2, 1) := by decide +kernel
theorem dX6_wouldMatch_2 : decode cX6_wouldMatch 2 = .ok (.iload_n 3, 1) := by decide +kernel
theorem dX6_wouldMatch_3 : decode cX6_wouldMatch 3 = .ok (.invokestatic 172, 3) := by decide +kernel
theorem dX6_wouldMatch_6 : decode cX6_wouldMatch 6 = .ok (.new 177, 3) := by decide +kernel
theorem dX6_wouldMatch_9 : decode cX6_wouldMatch 9 = .ok (.dup, 1) := by decide +kernel
theorem dX6_wouldMatch_10 : decode cX6_wouldMatch 10 = .ok (.aload_n 0, 1) := by decide +kernel
theorem dX6_wouldMatch_11 : decode cX6_wouldMatch 11 = .ok (.getfield 22, 3) := by decide +kernel
theorem dX6_wouldMatch_14 : decode cX6_wouldMatch 14 = .ok (.invokevirtual 51, 3) := by decide +kernel
theorem dX6_wouldMatch_17 : decode cX6_wouldMatch 17 = .ok (.iload_n 1, 1) := by decide +kernel
theorem dX6_wouldMatch_18 : decode cX6_wouldMatch 18 = .ok (.iload_n 2, 1) := by decide +kernel
theorem dX6_wouldMatch_19 : decode cX6_wouldMatch 19 = .ok (.iload_n 3, 1) := by decide +kernel
theorem dX6_wouldMatch_20 : decode cX6_wouldMatch 20 = .ok (.invokespecial 179, 3) := by decide +kernel
theorem dX6_wouldMatch_23 : decode cX6_wouldMatch 23 = .ok (.astore 4, 2) := by decide +kernel
theorem dX6_wouldMatch_25 : decode cX6_wouldMatch 25 = .ok (.aconst_null, 1) := by decide +kernel
theorem dX6_wouldMatch_26 : decode cX6_wouldMatch 26 = .ok (.astore 5, 2) := by decide +kernel
theorem dX6_wouldMatch_28 : decode cX6_wouldMatch 28 = .ok (.iconst (-1), 1) := by decide +kernel
theorem dX6_wouldMatch_29 : decode cX6_wouldMatch 29 = .ok (.istore 6, 2) := by decide +kernel
theorem dX6_wouldMatch_31 : decode cX6_wouldMatch 31 = .ok (.iconst 0, 1) := by decide +kernel
theorem dX6_wouldMatch_32 : decode cX6_wouldMatch 32 = .ok (.istore 7, 2) := by decide +kernel
theorem dX6_wouldMatch_34 : decode cX6_wouldMatch 34 = .ok (.iload 7, 2) := by decide +kernel
theorem dX6_wouldMatch_36 : decode cX6_wouldMatch 36 = .ok (.aload_n 0, 1) := by decide +kernel
theorem dX6_wouldMatch_37 : decode cX6_wouldMatch 37 = .ok (.getfield 19, 3) := by decide +kernel
theorem dX6_wouldMatch_40 : decode cX6_wouldMatch 40 = .ok (.invokevirtual 51, 3) := by decide +kernel
theorem dX6_wouldMatch_43 : decode cX6_wouldMatch 43 = .ok (.if_icmp .ge 58, 3) := by decide +kernel
theorem dX6_wouldMatch_46 : decode cX6_wouldMatch 46 = .ok (.aload_n 0, 1) := by decide +kernel
theorem dX6_wouldMatch_47 : decode cX6_wouldMatch 47 = .ok (.getfield 19, 3) := by decide +kernel
theorem dX6_wouldMatch_50 : decode cX6_wouldMatch 50 = .ok (.iload 7, 2) := by decide +kernel
theorem dX6_wouldMatch_52 : decode cX6_wouldMatch 52 = .ok (.invokevirtual 253, 3) := by decide +kernel
theorem dX6_wouldMatch_55 : decode cX6_wouldMatch 55 = .ok (.checkcast 155, 3) := by decide +kernel
theorem dX6_wouldMatch_58 : decode cX6_wouldMatch 58 = .ok (.astore 8, 2) := by decide +kernel
theorem dX6_wouldMatch_60 : decode cX6_wouldMatch 60 = .ok (.aload 8, 2) := by decide +kernel
theorem dX6_wouldMatch_62 : decode cX6_wouldMatch 62 = .ok (.aload 4, 2) := by decide +kernel
theorem dX6_wouldMatch_64 : decode cX6_wouldMatch 64 = .ok (.invokestatic 278, 3) := by decide +kernel
theorem dX6_wouldMatch_67 : decode cX6_wouldMatch 67 = .ok (.ifCond .eq 28, 3) := by decide +kernel
theorem dX6_wouldMatch_70 : decode cX6_wouldMatch 70 = .ok (.aload 8, 2) := by decide +kernel
theorem dX6_wouldMatch_72 : decode cX6_wouldMatch 72 = .ok (.aload 4, 2) := by decide +kernel
theorem dX6_wouldMatch_74 : decode cX6_wouldMatch 74 = .ok (.invokestatic 247, 3) := by decide +kernel
theorem dX6_wouldMatch_77 : decode cX6_wouldMatch 77 = .ok (.iload 6, 2) := by decide +kernel
theorem dX6_wouldMatch_79 : decode cX6_wouldMatch 79 = .ok (.if_icmp .le 16, 3) := by decide +kernel
theorem dX6_wouldMatch_82 : decode cX6_wouldMatch 82 = .ok (.aload 8, 2) := by decide +kernel
theorem dX6_wouldMatch_84 : decode cX6_wouldMatch 84 = .ok (.astore 5, 2) := by decide +kernel
theorem dX6_wouldMatch_86 : decode cX6_wouldMatch 86 = .ok (.aload 8, 2) := by decide +kernel
theorem dX6_wouldMatch_88 : decode cX6_wouldMatch 88 = .ok (.aload 4, 2) := by decide +kernel
theorem dX6_wouldMatch_90 : decode cX6_wouldMatch 90 = .ok (.invokestatic 247, 3) := by decide +kernel
theorem dX6_wouldMatch_93 : decode cX6_wouldMatch 93 = .ok (.istore 6, 2) := by decide +kernel
theorem dX6_wouldMatch_95 : decode cX6_wouldMatch 95 = .ok (.iinc 7 1, 3) := by decide +kernel
theorem dX6_wouldMatch_98 : decode cX6_wouldMatch 98 = .ok (.goto (-64), 3) := by decide +kernel
theorem dX6_wouldMatch_101 : decode cX6_wouldMatch 101 = .ok (.aload 5, 2) := by decide +kernel
theorem dX6_wouldMatch_103 : decode cX6_wouldMatch 103 = .ok (.invokestatic 119, 3) := by decide +kernel
theorem dX6_wouldMatch_106 : decode cX6_wouldMatch 106 = .ok (.ireturn, 1) := by decide +kernel
theorem dX6_trustBehind_0 : decode cX6_trustBehind 0 = .ok (.aload_n 0, 1) := by decide +kernel
theorem dX6_trustBehind_1 : decode cX6_trustBehind 1 = .ok (.iload_n 1, 1) := by decide +kernel
theorem dX6_trustBehind_2 : decode cX6_trustBehind 2 = .ok (.invokevirtual 47, 3) := by decide +kernel
theorem dX6_trustBehind_5 : decode cX6_trustBehind 5 = .ok (.astore_n 3, 1) := by decide +kernel
theorem dX6_trustBehind_6 : decode cX6_trustBehind 6 = .ok (.iload_n 2, 1) := by decide +kernel
theorem dX6_trustBehind_7 : decode cX6_trustBehind 7 = .ok (.iconst 0, 1) := by decide +kernel
theorem dX6_trustBehind_8 : decode cX6_trustBehind 8 = .ok (.bipush 30, 2) := by decide +kernel
theorem dX6_trustBehind_10 : decode cX6_trustBehind 10 = .ok (.invokestatic 78, 3) := by decide +kernel
theorem dX6_trustBehind_13 : decode cX6_trustBehind 13 = .ok (.aload_n 0, 1) := by decide +kernel
theorem dX6_trustBehind_14 : decode cX6_trustBehind 14 = .ok (.getfield 43, 3) := by decide +kernel
theorem dX6_trustBehind_17 : decode cX6_trustBehind 17 = .ok (.iload_n 2, 1) := by decide +kernel
theorem dX6_trustBehind_18 : decode cX6_trustBehind 18 = .ok (.iadd, 1) := by decide +kernel
theorem dX6_trustBehind_19 : decode cX6_trustBehind 19 = .ok (.bipush 119, 2) := by decide +kernel
theorem dX6_trustBehind_21 : decode cX6_trustBehind 21 = .ok (.invokestatic 282, 3) := by decide +kernel
theorem dX6_trustBehind_24 : decode cX6_trustBehind 24 = .ok (.istore 4, 2) := by decide +kernel
theorem dX6_trustBehind_26 : decode cX6_trustBehind 26 = .ok (.iconst 0, 1) := by decide +kernel
theorem dX6_trustBehind_27 : decode cX6_trustBehind 27 = .ok (.istore 5, 2) := by decide +kernel
theorem dX6_trustBehind_29 : decode cX6_trustBehind 29 = .ok (.iconst 0, 1) := by decide +kernel
theorem dX6_trustBehind_30 : decode cX6_trustBehind 30 = .ok (.istore 6, 2) := by decide +kernel
theorem dX6_trustBehind_32 : decode cX6_trustBehind 32 = .ok (.iload 6, 2) := by decide +kernel
theorem dX6_trustBehind_34 : decode cX6_trustBehind 34 = .ok (.aload_n 0, 1) := by decide +kernel
theorem dX6_trustBehind_35 : decode cX6_trustBehind 35 = .ok (.getfield 19, 3) := by decide +kernel
theorem dX6_trustBehind_38 : decode cX6_trustBehind 38 = .ok (.invokevirtual 51, 3) := by decide +kernel
theorem dX6_trustBehind_41 : decode cX6_trustBehind 41 = .ok (.if_icmp .ge 53, 3) := by decide +kernel
theorem dX6_trustBehind_44 : decode cX6_trustBehind 44 = .ok (.aload_n 0, 1) := by decide +kernel
theorem dX6_trustBehind_45 : decode cX6_trustBehind 45 = .ok (.getfield 19, 3) := by decide +kernel
theorem dX6_trustBehind_48 : decode cX6_trustBehind 48 = .ok (.iload 6, 2) := by decide +kernel
theorem dX6_trustBehind_50 : decode cX6_trustBehind 50 = .ok (.invokevirtual 253, 3) := by decide +kernel
theorem dX6_trustBehind_53 : decode cX6_trustBehind 53 = .ok (.checkcast 155, 3) := by decide +kernel
theorem dX6_trustBehind_56 : decode cX6_trustBehind 56 = .ok (.astore 7, 2) := by decide +kernel
theorem dX6_trustBehind_58 : decode cX6_trustBehind 58 = .ok (.aload 7, 2) := by decide +kernel
theorem dX6_trustBehind_60 : decode cX6_trustBehind 60 = .ok (.getfield 211, 3) := by decide +kernel
theorem dX6_trustBehind_63 : decode cX6_trustBehind 63 = .ok (.aload_n 3, 1) := by decide +kernel
theorem dX6_trustBehind_64 : decode cX6_trustBehind 64 = .ok (.if_acmp .ne 24, 3) := by decide +kernel
theorem dX6_trustBehind_67 : decode cX6_trustBehind 67 = .ok (.aload 7, 2) := by decide +kernel
theorem dX6_trustBehind_69 : decode cX6_trustBehind 69 = .ok (.getfield 197, 3) := by decide +kernel
theorem dX6_trustBehind_72 : decode cX6_trustBehind 72 = .ok (.ifCond .ne 16, 3) := by decide +kernel
theorem dX6_trustBehind_75 : decode cX6_trustBehind 75 = .ok (.iload 5, 2) := by decide +kernel
theorem dX6_trustBehind_77 : decode cX6_trustBehind 77 = .ok (.aload_n 0, 1) := by decide +kernel
theorem dX6_trustBehind_78 : decode cX6_trustBehind 78 = .ok (.aload 7, 2) := by decide +kernel
theorem dX6_trustBehind_80 : decode cX6_trustBehind 80 = .ok (.iload 4, 2) := by decide +kernel
theorem dX6_trustBehind_82 : decode cX6_trustBehind 82 = .ok (.invokevirtual 288, 3) := by decide +kernel
theorem dX6_trustBehind_85 : decode cX6_trustBehind 85 = .ok (.iadd, 1) := by decide +kernel
theorem dX6_trustBehind_86 : decode cX6_trustBehind 86 = .ok (.istore 5, 2) := by decide +kernel
theorem dX6_trustBehind_88 : decode cX6_trustBehind 88 = .ok (.iinc 6 1, 3) := by decide +kernel
theorem dX6_trustBehind_91 : decode cX6_trustBehind 91 = .ok (.goto (-59), 3) := by decide +kernel
theorem dX6_trustBehind_94 : decode cX6_trustBehind 94 = .ok (.aload_n 3, 1) := by decide +kernel
theorem dX6_trustBehind_95 : decode cX6_trustBehind 95 = .ok (.getfield 123, 3) := by decide +kernel
theorem dX6_trustBehind_98 : decode cX6_trustBehind 98 = .ok (.iload 5, 2) := by decide +kernel
theorem dX6_trustBehind_100 : decode cX6_trustBehind 100 = .ok (.isub, 1) := by decide +kernel
theorem dX6_trustBehind_101 : decode cX6_trustBehind 101 = .ok (.iconst 0, 1) := by decide +kernel
theorem dX6_trustBehind_102 : decode cX6_trustBehind 102 = .ok (.invokestatic 292, 3) := by decide +kernel
theorem dX6_trustBehind_105 : decode cX6_trustBehind 105 = .ok (.ireturn, 1) := by decide +kernel
theorem dX6_leftWith_0 : decode cX6_leftWith 0 = .ok (.iload_n 1, 1) := by decide +kernel
theorem dX6_leftWith_1 : decode cX6_leftWith 1 = .ok (.invokestatic 74, 3) := by decide +kernel
theorem dX6_leftWith_4 : decode cX6_leftWith 4 = .ok (.iload_n 2, 1) := by decide +kernel
theorem dX6_leftWith_5 : decode cX6_leftWith 5 = .ok (.invokestatic 143, 3) := by decide +kernel
theorem dX6_leftWith_8 : decode cX6_leftWith 8 = .ok (.aload_n 0, 1) := by decide +kernel
theorem dX6_leftWith_9 : decode cX6_leftWith 9 = .ok (.iload_n 1, 1) := by decide +kernel
theorem dX6_leftWith_10 : decode cX6_leftWith 10 = .ok (.iload_n 2, 1) := by decide +kernel
theorem dX6_leftWith_11 : decode cX6_leftWith 11 = .ok (.iconst 1, 1) := by decide +kernel
theorem dX6_leftWith_12 : decode cX6_leftWith 12 = .ok (.invokevirtual 147, 3) := by decide +kernel
theorem dX6_leftWith_15 : decode cX6_leftWith 15 = .ok (.ireturn, 1) := by decide +kernel
theorem dX6_digest_0 : decode cX6_digest 0 = .ok (.ldc2_w 295, 3) := by decide +kernel
theorem dX6_digest_3 : decode cX6_digest 3 = .ok (.lstore_n 1, 1) := by decide +kernel
theorem dX6_digest_4 : decode cX6_digest 4 = .ok (.iconst 0, 1) := by decide +kernel
theorem dX6_digest_5 : decode cX6_digest 5 = .ok (.istore_n 3, 1) := by decide +kernel
theorem dX6_digest_6 : decode cX6_digest 6 = .ok (.iload_n 3, 1) := by decide +kernel
theorem dX6_digest_7 : decode cX6_digest 7 = .ok (.bipush 12, 2) := by decide +kernel
theorem dX6_digest_9 : decode cX6_digest 9 = .ok (.if_icmp .gt 19, 3) := by decide +kernel
theorem dX6_digest_12 : decode cX6_digest 12 = .ok (.lload_n 1, 1) := by decide +kernel
theorem dX6_digest_13 : decode cX6_digest 13 = .ok (.aload_n 0, 1) := by decide +kernel
theorem dX6_digest_14 : decode cX6_digest 14 = .ok (.iload_n 3, 1) := by decide +kernel
theorem dX6_digest_15 : decode cX6_digest 15 = .ok (.invokevirtual 297, 3) := by decide +kernel
theorem dX6_digest_18 : decode cX6_digest 18 = .ok (.invokestatic 300, 3) := by decide +kernel
theorem dX6_digest_21 : decode cX6_digest 21 = .ok (.lstore_n 1, 1) := by decide +kernel
theorem dX6_digest_22 : decode cX6_digest 22 = .ok (.iinc 3 1, 3) := by decide +kernel
theorem dX6_digest_25 : decode cX6_digest 25 = .ok (.goto (-19), 3) := by decide +kernel
theorem dX6_digest_28 : decode cX6_digest 28 = .ok (.aload_n 0, 1) := by decide +kernel
theorem dX6_digest_29 : decode cX6_digest 29 = .ok (.lload_n 1, 1) := by decide +kernel
theorem dX6_digest_30 : decode cX6_digest 30 = .ok (.invokevirtual 304, 3) := by decide +kernel
theorem dX6_digest_33 : decode cX6_digest 33 = .ok (.lstore_n 1, 1) := by decide +kernel
theorem dX6_digest_34 : decode cX6_digest 34 = .ok (.aload_n 0, 1) := by decide +kernel
theorem dX6_digest_35 : decode cX6_digest 35 = .ok (.lload_n 1, 1) := by decide +kernel
theorem dX6_digest_36 : decode cX6_digest 36 = .ok (.invokevirtual 308, 3) := by decide +kernel
theorem dX6_digest_39 : decode cX6_digest 39 = .ok (.lstore_n 1, 1) := by decide +kernel
theorem dX6_digest_40 : decode cX6_digest 40 = .ok (.aload_n 0, 1) := by decide +kernel
theorem dX6_digest_41 : decode cX6_digest 41 = .ok (.lload_n 1, 1) := by decide +kernel
theorem dX6_digest_42 : decode cX6_digest 42 = .ok (.invokevirtual 311, 3) := by decide +kernel
theorem dX6_digest_45 : decode cX6_digest 45 = .ok (.lstore_n 1, 1) := by decide +kernel
theorem dX6_digest_46 : decode cX6_digest 46 = .ok (.iconst 0, 1) := by decide +kernel
theorem dX6_digest_47 : decode cX6_digest 47 = .ok (.istore_n 3, 1) := by decide +kernel
theorem dX6_digest_48 : decode cX6_digest 48 = .ok (.iload_n 3, 1) := by decide +kernel
theorem dX6_digest_49 : decode cX6_digest 49 = .ok (.aload_n 0, 1) := by decide +kernel
theorem dX6_digest_50 : decode cX6_digest 50 = .ok (.getfield 22, 3) := by decide +kernel
theorem dX6_digest_53 : decode cX6_digest 53 = .ok (.invokevirtual 51, 3) := by decide +kernel
theorem dX6_digest_56 : decode cX6_digest 56 = .ok (.if_icmp .ge 19, 3) := by decide +kernel
theorem dX6_digest_59 : decode cX6_digest 59 = .ok (.lload_n 1, 1) := by decide +kernel
theorem dX6_digest_60 : decode cX6_digest 60 = .ok (.aload_n 0, 1) := by decide +kernel
theorem dX6_digest_61 : decode cX6_digest 61 = .ok (.iload_n 3, 1) := by decide +kernel
theorem dX6_digest_62 : decode cX6_digest 62 = .ok (.invokevirtual 314, 3) := by decide +kernel
theorem dX6_digest_65 : decode cX6_digest 65 = .ok (.invokestatic 300, 3) := by decide +kernel
theorem dX6_digest_68 : decode cX6_digest 68 = .ok (.lstore_n 1, 1) := by decide +kernel
theorem dX6_digest_69 : decode cX6_digest 69 = .ok (.iinc 3 1, 3) := by decide +kernel
theorem dX6_digest_72 : decode cX6_digest 72 = .ok (.goto (-24), 3) := by decide +kernel
theorem dX6_digest_75 : decode cX6_digest 75 = .ok (.iconst 0, 1) := by decide +kernel
theorem dX6_digest_76 : decode cX6_digest 76 = .ok (.istore_n 3, 1) := by decide +kernel
theorem dX6_digest_77 : decode cX6_digest 77 = .ok (.iload_n 3, 1) := by decide +kernel
theorem dX6_digest_78 : decode cX6_digest 78 = .ok (.aload_n 0, 1) := by decide +kernel
theorem dX6_digest_79 : decode cX6_digest 79 = .ok (.getfield 10, 3) := by decide +kernel
theorem dX6_digest_82 : decode cX6_digest 82 = .ok (.invokevirtual 51, 3) := by decide +kernel
theorem dX6_digest_85 : decode cX6_digest 85 = .ok (.if_icmp .ge 21, 3) := by decide +kernel
theorem dX6_digest_88 : decode cX6_digest 88 = .ok (.lload_n 1, 1) := by decide +kernel
theorem dX6_digest_89 : decode cX6_digest 89 = .ok (.aload_n 0, 1) := by decide +kernel
theorem dX6_digest_90 : decode cX6_digest 90 = .ok (.iload_n 3, 1) := by decide +kernel
theorem dX6_digest_91 : decode cX6_digest 91 = .ok (.bipush 20, 2) := by decide +kernel
theorem dX6_digest_93 : decode cX6_digest 93 = .ok (.invokevirtual 317, 3) := by decide +kernel
theorem dX6_digest_96 : decode cX6_digest 96 = .ok (.invokestatic 300, 3) := by decide +kernel
theorem dX6_digest_99 : decode cX6_digest 99 = .ok (.lstore_n 1, 1) := by decide +kernel
theorem dX6_digest_100 : decode cX6_digest 100 = .ok (.iinc 3 1, 3) := by decide +kernel
theorem dX6_digest_103 : decode cX6_digest 103 = .ok (.goto (-26), 3) := by decide +kernel
theorem dX6_digest_106 : decode cX6_digest 106 = .ok (.lload_n 1, 1) := by decide +kernel
theorem dX6_digest_107 : decode cX6_digest 107 = .ok (.lreturn, 1) := by decide +kernel
theorem dX6_personAt_0 : decode cX6_personAt 0 = .ok (.iload_n 1, 1) := by decide +kernel
theorem dX6_personAt_1 : decode cX6_personAt 1 = .ok (.ifCond .lt 14, 3) := by decide +kernel
theorem dX6_personAt_4 : decode cX6_personAt 4 = .ok (.iload_n 1, 1) := by decide +kernel
theorem dX6_personAt_5 : decode cX6_personAt 5 = .ok (.aload_n 0, 1) := by decide +kernel
theorem dX6_personAt_6 : decode cX6_personAt 6 = .ok (.getfield 10, 3) := by decide +kernel
theorem dX6_personAt_9 : decode cX6_personAt 9 = .ok (.invokevirtual 51, 3) := by decide +kernel
theorem dX6_personAt_12 : decode cX6_personAt 12 = .ok (.if_icmp .lt 14, 3) := by decide +kernel
theorem dX6_personAt_15 : decode cX6_personAt 15 = .ok (.new 320, 3) := by decide +kernel
theorem dX6_personAt_18 : decode cX6_personAt 18 = .ok (.dup, 1) := by decide +kernel
theorem dX6_personAt_19 : decode cX6_personAt 19 = .ok (.ldc_w 322, 3) := by decide +kernel
theorem dX6_personAt_22 : decode cX6_personAt 22 = .ok (.invokespecial 324, 3) := by decide +kernel
theorem dX6_personAt_25 : decode cX6_personAt 25 = .ok (.athrow, 1) := by decide +kernel
theorem dX6_personAt_26 : decode cX6_personAt 26 = .ok (.aload_n 0, 1) := by decide +kernel
theorem dX6_personAt_27 : decode cX6_personAt 27 = .ok (.getfield 10, 3) := by decide +kernel
theorem dX6_personAt_30 : decode cX6_personAt 30 = .ok (.iload_n 1, 1) := by decide +kernel
theorem dX6_personAt_31 : decode cX6_personAt 31 = .ok (.invokevirtual 253, 3) := by decide +kernel
theorem dX6_personAt_34 : decode cX6_personAt 34 = .ok (.checkcast 62, 3) := by decide +kernel
theorem dX6_personAt_37 : decode cX6_personAt 37 = .ok (.areturn, 1) := by decide +kernel
theorem dX6_chargeAt_0 : decode cX6_chargeAt 0 = .ok (.iload_n 1, 1) := by decide +kernel
theorem dX6_chargeAt_1 : decode cX6_chargeAt 1 = .ok (.ifCond .lt 14, 3) := by decide +kernel
theorem dX6_chargeAt_4 : decode cX6_chargeAt 4 = .ok (.iload_n 1, 1) := by decide +kernel
theorem dX6_chargeAt_5 : decode cX6_chargeAt 5 = .ok (.aload_n 0, 1) := by decide +kernel
theorem dX6_chargeAt_6 : decode cX6_chargeAt 6 = .ok (.getfield 19, 3) := by decide +kernel
theorem dX6_chargeAt_9 : decode cX6_chargeAt 9 = .ok (.invokevirtual 51, 3) := by decide +kernel
theorem dX6_chargeAt_12 : decode cX6_chargeAt 12 = .ok (.if_icmp .lt 14, 3) := by decide +kernel
theorem dX6_chargeAt_15 : decode cX6_chargeAt 15 = .ok (.new 320, 3) := by decide +kernel
theorem dX6_chargeAt_18 : decode cX6_chargeAt 18 = .ok (.dup, 1) := by decide +kernel
theorem dX6_chargeAt_19 : decode cX6_chargeAt 19 = .ok (.ldc_w 325, 3) := by decide +kernel
theorem dX6_chargeAt_22 : decode cX6_chargeAt 22 = .ok (.invokespecial 324, 3) := by decide +kernel
theorem dX6_chargeAt_25 : decode cX6_chargeAt 25 = .ok (.athrow, 1) := by decide +kernel
theorem dX6_chargeAt_26 : decode cX6_chargeAt 26 = .ok (.aload_n 0, 1) := by decide +kernel
theorem dX6_chargeAt_27 : decode cX6_chargeAt 27 = .ok (.getfield 19, 3) := by decide +kernel
theorem dX6_chargeAt_30 : decode cX6_chargeAt 30 = .ok (.iload_n 1, 1) := by decide +kernel
theorem dX6_chargeAt_31 : decode cX6_chargeAt 31 = .ok (.invokevirtual 253, 3) := by decide +kernel
theorem dX6_chargeAt_34 : decode cX6_chargeAt 34 = .ok (.checkcast 155, 3) := by decide +kernel
theorem dX6_chargeAt_37 : decode cX6_chargeAt 37 = .ok (.areturn, 1) := by decide +kernel
theorem dX6_receiptAt_0 : decode cX6_receiptAt 0 = .ok (.iload_n 1, 1) := by decide +kernel
theorem dX6_receiptAt_1 : decode cX6_receiptAt 1 = .ok (.ifCond .lt 14, 3) := by decide +kernel
theorem dX6_receiptAt_4 : decode cX6_receiptAt 4 = .ok (.iload_n 1, 1) := by decide +kernel
theorem dX6_receiptAt_5 : decode cX6_receiptAt 5 = .ok (.aload_n 0, 1) := by decide +kernel
theorem dX6_receiptAt_6 : decode cX6_receiptAt 6 = .ok (.getfield 22, 3) := by decide +kernel
theorem dX6_receiptAt_9 : decode cX6_receiptAt 9 = .ok (.invokevirtual 51, 3) := by decide +kernel
theorem dX6_receiptAt_12 : decode cX6_receiptAt 12 = .ok (.if_icmp .lt 14, 3) := by decide +kernel
theorem dX6_receiptAt_15 : decode cX6_receiptAt 15 = .ok (.new 320, 3) := by decide +kernel
theorem dX6_receiptAt_18 : decode cX6_receiptAt 18 = .ok (.dup, 1) := by decide +kernel
theorem dX6_receiptAt_19 : decode cX6_receiptAt 19 = .ok (.ldc_w 327, 3) := by decide +kernel
theorem dX6_receiptAt_22 : decode cX6_receiptAt 22 = .ok (.invokespecial 324, 3) := by decide +kernel
theorem dX6_receiptAt_25 : decode cX6_receiptAt 25 = .ok (.athrow, 1) := by decide +kernel
theorem dX6_receiptAt_26 : decode cX6_receiptAt 26 = .ok (.aload_n 0, 1) := by decide +kernel
theorem dX6_receiptAt_27 : decode cX6_receiptAt 27 = .ok (.getfield 22, 3) := by decide +kernel
theorem dX6_receiptAt_30 : decode cX6_receiptAt 30 = .ok (.iload_n 1, 1) := by decide +kernel
theorem dX6_receiptAt_31 : decode cX6_receiptAt 31 = .ok (.invokevirtual 253, 3) := by decide +kernel
theorem dX6_receiptAt_34 : decode cX6_receiptAt 34 = .ok (.checkcast 177, 3) := by decide +kernel
theorem dX6_receiptAt_37 : decode cX6_receiptAt 37 = .ok (.areturn, 1) := by decide +kernel
theorem dX6_checkKind_0 : decode cX6_checkKind 0 = .ok (.iload_n 0, 1) := by decide +kernel
theorem dX6_checkKind_1 : decode cX6_checkKind 1 = .ok (.ifCond .lt 8, 3) := by decide +kernel
theorem dX6_checkKind_4 : decode cX6_checkKind 4 = .ok (.iload_n 0, 1) := by decide +kernel
theorem dX6_checkKind_5 : decode cX6_checkKind 5 = .ok (.iconst 4, 1) := by decide +kernel
theorem dX6_checkKind_6 : decode cX6_checkKind 6 = .ok (.if_icmp .lt 14, 3) := by decide +kernel
theorem dX6_checkKind_9 : decode cX6_checkKind 9 = .ok (.new 320, 3) := by decide +kernel
theorem dX6_checkKind_12 : decode cX6_checkKind 12 = .ok (.dup, 1) := by decide +kernel
theorem dX6_checkKind_13 : decode cX6_checkKind 13 = .ok (.ldc_w 329, 3) := by decide +kernel
theorem dX6_checkKind_16 : decode cX6_checkKind 16 = .ok (.invokespecial 324, 3) := by decide +kernel
theorem dX6_checkKind_19 : decode cX6_checkKind 19 = .ok (.athrow, 1) := by decide +kernel
theorem dX6_checkKind_20 : decode cX6_checkKind 20 = .ok (.return_, 1) := by decide +kernel
theorem dX6_checkLand_0 : decode cX6_checkLand 0 = .ok (.iload_n 0, 1) := by decide +kernel
theorem dX6_checkLand_1 : decode cX6_checkLand 1 = .ok (.ifCond .lt 8, 3) := by decide +kernel
theorem dX6_checkLand_4 : decode cX6_checkLand 4 = .ok (.iload_n 0, 1) := by decide +kernel
theorem dX6_checkLand_5 : decode cX6_checkLand 5 = .ok (.iconst 3, 1) := by decide +kernel
theorem dX6_checkLand_6 : decode cX6_checkLand 6 = .ok (.if_icmp .lt 14, 3) := by decide +kernel
theorem dX6_checkLand_9 : decode cX6_checkLand 9 = .ok (.new 320, 3) := by decide +kernel
theorem dX6_checkLand_12 : decode cX6_checkLand 12 = .ok (.dup, 1) := by decide +kernel
theorem dX6_checkLand_13 : decode cX6_checkLand 13 = .ok (.ldc_w 331, 3) := by decide +kernel
theorem dX6_checkLand_16 : decode cX6_checkLand 16 = .ok (.invokespecial 324, 3) := by decide +kernel
theorem dX6_checkLand_19 : decode cX6_checkLand 19 = .ok (.athrow, 1) := by decide +kernel
theorem dX6_checkLand_20 : decode cX6_checkLand 20 = .ok (.return_, 1) := by decide +kernel
theorem dX6_checkPeriod_0 : decode cX6_checkPeriod 0 = .ok (.iload_n 0, 1) := by decide +kernel
theorem dX6_checkPeriod_1 : decode cX6_checkPeriod 1 = .ok (.ifCond .lt 8, 3) := by decide +kernel
theorem dX6_checkPeriod_4 : decode cX6_checkPeriod 4 = .ok (.iload_n 0, 1) := by decide +kernel
theorem dX6_checkPeriod_5 : decode cX6_checkPeriod 5 = .ok (.iconst 4, 1) := by decide +kernel
theorem dX6_checkPeriod_6 : decode cX6_checkPeriod 6 = .ok (.if_icmp .lt 14, 3) := by decide +kernel
theorem dX6_checkPeriod_9 : decode cX6_checkPeriod 9 = .ok (.new 320, 3) := by decide +kernel
theorem dX6_checkPeriod_12 : decode cX6_checkPeriod 12 = .ok (.dup, 1) := by decide +kernel
theorem dX6_checkPeriod_13 : decode cX6_checkPeriod 13 = .ok (.ldc_w 333, 3) := by decide +kernel
theorem dX6_checkPeriod_16 : decode cX6_checkPeriod 16 = .ok (.invokespecial 324, 3) := by decide +kernel
theorem dX6_checkPeriod_19 : decode cX6_checkPeriod 19 = .ok (.athrow, 1) := by decide +kernel
theorem dX6_checkPeriod_20 : decode cX6_checkPeriod 20 = .ok (.return_, 1) := by decide +kernel
theorem dX6_checkRange_0 : decode cX6_checkRange 0 = .ok (.iload_n 0, 1) := by decide +kernel
theorem dX6_checkRange_1 : decode cX6_checkRange 1 = .ok (.iload_n 1, 1) := by decide +kernel
theorem dX6_checkRange_2 : decode cX6_checkRange 2 = .ok (.if_icmp .lt 8, 3) := by decide +kernel
theorem dX6_checkRange_5 : decode cX6_checkRange 5 = .ok (.iload_n 0, 1) := by decide +kernel
theorem dX6_checkRange_6 : decode cX6_checkRange 6 = .ok (.iload_n 2, 1) := by decide +kernel
theorem dX6_checkRange_7 : decode cX6_checkRange 7 = .ok (.if_icmp .le 14, 3) := by decide +kernel
theorem dX6_checkRange_10 : decode cX6_checkRange 10 = .ok (.new 86, 3) := by decide +kernel
theorem dX6_checkRange_13 : decode cX6_checkRange 13 = .ok (.dup, 1) := by decide +kernel
theorem dX6_checkRange_14 : decode cX6_checkRange 14 = .ok (.ldc_w 335, 3) := by decide +kernel
theorem dX6_checkRange_17 : decode cX6_checkRange 17 = .ok (.invokespecial 90, 3) := by decide +kernel
theorem dX6_checkRange_20 : decode cX6_checkRange 20 = .ok (.athrow, 1) := by decide +kernel
theorem dX6_checkRange_21 : decode cX6_checkRange 21 = .ok (.return_, 1) := by decide +kernel
theorem dX6_checkReceipt_0 : decode cX6_checkReceipt 0 = .ok (.iload_n 0, 1) := by decide +kernel
theorem dX6_checkReceipt_1 : decode cX6_checkReceipt 1 = .ok (.iconst 1, 1) := by decide +kernel
theorem dX6_checkReceipt_2 : decode cX6_checkReceipt 2 = .ok (.sipush 9999, 3) := by decide +kernel
theorem dX6_checkReceipt_5 : decode cX6_checkReceipt 5 = .ok (.invokestatic 78, 3) := by decide +kernel
theorem dX6_checkReceipt_8 : decode cX6_checkReceipt 8 = .ok (.iload_n 1, 1) := by decide +kernel
theorem dX6_checkReceipt_9 : decode cX6_checkReceipt 9 = .ok (.iconst 0, 1) := by decide +kernel
theorem dX6_checkReceipt_10 : decode cX6_checkReceipt 10 = .ok (.bipush 119, 2) := by decide +kernel
theorem dX6_checkReceipt_12 : decode cX6_checkReceipt 12 = .ok (.invokestatic 78, 3) := by decide +kernel
theorem dX6_checkReceipt_15 : decode cX6_checkReceipt 15 = .ok (.iload_n 2, 1) := by decide +kernel
theorem dX6_checkReceipt_16 : decode cX6_checkReceipt 16 = .ok (.iconst 0, 1) := by decide +kernel
theorem dX6_checkReceipt_17 : decode cX6_checkReceipt 17 = .ok (.bipush 9, 2) := by decide +kernel
theorem dX6_checkReceipt_19 : decode cX6_checkReceipt 19 = .ok (.invokestatic 78, 3) := by decide +kernel
theorem dX6_checkReceipt_22 : decode cX6_checkReceipt 22 = .ok (.return_, 1) := by decide +kernel
theorem dX6_checkState_0 : decode cX6_checkState 0 = .ok (.aload_n 0, 1) := by decide +kernel
theorem dX6_checkState_1 : decode cX6_checkState 1 = .ok (.getfield 197, 3) := by decide +kernel
theorem dX6_checkState_4 : decode cX6_checkState 4 = .ok (.iload_n 1, 1) := by decide +kernel
theorem dX6_checkState_5 : decode cX6_checkState 5 = .ok (.if_icmp .eq 14, 3) := by decide +kernel
theorem dX6_checkState_8 : decode cX6_checkState 8 = .ok (.new 55, 3) := by decide +kernel
theorem dX6_checkState_11 : decode cX6_checkState 11 = .ok (.dup, 1) := by decide +kernel
theorem dX6_checkState_12 : decode cX6_checkState 12 = .ok (.ldc_w 337, 3) := by decide +kernel
theorem dX6_checkState_15 : decode cX6_checkState 15 = .ok (.invokespecial 59, 3) := by decide +kernel
theorem dX6_checkState_18 : decode cX6_checkState 18 = .ok (.athrow, 1) := by decide +kernel
theorem dX6_checkState_19 : decode cX6_checkState 19 = .ok (.return_, 1) := by decide +kernel
theorem dX6_checkNextApprover_0 : decode cX6_checkNextApprover 0 = .ok (.aload_n 0, 1) := by decide +kernel
theorem dX6_checkNextApprover_1 : decode cX6_checkNextApprover 1 = .ok (.aload_n 1, 1) := by decide +kernel
theorem dX6_checkNextApprover_2 : decode cX6_checkNextApprover 2 = .ok (.invokevirtual 235, 3) := by decide +kernel
theorem dX6_checkNextApprover_5 : decode cX6_checkNextApprover 5 = .ok (.aload_n 2, 1) := by decide +kernel
theorem dX6_checkNextApprover_6 : decode cX6_checkNextApprover 6 = .ok (.if_acmp .eq 14, 3) := by decide +kernel
theorem dX6_checkNextApprover_9 : decode cX6_checkNextApprover 9 = .ok (.new 55, 3) := by decide +kernel
theorem dX6_checkNextApprover_12 : decode cX6_checkNextApprover 12 = .ok (.dup, 1) := by decide +kernel
theorem dX6_checkNextApprover_13 : decode cX6_checkNextApprover 13 = .ok (.ldc_w 339, 3) := by decide +kernel
theorem dX6_checkNextApprover_16 : decode cX6_checkNextApprover 16 = .ok (.invokespecial 59, 3) := by decide +kernel
theorem dX6_checkNextApprover_19 : decode cX6_checkNextApprover 19 = .ok (.athrow, 1) := by decide +kernel
theorem dX6_checkNextApprover_20 : decode cX6_checkNextApprover 20 = .ok (.return_, 1) := by decide +kernel
theorem dX6_numberOf_0 : decode cX6_numberOf 0 = .ok (.aload_n 0, 1) := by decide +kernel
theorem dX6_numberOf_1 : decode cX6_numberOf 1 = .ok (.ifnonnull 7, 3) := by decide +kernel
theorem dX6_numberOf_4 : decode cX6_numberOf 4 = .ok (.iconst (-1), 1) := by decide +kernel
theorem dX6_numberOf_5 : decode cX6_numberOf 5 = .ok (.goto 7, 3) := by decide +kernel
theorem dX6_numberOf_8 : decode cX6_numberOf 8 = .ok (.aload_n 0, 1) := by decide +kernel
theorem dX6_numberOf_9 : decode cX6_numberOf 9 = .ok (.getfield 341, 3) := by decide +kernel
theorem dX6_numberOf_12 : decode cX6_numberOf 12 = .ok (.ireturn, 1) := by decide +kernel
theorem dX6_tripToday_0 : decode cX6_tripToday 0 = .ok (.iconst 0, 1) := by decide +kernel
theorem dX6_tripToday_1 : decode cX6_tripToday 1 = .ok (.istore_n 3, 1) := by decide +kernel
theorem dX6_tripToday_2 : decode cX6_tripToday 2 = .ok (.iload_n 3, 1) := by decide +kernel
theorem dX6_tripToday_3 : decode cX6_tripToday 3 = .ok (.aload_n 0, 1) := by decide +kernel
theorem dX6_tripToday_4 : decode cX6_tripToday 4 = .ok (.getfield 16, 3) := by decide +kernel
theorem dX6_tripToday_7 : decode cX6_tripToday 7 = .ok (.invokevirtual 51, 3) := by decide +kernel
theorem dX6_tripToday_10 : decode cX6_tripToday 10 = .ok (.if_icmp .ge 67, 3) := by decide +kernel
theorem dX6_tripToday_13 : decode cX6_tripToday 13 = .ok (.aload_n 0, 1) := by decide +kernel
theorem dX6_tripToday_14 : decode cX6_tripToday 14 = .ok (.getfield 16, 3) := by decide +kernel
theorem dX6_tripToday_17 : decode cX6_tripToday 17 = .ok (.iload_n 3, 1) := by decide +kernel
theorem dX6_tripToday_18 : decode cX6_tripToday 18 = .ok (.invokevirtual 253, 3) := by decide +kernel
theorem dX6_tripToday_21 : decode cX6_tripToday 21 = .ok (.checkcast 110, 3) := by decide +kernel
theorem dX6_tripToday_24 : decode cX6_tripToday 24 = .ok (.astore 4, 2) := by decide +kernel
theorem dX6_tripToday_26 : decode cX6_tripToday 26 = .ok (.aload 4, 2) := by decide +kernel
theorem dX6_tripToday_28 : decode cX6_tripToday 28 = .ok (.getfield 344, 3) := by decide +kernel
theorem dX6_tripToday_31 : decode cX6_tripToday 31 = .ok (.aload_n 1, 1) := by decide +kernel
theorem dX6_tripToday_32 : decode cX6_tripToday 32 = .ok (.if_acmp .ne 39, 3) := by decide +kernel
theorem dX6_tripToday_35 : decode cX6_tripToday 35 = .ok (.aload 4, 2) := by decide +kernel
theorem dX6_tripToday_37 : decode cX6_tripToday 37 = .ok (.getfield 345, 3) := by decide +kernel
theorem dX6_tripToday_40 : decode cX6_tripToday 40 = .ok (.iload_n 2, 1) := by decide +kernel
theorem dX6_tripToday_41 : decode cX6_tripToday 41 = .ok (.if_icmp .ne 30, 3) := by decide +kernel
theorem dX6_tripToday_44 : decode cX6_tripToday 44 = .ok (.aload 4, 2) := by decide +kernel
theorem dX6_tripToday_46 : decode cX6_tripToday 46 = .ok (.getfield 348, 3) := by decide +kernel
theorem dX6_tripToday_49 : decode cX6_tripToday 49 = .ok (.aload_n 0, 1) := by decide +kernel
theorem dX6_tripToday_50 : decode cX6_tripToday 50 = .ok (.getfield 43, 3) := by decide +kernel
theorem dX6_tripToday_53 : decode cX6_tripToday 53 = .ok (.if_icmp .gt 18, 3) := by decide +kernel
theorem dX6_tripToday_56 : decode cX6_tripToday 56 = .ok (.aload_n 0, 1) := by decide +kernel
theorem dX6_tripToday_57 : decode cX6_tripToday 57 = .ok (.getfield 43, 3) := by decide +kernel
theorem dX6_tripToday_60 : decode cX6_tripToday 60 = .ok (.aload 4, 2) := by decide +kernel
theorem dX6_tripToday_62 : decode cX6_tripToday 62 = .ok (.getfield 351, 3) := by decide +kernel
theorem dX6_tripToday_65 : decode cX6_tripToday 65 = .ok (.if_icmp .gt 6, 3) := by decide +kernel
theorem dX6_tripToday_68 : decode cX6_tripToday 68 = .ok (.aload 4, 2) := by decide +kernel
theorem dX6_tripToday_70 : decode cX6_tripToday 70 = .ok (.areturn, 1) := by decide +kernel
theorem dX6_tripToday_71 : decode cX6_tripToday 71 = .ok (.iinc 3 1, 3) := by decide +kernel
theorem dX6_tripToday_74 : decode cX6_tripToday 74 = .ok (.goto (-72), 3) := by decide +kernel
theorem dX6_tripToday_77 : decode cX6_tripToday 77 = .ok (.aconst_null, 1) := by decide +kernel
theorem dX6_tripToday_78 : decode cX6_tripToday 78 = .ok (.areturn, 1) := by decide +kernel
theorem dX6_spendableBy_0 : decode cX6_spendableBy 0 = .ok (.aload_n 0, 1) := by decide +kernel
theorem dX6_spendableBy_1 : decode cX6_spendableBy 1 = .ok (.aload_n 1, 1) := by decide +kernel
theorem dX6_spendableBy_2 : decode cX6_spendableBy 2 = .ok (.iload_n 3, 1) := by decide +kernel
theorem dX6_spendableBy_3 : decode cX6_spendableBy 3 = .ok (.invokevirtual 160, 3) := by decide +kernel
theorem dX6_spendableBy_6 : decode cX6_spendableBy 6 = .ok (.astore 4, 2) := by decide +kernel
theorem dX6_spendableBy_8 : decode cX6_spendableBy 8 = .ok (.aload 4, 2) := by decide +kernel
theorem dX6_spendableBy_10 : decode cX6_spendableBy 10 = .ok (.ifnull 16, 3) := by decide +kernel
theorem dX6_spendableBy_13 : decode cX6_spendableBy 13 = .ok (.aload 4, 2) := by decide +kernel
theorem dX6_spendableBy_15 : decode cX6_spendableBy 15 = .ok (.getfield 354, 3) := by decide +kernel
theorem dX6_spendableBy_18 : decode cX6_spendableBy 18 = .ok (.aload_n 0, 1) := by decide +kernel
theorem dX6_spendableBy_19 : decode cX6_spendableBy 19 = .ok (.aload 4, 2) := by decide +kernel
theorem dX6_spendableBy_21 : decode cX6_spendableBy 21 = .ok (.invokevirtual 357, 3) := by decide +kernel
theorem dX6_spendableBy_24 : decode cX6_spendableBy 24 = .ok (.isub, 1) := by decide +kernel
theorem dX6_spendableBy_25 : decode cX6_spendableBy 25 = .ok (.ireturn, 1) := by decide +kernel
theorem dX6_spendableBy_26 : decode cX6_spendableBy 26 = .ok (.aload_n 0, 1) := by decide +kernel
theorem dX6_spendableBy_27 : decode cX6_spendableBy 27 = .ok (.getfield 30, 3) := by decide +kernel
theorem dX6_spendableBy_30 : decode cX6_spendableBy 30 = .ok (.aload_n 1, 1) := by decide +kernel
theorem dX6_spendableBy_31 : decode cX6_spendableBy 31 = .ok (.getfield 71, 3) := by decide +kernel
theorem dX6_spendableBy_34 : decode cX6_spendableBy 34 = .ok (.iload_n 2, 1) := by decide +kernel
theorem dX6_spendableBy_35 : decode cX6_spendableBy 35 = .ok (.invokevirtual 361, 3) := by decide +kernel
theorem dX6_spendableBy_38 : decode cX6_spendableBy 38 = .ok (.iconst 5, 1) := by decide +kernel
theorem dX6_spendableBy_39 : decode cX6_spendableBy 39 = .ok (.aload_n 1, 1) := by decide +kernel
theorem dX6_spendableBy_40 : decode cX6_spendableBy 40 = .ok (.getfield 123, 3) := by decide +kernel
theorem dX6_spendableBy_43 : decode cX6_spendableBy 43 = .ok (.iadd, 1) := by decide +kernel
theorem dX6_spendableBy_44 : decode cX6_spendableBy 44 = .ok (.imul, 1) := by decide +kernel
theorem dX6_spendableBy_45 : decode cX6_spendableBy 45 = .ok (.bipush 10, 2) := by decide +kernel
theorem dX6_spendableBy_47 : decode cX6_spendableBy 47 = .ok (.idiv, 1) := by decide +kernel
theorem dX6_spendableBy_48 : decode cX6_spendableBy 48 = .ok (.istore 5, 2) := by decide +kernel
theorem dX6_spendableBy_50 : decode cX6_spendableBy 50 = .ok (.iload 5, 2) := by decide +kernel
theorem dX6_spendableBy_52 : decode cX6_spendableBy 52 = .ok (.aload_n 0, 1) := by decide +kernel
theorem dX6_spendableBy_53 : decode cX6_spendableBy 53 = .ok (.aload_n 1, 1) := by decide +kernel
theorem dX6_spendableBy_54 : decode cX6_spendableBy 54 = .ok (.iload_n 2, 1) := by decide +kernel
theorem dX6_spendableBy_55 : decode cX6_spendableBy 55 = .ok (.invokevirtual 364, 3) := by decide +kernel
theorem dX6_spendableBy_58 : decode cX6_spendableBy 58 = .ok (.isub, 1) := by decide +kernel
theorem dX6_spendableBy_59 : decode cX6_spendableBy 59 = .ok (.ireturn, 1) := by decide +kernel
theorem dX6_spentOnTrip_0 : decode cX6_spentOnTrip 0 = .ok (.iconst 0, 1) := by decide +kernel
theorem dX6_spentOnTrip_1 : decode cX6_spentOnTrip 1 = .ok (.istore_n 2, 1) := by decide +kernel
theorem dX6_spentOnTrip_2 : decode cX6_spentOnTrip 2 = .ok (.iconst 0, 1) := by decide +kernel
theorem dX6_spentOnTrip_3 : decode cX6_spentOnTrip 3 = .ok (.istore_n 3, 1) := by decide +kernel
theorem dX6_spentOnTrip_4 : decode cX6_spentOnTrip 4 = .ok (.iload_n 3, 1) := by decide +kernel
theorem dX6_spentOnTrip_5 : decode cX6_spentOnTrip 5 = .ok (.aload_n 0, 1) := by decide +kernel
theorem dX6_spentOnTrip_6 : decode cX6_spentOnTrip 6 = .ok (.getfield 19, 3) := by decide +kernel
theorem dX6_spentOnTrip_9 : decode cX6_spentOnTrip 9 = .ok (.invokevirtual 51, 3) := by decide +kernel
theorem dX6_spentOnTrip_12 : decode cX6_spentOnTrip 12 = .ok (.if_icmp .ge 48, 3) := by decide +kernel
theorem dX6_spentOnTrip_15 : decode cX6_spentOnTrip 15 = .ok (.aload_n 0, 1) := by decide +kernel
theorem dX6_spentOnTrip_16 : decode cX6_spentOnTrip 16 = .ok (.getfield 19, 3) := by decide +kernel
theorem dX6_spentOnTrip_19 : decode cX6_spentOnTrip 19 = .ok (.iload_n 3, 1) := by decide +kernel
theorem dX6_spentOnTrip_20 : decode cX6_spentOnTrip 20 = .ok (.invokevirtual 253, 3) := by decide +kernel
theorem dX6_spentOnTrip_23 : decode cX6_spentOnTrip 23 = .ok (.checkcast 155, 3) := by decide +kernel
theorem dX6_spentOnTrip_26 : decode cX6_spentOnTrip 26 = .ok (.astore 4, 2) := by decide +kernel
theorem dX6_spentOnTrip_28 : decode cX6_spentOnTrip 28 = .ok (.aload 4, 2) := by decide +kernel
theorem dX6_spentOnTrip_30 : decode cX6_spentOnTrip 30 = .ok (.getfield 164, 3) := by decide +kernel
theorem dX6_spentOnTrip_33 : decode cX6_spentOnTrip 33 = .ok (.aload_n 1, 1) := by decide +kernel
theorem dX6_spentOnTrip_34 : decode cX6_spentOnTrip 34 = .ok (.if_acmp .ne 20, 3) := by decide +kernel
theorem dX6_spentOnTrip_37 : decode cX6_spentOnTrip 37 = .ok (.aload 4, 2) := by decide +kernel
theorem dX6_spentOnTrip_39 : decode cX6_spentOnTrip 39 = .ok (.getfield 197, 3) := by decide +kernel
theorem dX6_spentOnTrip_42 : decode cX6_spentOnTrip 42 = .ok (.iconst 3, 1) := by decide +kernel
theorem dX6_spentOnTrip_43 : decode cX6_spentOnTrip 43 = .ok (.if_icmp .eq 11, 3) := by decide +kernel
theorem dX6_spentOnTrip_46 : decode cX6_spentOnTrip 46 = .ok (.iload_n 2, 1) := by decide +kernel
theorem dX6_spentOnTrip_47 : decode cX6_spentOnTrip 47 = .ok (.aload 4, 2) := by decide +kernel
theorem dX6_spentOnTrip_49 : decode cX6_spentOnTrip 49 = .ok (.getfield 217, 3) := by decide +kernel
theorem dX6_spentOnTrip_52 : decode cX6_spentOnTrip 52 = .ok (.iadd, 1) := by decide +kernel
theorem dX6_spentOnTrip_53 : decode cX6_spentOnTrip 53 = .ok (.istore_n 2, 1) := by decide +kernel
theorem dX6_spentOnTrip_54 : decode cX6_spentOnTrip 54 = .ok (.iinc 3 1, 3) := by decide +kernel
theorem dX6_spentOnTrip_57 : decode cX6_spentOnTrip 57 = .ok (.goto (-53), 3) := by decide +kernel
theorem dX6_spentOnTrip_60 : decode cX6_spentOnTrip 60 = .ok (.iload_n 2, 1) := by decide +kernel
theorem dX6_spentOnTrip_61 : decode cX6_spentOnTrip 61 = .ok (.ireturn, 1) := by decide +kernel
theorem dX6_spentOffTrips_0 : decode cX6_spentOffTrips 0 = .ok (.iconst 0, 1) := by decide +kernel
theorem dX6_spentOffTrips_1 : decode cX6_spentOffTrips 1 = .ok (.istore_n 3, 1) := by decide +kernel
theorem dX6_spentOffTrips_2 : decode cX6_spentOffTrips 2 = .ok (.iconst 0, 1) := by decide +kernel
theorem dX6_spentOffTrips_3 : decode cX6_spentOffTrips 3 = .ok (.istore 4, 2) := by decide +kernel
theorem dX6_spentOffTrips_5 : decode cX6_spentOffTrips 5 = .ok (.iload 4, 2) := by decide +kernel
theorem dX6_spentOffTrips_7 : decode cX6_spentOffTrips 7 = .ok (.aload_n 0, 1) := by decide +kernel
theorem dX6_spentOffTrips_8 : decode cX6_spentOffTrips 8 = .ok (.getfield 19, 3) := by decide +kernel
theorem dX6_spentOffTrips_11 : decode cX6_spentOffTrips 11 = .ok (.invokevirtual 51, 3) := by decide +kernel
theorem dX6_spentOffTrips_14 : decode cX6_spentOffTrips 14 = .ok (.if_icmp .ge 93, 3) := by decide +kernel
theorem dX6_spentOffTrips_17 : decode cX6_spentOffTrips 17 = .ok (.aload_n 0, 1) := by decide +kernel
theorem dX6_spentOffTrips_18 : decode cX6_spentOffTrips 18 = .ok (.getfield 19, 3) := by decide +kernel
theorem dX6_spentOffTrips_21 : decode cX6_spentOffTrips 21 = .ok (.iload 4, 2) := by decide +kernel
theorem dX6_spentOffTrips_23 : decode cX6_spentOffTrips 23 = .ok (.invokevirtual 253, 3) := by decide +kernel
theorem dX6_spentOffTrips_26 : decode cX6_spentOffTrips 26 = .ok (.checkcast 155, 3) := by decide +kernel
theorem dX6_spentOffTrips_29 : decode cX6_spentOffTrips 29 = .ok (.astore 5, 2) := by decide +kernel
theorem dX6_spentOffTrips_31 : decode cX6_spentOffTrips 31 = .ok (.aload 5, 2) := by decide +kernel
theorem dX6_spentOffTrips_33 : decode cX6_spentOffTrips 33 = .ok (.getfield 164, 3) := by decide +kernel
theorem dX6_spentOffTrips_36 : decode cX6_spentOffTrips 36 = .ok (.ifnonnull 31, 3) := by decide +kernel
theorem dX6_spentOffTrips_39 : decode cX6_spentOffTrips 39 = .ok (.aload 5, 2) := by decide +kernel
theorem dX6_spentOffTrips_41 : decode cX6_spentOffTrips 41 = .ok (.getfield 197, 3) := by decide +kernel
theorem dX6_spentOffTrips_44 : decode cX6_spentOffTrips 44 = .ok (.iconst 3, 1) := by decide +kernel
theorem dX6_spentOffTrips_45 : decode cX6_spentOffTrips 45 = .ok (.if_icmp .eq 22, 3) := by decide +kernel
theorem dX6_spentOffTrips_48 : decode cX6_spentOffTrips 48 = .ok (.aload_n 0, 1) := by decide +kernel
theorem dX6_spentOffTrips_49 : decode cX6_spentOffTrips 49 = .ok (.getfield 43, 3) := by decide +kernel
theorem dX6_spentOffTrips_52 : decode cX6_spentOffTrips 52 = .ok (.aload 5, 2) := by decide +kernel
theorem dX6_spentOffTrips_54 : decode cX6_spentOffTrips 54 = .ok (.getfield 220, 3) := by decide +kernel
theorem dX6_spentOffTrips_57 : decode cX6_spentOffTrips 57 = .ok (.isub, 1) := by decide +kernel
theorem dX6_spentOffTrips_58 : decode cX6_spentOffTrips 58 = .ok (.bipush 10, 2) := by decide +kernel
theorem dX6_spentOffTrips_60 : decode cX6_spentOffTrips 60 = .ok (.if_icmp .ge 7, 3) := by decide +kernel
theorem dX6_spentOffTrips_63 : decode cX6_spentOffTrips 63 = .ok (.iconst 1, 1) := by decide +kernel
theorem dX6_spentOffTrips_64 : decode cX6_spentOffTrips 64 = .ok (.goto 4, 3) := by decide +kernel
theorem dX6_spentOffTrips_67 : decode cX6_spentOffTrips 67 = .ok (.iconst 0, 1) := by decide +kernel
theorem dX6_spentOffTrips_68 : decode cX6_spentOffTrips 68 = .ok (.istore 6, 2) := by decide +kernel
theorem dX6_spentOffTrips_70 : decode cX6_spentOffTrips 70 = .ok (.iload 6, 2) := by decide +kernel
theorem dX6_spentOffTrips_72 : decode cX6_spentOffTrips 72 = .ok (.ifCond .eq 29, 3) := by decide +kernel
theorem dX6_spentOffTrips_75 : decode cX6_spentOffTrips 75 = .ok (.aload 5, 2) := by decide +kernel
theorem dX6_spentOffTrips_77 : decode cX6_spentOffTrips 77 = .ok (.getfield 211, 3) := by decide +kernel
theorem dX6_spentOffTrips_80 : decode cX6_spentOffTrips 80 = .ok (.aload_n 1, 1) := by decide +kernel
theorem dX6_spentOffTrips_81 : decode cX6_spentOffTrips 81 = .ok (.if_acmp .ne 20, 3) := by decide +kernel
theorem dX6_spentOffTrips_84 : decode cX6_spentOffTrips 84 = .ok (.aload 5, 2) := by decide +kernel
theorem dX6_spentOffTrips_86 : decode cX6_spentOffTrips 86 = .ok (.getfield 214, 3) := by decide +kernel
theorem dX6_spentOffTrips_89 : decode cX6_spentOffTrips 89 = .ok (.iload_n 2, 1) := by decide +kernel
theorem dX6_spentOffTrips_90 : decode cX6_spentOffTrips 90 = .ok (.if_icmp .ne 11, 3) := by decide +kernel
theorem dX6_spentOffTrips_93 : decode cX6_spentOffTrips 93 = .ok (.iload_n 3, 1) := by decide +kernel
theorem dX6_spentOffTrips_94 : decode cX6_spentOffTrips 94 = .ok (.aload 5, 2) := by decide +kernel
theorem dX6_spentOffTrips_96 : decode cX6_spentOffTrips 96 = .ok (.getfield 217, 3) := by decide +kernel
theorem dX6_spentOffTrips_99 : decode cX6_spentOffTrips 99 = .ok (.iadd, 1) := by decide +kernel
theorem dX6_spentOffTrips_100 : decode cX6_spentOffTrips 100 = .ok (.istore_n 3, 1) := by decide +kernel
theorem dX6_spentOffTrips_101 : decode cX6_spentOffTrips 101 = .ok (.iinc 4 1, 3) := by decide +kernel
theorem dX6_spentOffTrips_104 : decode cX6_spentOffTrips 104 = .ok (.goto (-99), 3) := by decide +kernel
theorem dX6_spentOffTrips_107 : decode cX6_spentOffTrips 107 = .ok (.iload_n 3, 1) := by decide +kernel
theorem dX6_spentOffTrips_108 : decode cX6_spentOffTrips 108 = .ok (.ireturn, 1) := by decide +kernel
theorem dX6_leftOf_0 : decode cX6_leftOf 0 = .ok (.iconst 0, 1) := by decide +kernel
theorem dX6_leftOf_1 : decode cX6_leftOf 1 = .ok (.istore 4, 2) := by decide +kernel
theorem dX6_leftOf_3 : decode cX6_leftOf 3 = .ok (.iconst 0, 1) := by decide +kernel
theorem dX6_leftOf_4 : decode cX6_leftOf 4 = .ok (.istore 5, 2) := by decide +kernel
theorem dX6_leftOf_6 : decode cX6_leftOf 6 = .ok (.iload 5, 2) := by decide +kernel
theorem dX6_leftOf_8 : decode cX6_leftOf 8 = .ok (.iload_n 2, 1) := by decide +kernel
theorem dX6_leftOf_9 : decode cX6_leftOf 9 = .ok (.if_icmp .gt 54, 3) := by decide +kernel
theorem dX6_leftOf_12 : decode cX6_leftOf 12 = .ok (.iload 4, 2) := by decide +kernel
theorem dX6_leftOf_14 : decode cX6_leftOf 14 = .ok (.iconst 0, 1) := by decide +kernel
theorem dX6_leftOf_15 : decode cX6_leftOf 15 = .ok (.invokestatic 292, 3) := by decide +kernel
theorem dX6_leftOf_18 : decode cX6_leftOf 18 = .ok (.aload_n 0, 1) := by decide +kernel
theorem dX6_leftOf_19 : decode cX6_leftOf 19 = .ok (.getfield 37, 3) := by decide +kernel
theorem dX6_leftOf_22 : decode cX6_leftOf 22 = .ok (.iload_n 1, 1) := by decide +kernel
theorem dX6_leftOf_23 : decode cX6_leftOf 23 = .ok (.iconst 0, 1) := by decide +kernel
theorem dX6_leftOf_24 : decode cX6_leftOf 24 = .ok (.invokevirtual 361, 3) := by decide +kernel
theorem dX6_leftOf_27 : decode cX6_leftOf 27 = .ok (.imul, 1) := by decide +kernel
theorem dX6_leftOf_28 : decode cX6_leftOf 28 = .ok (.bipush 100, 2) := by decide +kernel
theorem dX6_leftOf_30 : decode cX6_leftOf 30 = .ok (.idiv, 1) := by decide +kernel
theorem dX6_leftOf_31 : decode cX6_leftOf 31 = .ok (.istore 6, 2) := by decide +kernel
theorem dX6_leftOf_33 : decode cX6_leftOf 33 = .ok (.aload_n 0, 1) := by decide +kernel
theorem dX6_leftOf_34 : decode cX6_leftOf 34 = .ok (.getfield 34, 3) := by decide +kernel
theorem dX6_leftOf_37 : decode cX6_leftOf 37 = .ok (.iload_n 1, 1) := by decide +kernel
theorem dX6_leftOf_38 : decode cX6_leftOf 38 = .ok (.iload 5, 2) := by decide +kernel
theorem dX6_leftOf_40 : decode cX6_leftOf 40 = .ok (.invokevirtual 361, 3) := by decide +kernel
theorem dX6_leftOf_43 : decode cX6_leftOf 43 = .ok (.iload 6, 2) := by decide +kernel
theorem dX6_leftOf_45 : decode cX6_leftOf 45 = .ok (.iadd, 1) := by decide +kernel
theorem dX6_leftOf_46 : decode cX6_leftOf 46 = .ok (.aload_n 0, 1) := by decide +kernel
theorem dX6_leftOf_47 : decode cX6_leftOf 47 = .ok (.iload_n 1, 1) := by decide +kernel
theorem dX6_leftOf_48 : decode cX6_leftOf 48 = .ok (.iload 5, 2) := by decide +kernel
theorem dX6_leftOf_50 : decode cX6_leftOf 50 = .ok (.iload_n 3, 1) := by decide +kernel
theorem dX6_leftOf_51 : decode cX6_leftOf 51 = .ok (.invokevirtual 368, 3) := by decide +kernel
theorem dX6_leftOf_54 : decode cX6_leftOf 54 = .ok (.isub, 1) := by decide +kernel
theorem dX6_leftOf_55 : decode cX6_leftOf 55 = .ok (.istore 4, 2) := by decide +kernel
theorem dX6_leftOf_57 : decode cX6_leftOf 57 = .ok (.iinc 5 1, 3) := by decide +kernel
theorem dX6_leftOf_60 : decode cX6_leftOf 60 = .ok (.goto (-54), 3) := by decide +kernel
theorem dX6_leftOf_63 : decode cX6_leftOf 63 = .ok (.iload 4, 2) := by decide +kernel
theorem dX6_leftOf_65 : decode cX6_leftOf 65 = .ok (.ireturn, 1) := by decide +kernel
theorem dX6_costIn_0 : decode cX6_costIn 0 = .ok (.iconst 0, 1) := by decide +kernel
theorem dX6_costIn_1 : decode cX6_costIn 1 = .ok (.istore 4, 2) := by decide +kernel
theorem dX6_costIn_3 : decode cX6_costIn 3 = .ok (.iconst 0, 1) := by decide +kernel
theorem dX6_costIn_4 : decode cX6_costIn 4 = .ok (.istore 5, 2) := by decide +kernel
theorem dX6_costIn_6 : decode cX6_costIn 6 = .ok (.iload 5, 2) := by decide +kernel
theorem dX6_costIn_8 : decode cX6_costIn 8 = .ok (.aload_n 0, 1) := by decide +kernel
theorem dX6_costIn_9 : decode cX6_costIn 9 = .ok (.getfield 19, 3) := by decide +kernel
theorem dX6_costIn_12 : decode cX6_costIn 12 = .ok (.invokevirtual 51, 3) := by decide +kernel
theorem dX6_costIn_15 : decode cX6_costIn 15 = .ok (.if_icmp .ge 56, 3) := by decide +kernel
theorem dX6_costIn_18 : decode cX6_costIn 18 = .ok (.aload_n 0, 1) := by decide +kernel
theorem dX6_costIn_19 : decode cX6_costIn 19 = .ok (.getfield 19, 3) := by decide +kernel
theorem dX6_costIn_22 : decode cX6_costIn 22 = .ok (.iload 5, 2) := by decide +kernel
theorem dX6_costIn_24 : decode cX6_costIn 24 = .ok (.invokevirtual 253, 3) := by decide +kernel
theorem dX6_costIn_27 : decode cX6_costIn 27 = .ok (.checkcast 155, 3) := by decide +kernel
theorem dX6_costIn_30 : decode cX6_costIn 30 = .ok (.astore 6, 2) := by decide +kernel
theorem dX6_costIn_32 : decode cX6_costIn 32 = .ok (.aload 6, 2) := by decide +kernel
theorem dX6_costIn_34 : decode cX6_costIn 34 = .ok (.getfield 214, 3) := by decide +kernel
theorem dX6_costIn_37 : decode cX6_costIn 37 = .ok (.iload_n 1, 1) := by decide +kernel
theorem dX6_costIn_38 : decode cX6_costIn 38 = .ok (.if_icmp .ne 27, 3) := by decide +kernel
theorem dX6_costIn_41 : decode cX6_costIn 41 = .ok (.aload 6, 2) := by decide +kernel
theorem dX6_costIn_43 : decode cX6_costIn 43 = .ok (.getfield 220, 3) := by decide +kernel
theorem dX6_costIn_46 : decode cX6_costIn 46 = .ok (.bipush 30, 2) := by decide +kernel
theorem dX6_costIn_48 : decode cX6_costIn 48 = .ok (.idiv, 1) := by decide +kernel
theorem dX6_costIn_49 : decode cX6_costIn 49 = .ok (.iload_n 2, 1) := by decide +kernel
theorem dX6_costIn_50 : decode cX6_costIn 50 = .ok (.if_icmp .ne 15, 3) := by decide +kernel
theorem dX6_costIn_53 : decode cX6_costIn 53 = .ok (.iload 4, 2) := by decide +kernel
theorem dX6_costIn_55 : decode cX6_costIn 55 = .ok (.aload_n 0, 1) := by decide +kernel
theorem dX6_costIn_56 : decode cX6_costIn 56 = .ok (.aload 6, 2) := by decide +kernel
theorem dX6_costIn_58 : decode cX6_costIn 58 = .ok (.iload_n 3, 1) := by decide +kernel
theorem dX6_costIn_59 : decode cX6_costIn 59 = .ok (.invokevirtual 231, 3) := by decide +kernel
theorem dX6_costIn_62 : decode cX6_costIn 62 = .ok (.iadd, 1) := by decide +kernel
theorem dX6_costIn_63 : decode cX6_costIn 63 = .ok (.istore 4, 2) := by decide +kernel
theorem dX6_costIn_65 : decode cX6_costIn 65 = .ok (.iinc 5 1, 3) := by decide +kernel
theorem dX6_costIn_68 : decode cX6_costIn 68 = .ok (.goto (-62), 3) := by decide +kernel
theorem dX6_costIn_71 : decode cX6_costIn 71 = .ok (.iload 4, 2) := by decide +kernel
theorem dX6_costIn_73 : decode cX6_costIn 73 = .ok (.ireturn, 1) := by decide +kernel
theorem dX6_costOf_0 : decode cX6_costOf 0 = .ok (.aload_n 1, 1) := by decide +kernel
theorem dX6_costOf_1 : decode cX6_costOf 1 = .ok (.getfield 197, 3) := by decide +kernel
theorem dX6_costOf_4 : decode cX6_costOf 4 = .ok (.tableswitch 67 0 3 #[45, 32, 32, 43], 32) := by decide +kernel
theorem dX6_costOf_36 : decode cX6_costOf 36 = .ok (.aload_n 1, 1) := by decide +kernel
theorem dX6_costOf_37 : decode cX6_costOf 37 = .ok (.getfield 217, 3) := by decide +kernel
theorem dX6_costOf_40 : decode cX6_costOf 40 = .ok (.aload_n 0, 1) := by decide +kernel
theorem dX6_costOf_41 : decode cX6_costOf 41 = .ok (.aload_n 1, 1) := by decide +kernel
theorem dX6_costOf_42 : decode cX6_costOf 42 = .ok (.invokevirtual 227, 3) := by decide +kernel
theorem dX6_costOf_45 : decode cX6_costOf 45 = .ok (.isub, 1) := by decide +kernel
theorem dX6_costOf_46 : decode cX6_costOf 46 = .ok (.ireturn, 1) := by decide +kernel
theorem dX6_costOf_47 : decode cX6_costOf 47 = .ok (.iconst 0, 1) := by decide +kernel
theorem dX6_costOf_48 : decode cX6_costOf 48 = .ok (.ireturn, 1) := by decide +kernel
theorem dX6_costOf_49 : decode cX6_costOf 49 = .ok (.iload_n 2, 1) := by decide +kernel
theorem dX6_costOf_50 : decode cX6_costOf 50 = .ok (.ifCond .eq 16, 3) := by decide +kernel
theorem dX6_costOf_53 : decode cX6_costOf 53 = .ok (.aload_n 1, 1) := by decide +kernel
theorem dX6_costOf_54 : decode cX6_costOf 54 = .ok (.getfield 217, 3) := by decide +kernel
theorem dX6_costOf_57 : decode cX6_costOf 57 = .ok (.aload_n 0, 1) := by decide +kernel
theorem dX6_costOf_58 : decode cX6_costOf 58 = .ok (.aload_n 1, 1) := by decide +kernel
theorem dX6_costOf_59 : decode cX6_costOf 59 = .ok (.invokevirtual 227, 3) := by decide +kernel
theorem dX6_costOf_62 : decode cX6_costOf 62 = .ok (.isub, 1) := by decide +kernel
theorem dX6_costOf_63 : decode cX6_costOf 63 = .ok (.goto 7, 3) := by decide +kernel
theorem dX6_costOf_66 : decode cX6_costOf 66 = .ok (.aload_n 1, 1) := by decide +kernel
theorem dX6_costOf_67 : decode cX6_costOf 67 = .ok (.getfield 217, 3) := by decide +kernel
theorem dX6_costOf_70 : decode cX6_costOf 70 = .ok (.ireturn, 1) := by decide +kernel
theorem dX6_costOf_71 : decode cX6_costOf 71 = .ok (.aload_n 1, 1) := by decide +kernel
theorem dX6_costOf_72 : decode cX6_costOf 72 = .ok (.getfield 217, 3) := by decide +kernel
theorem dX6_costOf_75 : decode cX6_costOf 75 = .ok (.ireturn, 1) := by decide +kernel
theorem dX6_taxOf_0 : decode cX6_taxOf 0 = .ok (.aload_n 0, 1) := by decide +kernel
theorem dX6_taxOf_1 : decode cX6_taxOf 1 = .ok (.getfield 40, 3) := by decide +kernel
theorem dX6_taxOf_4 : decode cX6_taxOf 4 = .ok (.aload_n 1, 1) := by decide +kernel
theorem dX6_taxOf_5 : decode cX6_taxOf 5 = .ok (.getfield 371, 3) := by decide +kernel
theorem dX6_taxOf_8 : decode cX6_taxOf 8 = .ok (.aload_n 1, 1) := by decide +kernel
theorem dX6_taxOf_9 : decode cX6_taxOf 9 = .ok (.getfield 214, 3) := by decide +kernel
theorem dX6_taxOf_12 : decode cX6_taxOf 12 = .ok (.invokevirtual 361, 3) := by decide +kernel
theorem dX6_taxOf_15 : decode cX6_taxOf 15 = .ok (.istore_n 2, 1) := by decide +kernel
theorem dX6_taxOf_16 : decode cX6_taxOf 16 = .ok (.bipush 100, 2) := by decide +kernel
theorem dX6_taxOf_18 : decode cX6_taxOf 18 = .ok (.iload_n 2, 1) := by decide +kernel
theorem dX6_taxOf_19 : decode cX6_taxOf 19 = .ok (.iadd, 1) := by decide +kernel
theorem dX6_taxOf_20 : decode cX6_taxOf 20 = .ok (.istore_n 3, 1) := by decide +kernel
theorem dX6_taxOf_21 : decode cX6_taxOf 21 = .ok (.iload_n 3, 1) := by decide +kernel
theorem dX6_taxOf_22 : decode cX6_taxOf 22 = .ok (.ifCond .le 14, 3) := by decide +kernel
theorem dX6_taxOf_25 : decode cX6_taxOf 25 = .ok (.aload_n 1, 1) := by decide +kernel
theorem dX6_taxOf_26 : decode cX6_taxOf 26 = .ok (.getfield 217, 3) := by decide +kernel
theorem dX6_taxOf_29 : decode cX6_taxOf 29 = .ok (.iload_n 2, 1) := by decide +kernel
theorem dX6_taxOf_30 : decode cX6_taxOf 30 = .ok (.imul, 1) := by decide +kernel
theorem dX6_taxOf_31 : decode cX6_taxOf 31 = .ok (.iload_n 3, 1) := by decide +kernel
theorem dX6_taxOf_32 : decode cX6_taxOf 32 = .ok (.idiv, 1) := by decide +kernel
theorem dX6_taxOf_33 : decode cX6_taxOf 33 = .ok (.goto 4, 3) := by decide +kernel
theorem dX6_taxOf_36 : decode cX6_taxOf 36 = .ok (.iconst 0, 1) := by decide +kernel
theorem dX6_taxOf_37 : decode cX6_taxOf 37 = .ok (.ireturn, 1) := by decide +kernel
theorem dX6_matchPairs_0 : decode cX6_matchPairs 0 = .ok (.iconst 1, 1) := by decide +kernel
theorem dX6_matchPairs_1 : decode cX6_matchPairs 1 = .ok (.istore_n 1, 1) := by decide +kernel
theorem dX6_matchPairs_2 : decode cX6_matchPairs 2 = .ok (.iconst 0, 1) := by decide +kernel
theorem dX6_matchPairs_3 : decode cX6_matchPairs 3 = .ok (.istore_n 2, 1) := by decide +kernel
theorem dX6_matchPairs_4 : decode cX6_matchPairs 4 = .ok (.iload_n 2, 1) := by decide +kernel
theorem dX6_matchPairs_5 : decode cX6_matchPairs 5 = .ok (.bipush 30, 2) := by decide +kernel
theorem dX6_matchPairs_7 : decode cX6_matchPairs 7 = .ok (.if_icmp .ge 18, 3) := by decide +kernel
theorem dX6_matchPairs_10 : decode cX6_matchPairs 10 = .ok (.iload_n 1, 1) := by decide +kernel
theorem dX6_matchPairs_11 : decode cX6_matchPairs 11 = .ok (.ifCond .eq 14, 3) := by decide +kernel
theorem dX6_matchPairs_14 : decode cX6_matchPairs 14 = .ok (.aload_n 0, 1) := by decide +kernel
theorem dX6_matchPairs_15 : decode cX6_matchPairs 15 = .ok (.invokevirtual 372, 3) := by decide +kernel
theorem dX6_matchPairs_18 : decode cX6_matchPairs 18 = .ok (.istore_n 1, 1) := by decide +kernel
theorem dX6_matchPairs_19 : decode cX6_matchPairs 19 = .ok (.iinc 2 1, 3) := by decide +kernel
theorem dX6_matchPairs_22 : decode cX6_matchPairs 22 = .ok (.goto (-18), 3) := by decide +kernel
theorem dX6_matchPairs_25 : decode cX6_matchPairs 25 = .ok (.return_, 1) := by decide +kernel
theorem dX6_matchBestPair_0 : decode cX6_matchBestPair 0 = .ok (.aconst_null, 1) := by decide +kernel
theorem dX6_matchBestPair_1 : decode cX6_matchBestPair 1 = .ok (.astore_n 1, 1) := by decide +kernel
theorem dX6_matchBestPair_2 : decode cX6_matchBestPair 2 = .ok (.aconst_null, 1) := by decide +kernel
theorem dX6_matchBestPair_3 : decode cX6_matchBestPair 3 = .ok (.astore_n 2, 1) := by decide +kernel
theorem dX6_matchBestPair_4 : decode cX6_matchBestPair 4 = .ok (.iconst (-1), 1) := by decide +kernel
theorem dX6_matchBestPair_5 : decode cX6_matchBestPair 5 = .ok (.istore_n 3, 1) := by decide +kernel
theorem dX6_matchBestPair_6 : decode cX6_matchBestPair 6 = .ok (.iconst 0, 1) := by decide +kernel
theorem dX6_matchBestPair_7 : decode cX6_matchBestPair 7 = .ok (.istore 4, 2) := by decide +kernel
theorem dX6_matchBestPair_9 : decode cX6_matchBestPair 9 = .ok (.iload 4, 2) := by decide +kernel
theorem dX6_matchBestPair_11 : decode cX6_matchBestPair 11 = .ok (.aload_n 0, 1) := by decide +kernel
theorem dX6_matchBestPair_12 : decode cX6_matchBestPair 12 = .ok (.getfield 19, 3) := by decide +kernel
theorem dX6_matchBestPair_15 : decode cX6_matchBestPair 15 = .ok (.invokevirtual 51, 3) := by decide +kernel
theorem dX6_matchBestPair_18 : decode cX6_matchBestPair 18 = .ok (.if_icmp .ge 61, 3) := by decide +kernel
theorem dX6_matchBestPair_21 : decode cX6_matchBestPair 21 = .ok (.aload_n 0, 1) := by decide +kernel
theorem dX6_matchBestPair_22 : decode cX6_matchBestPair 22 = .ok (.getfield 19, 3) := by decide +kernel
theorem dX6_matchBestPair_25 : decode cX6_matchBestPair 25 = .ok (.iload 4, 2) := by decide +kernel
theorem dX6_matchBestPair_27 : decode cX6_matchBestPair 27 = .ok (.invokevirtual 253, 3) := by decide +kernel
theorem dX6_matchBestPair_30 : decode cX6_matchBestPair 30 = .ok (.checkcast 155, 3) := by decide +kernel
theorem dX6_matchBestPair_33 : decode cX6_matchBestPair 33 = .ok (.astore 5, 2) := by decide +kernel
theorem dX6_matchBestPair_35 : decode cX6_matchBestPair 35 = .ok (.aload_n 0, 1) := by decide +kernel
theorem dX6_matchBestPair_36 : decode cX6_matchBestPair 36 = .ok (.aload 5, 2) := by decide +kernel
theorem dX6_matchBestPair_38 : decode cX6_matchBestPair 38 = .ok (.invokevirtual 375, 3) := by decide +kernel
theorem dX6_matchBestPair_41 : decode cX6_matchBestPair 41 = .ok (.astore 6, 2) := by decide +kernel
theorem dX6_matchBestPair_43 : decode cX6_matchBestPair 43 = .ok (.aload 6, 2) := by decide +kernel
theorem dX6_matchBestPair_45 : decode cX6_matchBestPair 45 = .ok (.ifnull 28, 3) := by decide +kernel
theorem dX6_matchBestPair_48 : decode cX6_matchBestPair 48 = .ok (.aload 5, 2) := by decide +kernel
theorem dX6_matchBestPair_50 : decode cX6_matchBestPair 50 = .ok (.aload 6, 2) := by decide +kernel
theorem dX6_matchBestPair_52 : decode cX6_matchBestPair 52 = .ok (.invokestatic 247, 3) := by decide +kernel
theorem dX6_matchBestPair_55 : decode cX6_matchBestPair 55 = .ok (.iload_n 3, 1) := by decide +kernel
theorem dX6_matchBestPair_56 : decode cX6_matchBestPair 56 = .ok (.if_icmp .le 17, 3) := by decide +kernel
theorem dX6_matchBestPair_59 : decode cX6_matchBestPair 59 = .ok (.aload 5, 2) := by decide +kernel
theorem dX6_matchBestPair_61 : decode cX6_matchBestPair 61 = .ok (.astore_n 1, 1) := by decide +kernel
theorem dX6_matchBestPair_62 : decode cX6_matchBestPair 62 = .ok (.aload 6, 2) := by decide +kernel
theorem dX6_matchBestPair_64 : decode cX6_matchBestPair 64 = .ok (.astore_n 2, 1) := by decide +kernel
theorem dX6_matchBestPair_65 : decode cX6_matchBestPair 65 = .ok (.aload 5, 2) := by decide +kernel
theorem dX6_matchBestPair_67 : decode cX6_matchBestPair 67 = .ok (.aload 6, 2) := by decide +kernel
theorem dX6_matchBestPair_69 : decode cX6_matchBestPair 69 = .ok (.invokestatic 247, 3) := by decide +kernel
theorem dX6_matchBestPair_72 : decode cX6_matchBestPair 72 = .ok (.istore_n 3, 1) := by decide +kernel
theorem dX6_matchBestPair_73 : decode cX6_matchBestPair 73 = .ok (.iinc 4 1, 3) := by decide +kernel
theorem dX6_matchBestPair_76 : decode cX6_matchBestPair 76 = .ok (.goto (-67), 3) := by decide +kernel
theorem dX6_matchBestPair_79 : decode cX6_matchBestPair 79 = .ok (.aload_n 1, 1) := by decide +kernel
theorem dX6_matchBestPair_80 : decode cX6_matchBestPair 80 = .ok (.ifnull 7, 3) := by decide +kernel
theorem dX6_matchBestPair_83 : decode cX6_matchBestPair 83 = .ok (.aload_n 2, 1) := by decide +kernel
theorem dX6_matchBestPair_84 : decode cX6_matchBestPair 84 = .ok (.ifnonnull 5, 3) := by decide +kernel
theorem dX6_matchBestPair_87 : decode cX6_matchBestPair 87 = .ok (.iconst 0, 1) := by decide +kernel
theorem dX6_matchBestPair_88 : decode cX6_matchBestPair 88 = .ok (.ireturn, 1) := by decide +kernel
theorem dX6_matchBestPair_89 : decode cX6_matchBestPair 89 = .ok (.aload_n 0, 1) := by decide +kernel
theorem dX6_matchBestPair_90 : decode cX6_matchBestPair 90 = .ok (.aload_n 1, 1) := by decide +kernel
theorem dX6_matchBestPair_91 : decode cX6_matchBestPair 91 = .ok (.aload_n 2, 1) := by decide +kernel
theorem dX6_matchBestPair_92 : decode cX6_matchBestPair 92 = .ok (.invokevirtual 379, 3) := by decide +kernel
theorem dX6_matchBestPair_95 : decode cX6_matchBestPair 95 = .ok (.iconst 1, 1) := by decide +kernel
theorem dX6_matchBestPair_96 : decode cX6_matchBestPair 96 = .ok (.ireturn, 1) := by decide +kernel
theorem dX6_bestReceiptFor_0 : decode cX6_bestReceiptFor 0 = .ok (.aconst_null, 1) := by decide +kernel
theorem dX6_bestReceiptFor_1 : decode cX6_bestReceiptFor 1 = .ok (.astore_n 2, 1) := by decide +kernel
theorem dX6_bestReceiptFor_2 : decode cX6_bestReceiptFor 2 = .ok (.iconst (-1), 1) := by decide +kernel
theorem dX6_bestReceiptFor_3 : decode cX6_bestReceiptFor 3 = .ok (.istore_n 3, 1) := by decide +kernel
theorem dX6_bestReceiptFor_4 : decode cX6_bestReceiptFor 4 = .ok (.iconst 0, 1) := by decide +kernel
theorem dX6_bestReceiptFor_5 : decode cX6_bestReceiptFor 5 = .ok (.istore 4, 2) := by decide +kernel
theorem dX6_bestReceiptFor_7 : decode cX6_bestReceiptFor 7 = .ok (.iload 4, 2) := by decide +kernel
theorem dX6_bestReceiptFor_9 : decode cX6_bestReceiptFor 9 = .ok (.aload_n 0, 1) := by decide +kernel
theorem dX6_bestReceiptFor_10 : decode cX6_bestReceiptFor 10 = .ok (.getfield 22, 3) := by decide +kernel
theorem dX6_bestReceiptFor_13 : decode cX6_bestReceiptFor 13 = .ok (.invokevirtual 51, 3) := by decide +kernel
theorem dX6_bestReceiptFor_16 : decode cX6_bestReceiptFor 16 = .ok (.if_icmp .ge 52, 3) := by decide +kernel
theorem dX6_bestReceiptFor_19 : decode cX6_bestReceiptFor 19 = .ok (.aload_n 0, 1) := by decide +kernel
theorem dX6_bestReceiptFor_20 : decode cX6_bestReceiptFor 20 = .ok (.getfield 22, 3) := by decide +kernel
theorem dX6_bestReceiptFor_23 : decode cX6_bestReceiptFor 23 = .ok (.iload 4, 2) := by decide +kernel
theorem dX6_bestReceiptFor_25 : decode cX6_bestReceiptFor 25 = .ok (.invokevirtual 253, 3) := by decide +kernel
theorem dX6_bestReceiptFor_28 : decode cX6_bestReceiptFor 28 = .ok (.checkcast 177, 3) := by decide +kernel
theorem dX6_bestReceiptFor_31 : decode cX6_bestReceiptFor 31 = .ok (.astore 5, 2) := by decide +kernel
theorem dX6_bestReceiptFor_33 : decode cX6_bestReceiptFor 33 = .ok (.aload_n 1, 1) := by decide +kernel
theorem dX6_bestReceiptFor_34 : decode cX6_bestReceiptFor 34 = .ok (.aload 5, 2) := by decide +kernel
theorem dX6_bestReceiptFor_36 : decode cX6_bestReceiptFor 36 = .ok (.invokestatic 278, 3) := by decide +kernel
theorem dX6_bestReceiptFor_39 : decode cX6_bestReceiptFor 39 = .ok (.ifCond .eq 23, 3) := by decide +kernel
theorem dX6_bestReceiptFor_42 : decode cX6_bestReceiptFor 42 = .ok (.aload_n 1, 1) := by decide +kernel
theorem dX6_bestReceiptFor_43 : decode cX6_bestReceiptFor 43 = .ok (.aload 5, 2) := by decide +kernel
theorem dX6_bestReceiptFor_45 : decode cX6_bestReceiptFor 45 = .ok (.invokestatic 247, 3) := by decide +kernel
theorem dX6_bestReceiptFor_48 : decode cX6_bestReceiptFor 48 = .ok (.iload_n 3, 1) := by decide +kernel
theorem dX6_bestReceiptFor_49 : decode cX6_bestReceiptFor 49 = .ok (.if_icmp .le 13, 3) := by decide +kernel
theorem dX6_bestReceiptFor_52 : decode cX6_bestReceiptFor 52 = .ok (.aload 5, 2) := by decide +kernel
theorem dX6_bestReceiptFor_54 : decode cX6_bestReceiptFor 54 = .ok (.astore_n 2, 1) := by decide +kernel
theorem dX6_bestReceiptFor_55 : decode cX6_bestReceiptFor 55 = .ok (.aload_n 1, 1) := by decide +kernel
theorem dX6_bestReceiptFor_56 : decode cX6_bestReceiptFor 56 = .ok (.aload 5, 2) := by decide +kernel
theorem dX6_bestReceiptFor_58 : decode cX6_bestReceiptFor 58 = .ok (.invokestatic 247, 3) := by decide +kernel
theorem dX6_bestReceiptFor_61 : decode cX6_bestReceiptFor 61 = .ok (.istore_n 3, 1) := by decide +kernel
theorem dX6_bestReceiptFor_62 : decode cX6_bestReceiptFor 62 = .ok (.iinc 4 1, 3) := by decide +kernel
theorem dX6_bestReceiptFor_65 : decode cX6_bestReceiptFor 65 = .ok (.goto (-58), 3) := by decide +kernel
theorem dX6_bestReceiptFor_68 : decode cX6_bestReceiptFor 68 = .ok (.aload_n 2, 1) := by decide +kernel
theorem dX6_bestReceiptFor_69 : decode cX6_bestReceiptFor 69 = .ok (.areturn, 1) := by decide +kernel
theorem dX6_match_0 : decode cX6_match 0 = .ok (.aload_n 1, 1) := by decide +kernel
theorem dX6_match_1 : decode cX6_match 1 = .ok (.iconst 1, 1) := by decide +kernel
theorem dX6_match_2 : decode cX6_match 2 = .ok (.putfield 197, 3) := by decide +kernel
theorem dX6_match_5 : decode cX6_match 5 = .ok (.aload_n 1, 1) := by decide +kernel
theorem dX6_match_6 : decode cX6_match 6 = .ok (.aload_n 2, 1) := by decide +kernel
theorem dX6_match_7 : decode cX6_match 7 = .ok (.putfield 223, 3) := by decide +kernel
theorem dX6_match_10 : decode cX6_match 10 = .ok (.aload_n 2, 1) := by decide +kernel
theorem dX6_match_11 : decode cX6_match 11 = .ok (.aload_n 1, 1) := by decide +kernel
theorem dX6_match_12 : decode cX6_match 12 = .ok (.putfield 182, 3) := by decide +kernel
theorem dX6_match_15 : decode cX6_match 15 = .ok (.aload_n 0, 1) := by decide +kernel
theorem dX6_match_16 : decode cX6_match 16 = .ok (.getfield 43, 3) := by decide +kernel
theorem dX6_match_19 : decode cX6_match 19 = .ok (.aload_n 1, 1) := by decide +kernel
theorem dX6_match_20 : decode cX6_match 20 = .ok (.getfield 220, 3) := by decide +kernel
theorem dX6_match_23 : decode cX6_match 23 = .ok (.isub, 1) := by decide +kernel
theorem dX6_match_24 : decode cX6_match 24 = .ok (.bipush 7, 2) := by decide +kernel
theorem dX6_match_26 : decode cX6_match 26 = .ok (.if_icmp .gt 10, 3) := by decide +kernel
theorem dX6_match_29 : decode cX6_match 29 = .ok (.aload_n 1, 1) := by decide +kernel
theorem dX6_match_30 : decode cX6_match 30 = .ok (.getfield 211, 3) := by decide +kernel
theorem dX6_match_33 : decode cX6_match 33 = .ok (.invokevirtual 383, 3) := by decide +kernel
theorem dX6_match_36 : decode cX6_match 36 = .ok (.return_, 1) := by decide +kernel
theorem dX6_goTogether_0 : decode cX6_goTogether 0 = .ok (.aload_n 0, 1) := by decide +kernel
theorem dX6_goTogether_1 : decode cX6_goTogether 1 = .ok (.getfield 197, 3) := by decide +kernel
theorem dX6_goTogether_4 : decode cX6_goTogether 4 = .ok (.ifCond .ne 31, 3) := by decide +kernel
theorem dX6_goTogether_7 : decode cX6_goTogether 7 = .ok (.aload_n 1, 1) := by decide +kernel
theorem dX6_goTogether_8 : decode cX6_goTogether 8 = .ok (.getfield 182, 3) := by decide +kernel
theorem dX6_goTogether_11 : decode cX6_goTogether 11 = .ok (.ifnonnull 24, 3) := by decide +kernel
theorem dX6_goTogether_14 : decode cX6_goTogether 14 = .ok (.aload_n 0, 1) := by decide +kernel
theorem dX6_goTogether_15 : decode cX6_goTogether 15 = .ok (.aload_n 1, 1) := by decide +kernel
theorem dX6_goTogether_16 : decode cX6_goTogether 16 = .ok (.invokevirtual 386, 3) := by decide +kernel
theorem dX6_goTogether_19 : decode cX6_goTogether 19 = .ok (.ifCond .ne 16, 3) := by decide +kernel
theorem dX6_goTogether_22 : decode cX6_goTogether 22 = .ok (.aload_n 0, 1) := by decide +kernel
theorem dX6_goTogether_23 : decode cX6_goTogether 23 = .ok (.aload_n 1, 1) := by decide +kernel
theorem dX6_goTogether_24 : decode cX6_goTogether 24 = .ok (.invokestatic 247, 3) := by decide +kernel
theorem dX6_goTogether_27 : decode cX6_goTogether 27 = .ok (.iconst (-1), 1) := by decide +kernel
theorem dX6_goTogether_28 : decode cX6_goTogether 28 = .ok (.if_icmp .eq 7, 3) := by decide +kernel
theorem dX6_goTogether_31 : decode cX6_goTogether 31 = .ok (.iconst 1, 1) := by decide +kernel
theorem dX6_goTogether_32 : decode cX6_goTogether 32 = .ok (.goto 4, 3) := by decide +kernel
theorem dX6_goTogether_35 : decode cX6_goTogether 35 = .ok (.iconst 0, 1) := by decide +kernel
theorem dX6_goTogether_36 : decode cX6_goTogether 36 = .ok (.ireturn, 1) := by decide +kernel
theorem dX6_scoreOf_0 : decode cX6_scoreOf 0 = .ok (.aload_n 0, 1) := by decide +kernel
theorem dX6_scoreOf_1 : decode cX6_scoreOf 1 = .ok (.getfield 217, 3) := by decide +kernel
theorem dX6_scoreOf_4 : decode cX6_scoreOf 4 = .ok (.aload_n 1, 1) := by decide +kernel
theorem dX6_scoreOf_5 : decode cX6_scoreOf 5 = .ok (.getfield 390, 3) := by decide +kernel
theorem dX6_scoreOf_8 : decode cX6_scoreOf 8 = .ok (.isub, 1) := by decide +kernel
theorem dX6_scoreOf_9 : decode cX6_scoreOf 9 = .ok (.invokestatic 391, 3) := by decide +kernel
theorem dX6_scoreOf_12 : decode cX6_scoreOf 12 = .ok (.istore_n 2, 1) := by decide +kernel
theorem dX6_scoreOf_13 : decode cX6_scoreOf 13 = .ok (.aload_n 0, 1) := by decide +kernel
theorem dX6_scoreOf_14 : decode cX6_scoreOf 14 = .ok (.getfield 220, 3) := by decide +kernel
theorem dX6_scoreOf_17 : decode cX6_scoreOf 17 = .ok (.aload_n 1, 1) := by decide +kernel
theorem dX6_scoreOf_18 : decode cX6_scoreOf 18 = .ok (.getfield 394, 3) := by decide +kernel
theorem dX6_scoreOf_21 : decode cX6_scoreOf 21 = .ok (.isub, 1) := by decide +kernel
theorem dX6_scoreOf_22 : decode cX6_scoreOf 22 = .ok (.invokestatic 391, 3) := by decide +kernel
theorem dX6_scoreOf_25 : decode cX6_scoreOf 25 = .ok (.istore_n 3, 1) := by decide +kernel
theorem dX6_scoreOf_26 : decode cX6_scoreOf 26 = .ok (.iload_n 2, 1) := by decide +kernel
theorem dX6_scoreOf_27 : decode cX6_scoreOf 27 = .ok (.bipush 10, 2) := by decide +kernel
theorem dX6_scoreOf_29 : decode cX6_scoreOf 29 = .ok (.if_icmp .gt 8, 3) := by decide +kernel
theorem dX6_scoreOf_32 : decode cX6_scoreOf 32 = .ok (.iload_n 3, 1) := by decide +kernel
theorem dX6_scoreOf_33 : decode cX6_scoreOf 33 = .ok (.iconst 3, 1) := by decide +kernel
theorem dX6_scoreOf_34 : decode cX6_scoreOf 34 = .ok (.if_icmp .le 5, 3) := by decide +kernel
theorem dX6_scoreOf_37 : decode cX6_scoreOf 37 = .ok (.iconst (-1), 1) := by decide +kernel
theorem dX6_scoreOf_38 : decode cX6_scoreOf 38 = .ok (.ireturn, 1) := by decide +kernel
theorem dX6_scoreOf_39 : decode cX6_scoreOf 39 = .ok (.bipush 40, 2) := by decide +kernel
theorem dX6_scoreOf_41 : decode cX6_scoreOf 41 = .ok (.iconst 2, 1) := by decide +kernel
theorem dX6_scoreOf_42 : decode cX6_scoreOf 42 = .ok (.iload_n 2, 1) := by decide +kernel
theorem dX6_scoreOf_43 : decode cX6_scoreOf 43 = .ok (.imul, 1) := by decide +kernel
theorem dX6_scoreOf_44 : decode cX6_scoreOf 44 = .ok (.isub, 1) := by decide +kernel
theorem dX6_scoreOf_45 : decode cX6_scoreOf 45 = .ok (.iconst 5, 1) := by decide +kernel
theorem dX6_scoreOf_46 : decode cX6_scoreOf 46 = .ok (.iload_n 3, 1) := by decide +kernel
theorem dX6_scoreOf_47 : decode cX6_scoreOf 47 = .ok (.imul, 1) := by decide +kernel
theorem dX6_scoreOf_48 : decode cX6_scoreOf 48 = .ok (.isub, 1) := by decide +kernel
theorem dX6_scoreOf_49 : decode cX6_scoreOf 49 = .ok (.istore 4, 2) := by decide +kernel
theorem dX6_scoreOf_51 : decode cX6_scoreOf 51 = .ok (.aload_n 0, 1) := by decide +kernel
theorem dX6_scoreOf_52 : decode cX6_scoreOf 52 = .ok (.getfield 395, 3) := by decide +kernel
theorem dX6_scoreOf_55 : decode cX6_scoreOf 55 = .ok (.aload_n 1, 1) := by decide +kernel
theorem dX6_scoreOf_56 : decode cX6_scoreOf 56 = .ok (.getfield 398, 3) := by decide +kernel
theorem dX6_scoreOf_59 : decode cX6_scoreOf 59 = .ok (.if_icmp .ne 11, 3) := by decide +kernel
theorem dX6_scoreOf_62 : decode cX6_scoreOf 62 = .ok (.iload 4, 2) := by decide +kernel
theorem dX6_scoreOf_64 : decode cX6_scoreOf 64 = .ok (.bipush 20, 2) := by decide +kernel
theorem dX6_scoreOf_66 : decode cX6_scoreOf 66 = .ok (.iadd, 1) := by decide +kernel
theorem dX6_scoreOf_67 : decode cX6_scoreOf 67 = .ok (.goto 5, 3) := by decide +kernel
theorem dX6_scoreOf_70 : decode cX6_scoreOf 70 = .ok (.iload 4, 2) := by decide +kernel
theorem dX6_scoreOf_72 : decode cX6_scoreOf 72 = .ok (.ireturn, 1) := by decide +kernel
theorem dX6_passSteps_0 : decode cX6_passSteps 0 = .ok (.iconst 0, 1) := by decide +kernel
theorem dX6_passSteps_1 : decode cX6_passSteps 1 = .ok (.istore_n 1, 1) := by decide +kernel
theorem dX6_passSteps_2 : decode cX6_passSteps 2 = .ok (.iload_n 1, 1) := by decide +kernel
theorem dX6_passSteps_3 : decode cX6_passSteps 3 = .ok (.aload_n 0, 1) := by decide +kernel
theorem dX6_passSteps_4 : decode cX6_passSteps 4 = .ok (.getfield 19, 3) := by decide +kernel
theorem dX6_passSteps_7 : decode cX6_passSteps 7 = .ok (.invokevirtual 51, 3) := by decide +kernel
theorem dX6_passSteps_10 : decode cX6_passSteps 10 = .ok (.if_icmp .ge 34, 3) := by decide +kernel
theorem dX6_passSteps_13 : decode cX6_passSteps 13 = .ok (.aload_n 0, 1) := by decide +kernel
theorem dX6_passSteps_14 : decode cX6_passSteps 14 = .ok (.getfield 19, 3) := by decide +kernel
theorem dX6_passSteps_17 : decode cX6_passSteps 17 = .ok (.iload_n 1, 1) := by decide +kernel
theorem dX6_passSteps_18 : decode cX6_passSteps 18 = .ok (.invokevirtual 253, 3) := by decide +kernel
theorem dX6_passSteps_21 : decode cX6_passSteps 21 = .ok (.checkcast 155, 3) := by decide +kernel
theorem dX6_passSteps_24 : decode cX6_passSteps 24 = .ok (.astore_n 2, 1) := by decide +kernel
theorem dX6_passSteps_25 : decode cX6_passSteps 25 = .ok (.aload_n 2, 1) := by decide +kernel
theorem dX6_passSteps_26 : decode cX6_passSteps 26 = .ok (.getfield 197, 3) := by decide +kernel
theorem dX6_passSteps_29 : decode cX6_passSteps 29 = .ok (.iconst 1, 1) := by decide +kernel
theorem dX6_passSteps_30 : decode cX6_passSteps 30 = .ok (.if_icmp .ne 8, 3) := by decide +kernel
theorem dX6_passSteps_33 : decode cX6_passSteps 33 = .ok (.aload_n 0, 1) := by decide +kernel
theorem dX6_passSteps_34 : decode cX6_passSteps 34 = .ok (.aload_n 2, 1) := by decide +kernel
theorem dX6_passSteps_35 : decode cX6_passSteps 35 = .ok (.invokevirtual 399, 3) := by decide +kernel
theorem dX6_passSteps_38 : decode cX6_passSteps 38 = .ok (.iinc 1 1, 3) := by decide +kernel
theorem dX6_passSteps_41 : decode cX6_passSteps 41 = .ok (.goto (-39), 3) := by decide +kernel
theorem dX6_passSteps_44 : decode cX6_passSteps 44 = .ok (.return_, 1) := by decide +kernel
theorem dX6_passStepsOf_0 : decode cX6_passStepsOf 0 = .ok (.aload_n 1, 1) := by decide +kernel
theorem dX6_passStepsOf_1 : decode cX6_passStepsOf 1 = .ok (.invokevirtual 402, 3) := by decide +kernel
theorem dX6_passStepsOf_4 : decode cX6_passStepsOf 4 = .ok (.istore_n 2, 1) := by decide +kernel
theorem dX6_passStepsOf_5 : decode cX6_passStepsOf 5 = .ok (.aload_n 1, 1) := by decide +kernel
theorem dX6_passStepsOf_6 : decode cX6_passStepsOf 6 = .ok (.getfield 204, 3) := by decide +kernel
theorem dX6_passStepsOf_9 : decode cX6_passStepsOf 9 = .ok (.iload_n 2, 1) := by decide +kernel
theorem dX6_passStepsOf_10 : decode cX6_passStepsOf 10 = .ok (.if_icmp .ge 24, 3) := by decide +kernel
theorem dX6_passStepsOf_13 : decode cX6_passStepsOf 13 = .ok (.aload_n 0, 1) := by decide +kernel
theorem dX6_passStepsOf_14 : decode cX6_passStepsOf 14 = .ok (.aload_n 1, 1) := by decide +kernel
theorem dX6_passStepsOf_15 : decode cX6_passStepsOf 15 = .ok (.invokevirtual 235, 3) := by decide +kernel
theorem dX6_passStepsOf_18 : decode cX6_passStepsOf 18 = .ok (.ifnonnull 16, 3) := by decide +kernel
theorem dX6_passStepsOf_21 : decode cX6_passStepsOf 21 = .ok (.aload_n 1, 1) := by decide +kernel
theorem dX6_passStepsOf_22 : decode cX6_passStepsOf 22 = .ok (.dup, 1) := by decide +kernel
theorem dX6_passStepsOf_23 : decode cX6_passStepsOf 23 = .ok (.getfield 204, 3) := by decide +kernel
theorem dX6_passStepsOf_26 : decode cX6_passStepsOf 26 = .ok (.iconst 1, 1) := by decide +kernel
theorem dX6_passStepsOf_27 : decode cX6_passStepsOf 27 = .ok (.iadd, 1) := by decide +kernel
theorem dX6_passStepsOf_28 : decode cX6_passStepsOf 28 = .ok (.putfield 204, 3) := by decide +kernel
theorem dX6_passStepsOf_31 : decode cX6_passStepsOf 31 = .ok (.goto (-26), 3) := by decide +kernel
theorem dX6_passStepsOf_34 : decode cX6_passStepsOf 34 = .ok (.aload_n 1, 1) := by decide +kernel
theorem dX6_passStepsOf_35 : decode cX6_passStepsOf 35 = .ok (.getfield 204, 3) := by decide +kernel
theorem dX6_passStepsOf_38 : decode cX6_passStepsOf 38 = .ok (.iload_n 2, 1) := by decide +kernel
theorem dX6_passStepsOf_39 : decode cX6_passStepsOf 39 = .ok (.if_icmp .lt 8, 3) := by decide +kernel
theorem dX6_passStepsOf_42 : decode cX6_passStepsOf 42 = .ok (.aload_n 1, 1) := by decide +kernel
theorem dX6_passStepsOf_43 : decode cX6_passStepsOf 43 = .ok (.iconst 2, 1) := by decide +kernel
theorem dX6_passStepsOf_44 : decode cX6_passStepsOf 44 = .ok (.putfield 197, 3) := by decide +kernel
theorem dX6_passStepsOf_47 : decode cX6_passStepsOf 47 = .ok (.return_, 1) := by decide +kernel
theorem dX6_nextApproverOf_0 : decode cX6_nextApproverOf 0 = .ok (.aload_n 1, 1) := by decide +kernel
theorem dX6_nextApproverOf_1 : decode cX6_nextApproverOf 1 = .ok (.getfield 197, 3) := by decide +kernel
theorem dX6_nextApproverOf_4 : decode cX6_nextApproverOf 4 = .ok (.iconst 1, 1) := by decide +kernel
theorem dX6_nextApproverOf_5 : decode cX6_nextApproverOf 5 = .ok (.if_icmp .ne 10, 3) := by decide +kernel
theorem dX6_nextApproverOf_8 : decode cX6_nextApproverOf 8 = .ok (.aload_n 1, 1) := by decide +kernel
theorem dX6_nextApproverOf_9 : decode cX6_nextApproverOf 9 = .ok (.invokevirtual 405, 3) := by decide +kernel
theorem dX6_nextApproverOf_12 : decode cX6_nextApproverOf 12 = .ok (.goto 4, 3) := by decide +kernel
theorem dX6_nextApproverOf_15 : decode cX6_nextApproverOf 15 = .ok (.aconst_null, 1) := by decide +kernel
theorem dX6_nextApproverOf_16 : decode cX6_nextApproverOf 16 = .ok (.astore_n 2, 1) := by decide +kernel
theorem dX6_nextApproverOf_17 : decode cX6_nextApproverOf 17 = .ok (.aload_n 2, 1) := by decide +kernel
theorem dX6_nextApproverOf_18 : decode cX6_nextApproverOf 18 = .ok (.ifnull 14, 3) := by decide +kernel
theorem dX6_nextApproverOf_21 : decode cX6_nextApproverOf 21 = .ok (.aload_n 2, 1) := by decide +kernel
theorem dX6_nextApproverOf_22 : decode cX6_nextApproverOf 22 = .ok (.aload_n 0, 1) := by decide +kernel
theorem dX6_nextApproverOf_23 : decode cX6_nextApproverOf 23 = .ok (.getfield 43, 3) := by decide +kernel
theorem dX6_nextApproverOf_26 : decode cX6_nextApproverOf 26 = .ok (.invokevirtual 91, 3) := by decide +kernel
theorem dX6_nextApproverOf_29 : decode cX6_nextApproverOf 29 = .ok (.ifCond .ne 5, 3) := by decide +kernel
theorem dX6_nextApproverOf_32 : decode cX6_nextApproverOf 32 = .ok (.aload_n 2, 1) := by decide +kernel
theorem dX6_nextApproverOf_33 : decode cX6_nextApproverOf 33 = .ok (.areturn, 1) := by decide +kernel
theorem dX6_nextApproverOf_34 : decode cX6_nextApproverOf 34 = .ok (.aload_n 2, 1) := by decide +kernel
theorem dX6_nextApproverOf_35 : decode cX6_nextApproverOf 35 = .ok (.getfield 98, 3) := by decide +kernel
theorem dX6_nextApproverOf_38 : decode cX6_nextApproverOf 38 = .ok (.astore_n 3, 1) := by decide +kernel
theorem dX6_nextApproverOf_39 : decode cX6_nextApproverOf 39 = .ok (.aload_n 3, 1) := by decide +kernel
theorem dX6_nextApproverOf_40 : decode cX6_nextApproverOf 40 = .ok (.ifnull 22, 3) := by decide +kernel
theorem dX6_nextApproverOf_43 : decode cX6_nextApproverOf 43 = .ok (.aload_n 3, 1) := by decide +kernel
theorem dX6_nextApproverOf_44 : decode cX6_nextApproverOf 44 = .ok (.aload_n 1, 1) := by decide +kernel
theorem dX6_nextApproverOf_45 : decode cX6_nextApproverOf 45 = .ok (.getfield 211, 3) := by decide +kernel
theorem dX6_nextApproverOf_48 : decode cX6_nextApproverOf 48 = .ok (.if_acmp .eq 14, 3) := by decide +kernel
theorem dX6_nextApproverOf_51 : decode cX6_nextApproverOf 51 = .ok (.aload_n 3, 1) := by decide +kernel
theorem dX6_nextApproverOf_52 : decode cX6_nextApproverOf 52 = .ok (.aload_n 0, 1) := by decide +kernel
theorem dX6_nextApproverOf_53 : decode cX6_nextApproverOf 53 = .ok (.getfield 43, 3) := by decide +kernel
theorem dX6_nextApproverOf_56 : decode cX6_nextApproverOf 56 = .ok (.invokevirtual 91, 3) := by decide +kernel
theorem dX6_nextApproverOf_59 : decode cX6_nextApproverOf 59 = .ok (.ifCond .eq 5, 3) := by decide +kernel
theorem dX6_nextApproverOf_62 : decode cX6_nextApproverOf 62 = .ok (.aconst_null, 1) := by decide +kernel
theorem dX6_nextApproverOf_63 : decode cX6_nextApproverOf 63 = .ok (.areturn, 1) := by decide +kernel
theorem dX6_nextApproverOf_64 : decode cX6_nextApproverOf 64 = .ok (.aload_n 3, 1) := by decide +kernel
theorem dX6_nextApproverOf_65 : decode cX6_nextApproverOf 65 = .ok (.areturn, 1) := by decide +kernel
theorem dX6_isOverdue_0 : decode cX6_isOverdue 0 = .ok (.aload_n 0, 1) := by decide +kernel
theorem dX6_isOverdue_1 : decode cX6_isOverdue 1 = .ok (.getfield 43, 3) := by decide +kernel
theorem dX6_isOverdue_4 : decode cX6_isOverdue 4 = .ok (.aload_n 1, 1) := by decide +kernel
theorem dX6_isOverdue_5 : decode cX6_isOverdue 5 = .ok (.getfield 220, 3) := by decide +kernel
theorem dX6_isOverdue_8 : decode cX6_isOverdue 8 = .ok (.isub, 1) := by decide +kernel
theorem dX6_isOverdue_9 : decode cX6_isOverdue 9 = .ok (.istore_n 2, 1) := by decide +kernel
theorem dX6_isOverdue_10 : decode cX6_isOverdue 10 = .ok (.aload_n 1, 1) := by decide +kernel
theorem dX6_isOverdue_11 : decode cX6_isOverdue 11 = .ok (.getfield 197, 3) := by decide +kernel
theorem dX6_isOverdue_14 : decode cX6_isOverdue 14 = .ok (.ifCond .ne 19, 3) := by decide +kernel
theorem dX6_isOverdue_17 : decode cX6_isOverdue 17 = .ok (.iload_n 2, 1) := by decide +kernel
theorem dX6_isOverdue_18 : decode cX6_isOverdue 18 = .ok (.bipush 8, 2) := by decide +kernel
theorem dX6_isOverdue_20 : decode cX6_isOverdue 20 = .ok (.if_icmp .eq 9, 3) := by decide +kernel
theorem dX6_isOverdue_23 : decode cX6_isOverdue 23 = .ok (.iload_n 2, 1) := by decide +kernel
theorem dX6_isOverdue_24 : decode cX6_isOverdue 24 = .ok (.bipush 15, 2) := by decide +kernel
theorem dX6_isOverdue_26 : decode cX6_isOverdue 26 = .ok (.if_icmp .lt 7, 3) := by decide +kernel
theorem dX6_isOverdue_29 : decode cX6_isOverdue 29 = .ok (.iconst 1, 1) := by decide +kernel
theorem dX6_isOverdue_30 : decode cX6_isOverdue 30 = .ok (.goto 4, 3) := by decide +kernel
theorem dX6_isOverdue_33 : decode cX6_isOverdue 33 = .ok (.iconst 0, 1) := by decide +kernel
theorem dX6_isOverdue_34 : decode cX6_isOverdue 34 = .ok (.ireturn, 1) := by decide +kernel
theorem dX6_bearDelay_0 : decode cX6_bearDelay 0 = .ok (.aload_n 0, 1) := by decide +kernel
theorem dX6_bearDelay_1 : decode cX6_bearDelay 1 = .ok (.getfield 43, 3) := by decide +kernel
theorem dX6_bearDelay_4 : decode cX6_bearDelay 4 = .ok (.aload_n 1, 1) := by decide +kernel
theorem dX6_bearDelay_5 : decode cX6_bearDelay 5 = .ok (.getfield 220, 3) := by decide +kernel
theorem dX6_bearDelay_8 : decode cX6_bearDelay 8 = .ok (.isub, 1) := by decide +kernel
theorem dX6_bearDelay_9 : decode cX6_bearDelay 9 = .ok (.bipush 15, 2) := by decide +kernel
theorem dX6_bearDelay_11 : decode cX6_bearDelay 11 = .ok (.if_icmp .lt 11, 3) := by decide +kernel
theorem dX6_bearDelay_14 : decode cX6_bearDelay 14 = .ok (.aload_n 1, 1) := by decide +kernel
theorem dX6_bearDelay_15 : decode cX6_bearDelay 15 = .ok (.iconst 3, 1) := by decide +kernel
theorem dX6_bearDelay_16 : decode cX6_bearDelay 16 = .ok (.putfield 197, 3) := by decide +kernel
theorem dX6_bearDelay_19 : decode cX6_bearDelay 19 = .ok (.goto 8, 3) := by decide +kernel
theorem dX6_bearDelay_22 : decode cX6_bearDelay 22 = .ok (.aload_n 1, 1) := by decide +kernel
theorem dX6_bearDelay_23 : decode cX6_bearDelay 23 = .ok (.iconst 1, 1) := by decide +kernel
theorem dX6_bearDelay_24 : decode cX6_bearDelay 24 = .ok (.putfield 239, 3) := by decide +kernel
theorem dX6_bearDelay_27 : decode cX6_bearDelay 27 = .ok (.aload_n 1, 1) := by decide +kernel
theorem dX6_bearDelay_28 : decode cX6_bearDelay 28 = .ok (.getfield 211, 3) := by decide +kernel
theorem dX6_bearDelay_31 : decode cX6_bearDelay 31 = .ok (.invokevirtual 409, 3) := by decide +kernel
theorem dX6_bearDelay_34 : decode cX6_bearDelay 34 = .ok (.return_, 1) := by decide +kernel
theorem dX6_trustLostBy_0 : decode cX6_trustLostBy 0 = .ok (.aload_n 1, 1) := by decide +kernel
theorem dX6_trustLostBy_1 : decode cX6_trustLostBy 1 = .ok (.getfield 220, 3) := by decide +kernel
theorem dX6_trustLostBy_4 : decode cX6_trustLostBy 4 = .ok (.bipush 8, 2) := by decide +kernel
theorem dX6_trustLostBy_6 : decode cX6_trustLostBy 6 = .ok (.iadd, 1) := by decide +kernel
theorem dX6_trustLostBy_7 : decode cX6_trustLostBy 7 = .ok (.istore_n 3, 1) := by decide +kernel
theorem dX6_trustLostBy_8 : decode cX6_trustLostBy 8 = .ok (.aload_n 1, 1) := by decide +kernel
theorem dX6_trustLostBy_9 : decode cX6_trustLostBy 9 = .ok (.getfield 220, 3) := by decide +kernel
theorem dX6_trustLostBy_12 : decode cX6_trustLostBy 12 = .ok (.bipush 15, 2) := by decide +kernel
theorem dX6_trustLostBy_14 : decode cX6_trustLostBy 14 = .ok (.iadd, 1) := by decide +kernel
theorem dX6_trustLostBy_15 : decode cX6_trustLostBy 15 = .ok (.aload_n 0, 1) := by decide +kernel
theorem dX6_trustLostBy_16 : decode cX6_trustLostBy 16 = .ok (.getfield 43, 3) := by decide +kernel
theorem dX6_trustLostBy_19 : decode cX6_trustLostBy 19 = .ok (.iconst 1, 1) := by decide +kernel
theorem dX6_trustLostBy_20 : decode cX6_trustLostBy 20 = .ok (.iadd, 1) := by decide +kernel
theorem dX6_trustLostBy_21 : decode cX6_trustLostBy 21 = .ok (.invokestatic 292, 3) := by decide +kernel
theorem dX6_trustLostBy_24 : decode cX6_trustLostBy 24 = .ok (.istore 4, 2) := by decide +kernel
theorem dX6_trustLostBy_26 : decode cX6_trustLostBy 26 = .ok (.iconst 0, 1) := by decide +kernel
theorem dX6_trustLostBy_27 : decode cX6_trustLostBy 27 = .ok (.istore 5, 2) := by decide +kernel
theorem dX6_trustLostBy_29 : decode cX6_trustLostBy 29 = .ok (.iload_n 3, 1) := by decide +kernel
theorem dX6_trustLostBy_30 : decode cX6_trustLostBy 30 = .ok (.aload_n 0, 1) := by decide +kernel
theorem dX6_trustLostBy_31 : decode cX6_trustLostBy 31 = .ok (.getfield 43, 3) := by decide +kernel
theorem dX6_trustLostBy_34 : decode cX6_trustLostBy 34 = .ok (.if_icmp .le 11, 3) := by decide +kernel
theorem dX6_trustLostBy_37 : decode cX6_trustLostBy 37 = .ok (.iload_n 3, 1) := by decide +kernel
theorem dX6_trustLostBy_38 : decode cX6_trustLostBy 38 = .ok (.iload_n 2, 1) := by decide +kernel
theorem dX6_trustLostBy_39 : decode cX6_trustLostBy 39 = .ok (.if_icmp .gt 6, 3) := by decide +kernel
theorem dX6_trustLostBy_42 : decode cX6_trustLostBy 42 = .ok (.iinc 5 1, 3) := by decide +kernel
theorem dX6_trustLostBy_45 : decode cX6_trustLostBy 45 = .ok (.iload 4, 2) := by decide +kernel
theorem dX6_trustLostBy_47 : decode cX6_trustLostBy 47 = .ok (.iload_n 2, 1) := by decide +kernel
theorem dX6_trustLostBy_48 : decode cX6_trustLostBy 48 = .ok (.if_icmp .gt 6, 3) := by decide +kernel
theorem dX6_trustLostBy_51 : decode cX6_trustLostBy 51 = .ok (.iinc 5 1, 3) := by decide +kernel
theorem dX6_trustLostBy_54 : decode cX6_trustLostBy 54 = .ok (.iload 5, 2) := by decide +kernel
theorem dX6_trustLostBy_56 : decode cX6_trustLostBy 56 = .ok (.ireturn, 1) := by decide +kernel
theorem dX6_countInState_0 : decode cX6_countInState 0 = .ok (.iconst 0, 1) := by decide +kernel
theorem dX6_countInState_1 : decode cX6_countInState 1 = .ok (.istore_n 2, 1) := by decide +kernel
theorem dX6_countInState_2 : decode cX6_countInState 2 = .ok (.iconst 0, 1) := by decide +kernel
theorem dX6_countInState_3 : decode cX6_countInState 3 = .ok (.istore_n 3, 1) := by decide +kernel
theorem dX6_countInState_4 : decode cX6_countInState 4 = .ok (.iload_n 3, 1) := by decide +kernel
theorem dX6_countInState_5 : decode cX6_countInState 5 = .ok (.aload_n 0, 1) := by decide +kernel
theorem dX6_countInState_6 : decode cX6_countInState 6 = .ok (.getfield 19, 3) := by decide +kernel
theorem dX6_countInState_9 : decode cX6_countInState 9 = .ok (.invokevirtual 51, 3) := by decide +kernel
theorem dX6_countInState_12 : decode cX6_countInState 12 = .ok (.if_icmp .ge 30, 3) := by decide +kernel
theorem dX6_countInState_15 : decode cX6_countInState 15 = .ok (.aload_n 0, 1) := by decide +kernel
theorem dX6_countInState_16 : decode cX6_countInState 16 = .ok (.getfield 19, 3) := by decide +kernel
theorem dX6_countInState_19 : decode cX6_countInState 19 = .ok (.iload_n 3, 1) := by decide +kernel
theorem dX6_countInState_20 : decode cX6_countInState 20 = .ok (.invokevirtual 253, 3) := by decide +kernel
theorem dX6_countInState_23 : decode cX6_countInState 23 = .ok (.checkcast 155, 3) := by decide +kernel
theorem dX6_countInState_26 : decode cX6_countInState 26 = .ok (.getfield 197, 3) := by decide +kernel
theorem dX6_countInState_29 : decode cX6_countInState 29 = .ok (.iload_n 1, 1) := by decide +kernel
theorem dX6_countInState_30 : decode cX6_countInState 30 = .ok (.if_icmp .ne 6, 3) := by decide +kernel
theorem dX6_countInState_33 : decode cX6_countInState 33 = .ok (.iinc 2 1, 3) := by decide +kernel
theorem dX6_countInState_36 : decode cX6_countInState 36 = .ok (.iinc 3 1, 3) := by decide +kernel
theorem dX6_countInState_39 : decode cX6_countInState 39 = .ok (.goto (-35), 3) := by decide +kernel
theorem dX6_countInState_42 : decode cX6_countInState 42 = .ok (.iload_n 2, 1) := by decide +kernel
theorem dX6_countInState_43 : decode cX6_countInState 43 = .ok (.ireturn, 1) := by decide +kernel
theorem dX6_countOpenOf_0 : decode cX6_countOpenOf 0 = .ok (.iconst 0, 1) := by decide +kernel
theorem dX6_countOpenOf_1 : decode cX6_countOpenOf 1 = .ok (.istore_n 2, 1) := by decide +kernel
theorem dX6_countOpenOf_2 : decode cX6_countOpenOf 2 = .ok (.iconst 0, 1) := by decide +kernel
theorem dX6_countOpenOf_3 : decode cX6_countOpenOf 3 = .ok (.istore_n 3, 1) := by decide +kernel
theorem dX6_countOpenOf_4 : decode cX6_countOpenOf 4 = .ok (.iload_n 3, 1) := by decide +kernel
theorem dX6_countOpenOf_5 : decode cX6_countOpenOf 5 = .ok (.aload_n 0, 1) := by decide +kernel
theorem dX6_countOpenOf_6 : decode cX6_countOpenOf 6 = .ok (.getfield 19, 3) := by decide +kernel
theorem dX6_countOpenOf_9 : decode cX6_countOpenOf 9 = .ok (.invokevirtual 51, 3) := by decide +kernel
theorem dX6_countOpenOf_12 : decode cX6_countOpenOf 12 = .ok (.if_icmp .ge 42, 3) := by decide +kernel
theorem dX6_countOpenOf_15 : decode cX6_countOpenOf 15 = .ok (.aload_n 0, 1) := by decide +kernel
theorem dX6_countOpenOf_16 : decode cX6_countOpenOf 16 = .ok (.getfield 19, 3) := by decide +kernel
theorem dX6_countOpenOf_19 : decode cX6_countOpenOf 19 = .ok (.iload_n 3, 1) := by decide +kernel
theorem dX6_countOpenOf_20 : decode cX6_countOpenOf 20 = .ok (.invokevirtual 253, 3) := by decide +kernel
theorem dX6_countOpenOf_23 : decode cX6_countOpenOf 23 = .ok (.checkcast 155, 3) := by decide +kernel
theorem dX6_countOpenOf_26 : decode cX6_countOpenOf 26 = .ok (.astore 4, 2) := by decide +kernel
theorem dX6_countOpenOf_28 : decode cX6_countOpenOf 28 = .ok (.aload 4, 2) := by decide +kernel
theorem dX6_countOpenOf_30 : decode cX6_countOpenOf 30 = .ok (.getfield 211, 3) := by decide +kernel
theorem dX6_countOpenOf_33 : decode cX6_countOpenOf 33 = .ok (.aload_n 1, 1) := by decide +kernel
theorem dX6_countOpenOf_34 : decode cX6_countOpenOf 34 = .ok (.if_acmp .ne 14, 3) := by decide +kernel
theorem dX6_countOpenOf_37 : decode cX6_countOpenOf 37 = .ok (.aload 4, 2) := by decide +kernel
theorem dX6_countOpenOf_39 : decode cX6_countOpenOf 39 = .ok (.getfield 197, 3) := by decide +kernel
theorem dX6_countOpenOf_42 : decode cX6_countOpenOf 42 = .ok (.ifCond .ne 6, 3) := by decide +kernel
theorem dX6_countOpenOf_45 : decode cX6_countOpenOf 45 = .ok (.iinc 2 1, 3) := by decide +kernel
theorem dX6_countOpenOf_48 : decode cX6_countOpenOf 48 = .ok (.iinc 3 1, 3) := by decide +kernel
theorem dX6_countOpenOf_51 : decode cX6_countOpenOf 51 = .ok (.goto (-47), 3) := by decide +kernel
theorem dX6_countOpenOf_54 : decode cX6_countOpenOf 54 = .ok (.iload_n 2, 1) := by decide +kernel
theorem dX6_countOpenOf_55 : decode cX6_countOpenOf 55 = .ok (.ireturn, 1) := by decide +kernel
theorem dX6_repaidAmountOf_0 : decode cX6_repaidAmountOf 0 = .ok (.iconst 0, 1) := by decide +kernel
theorem dX6_repaidAmountOf_1 : decode cX6_repaidAmountOf 1 = .ok (.istore_n 2, 1) := by decide +kernel
theorem dX6_repaidAmountOf_2 : decode cX6_repaidAmountOf 2 = .ok (.iconst 0, 1) := by decide +kernel
theorem dX6_repaidAmountOf_3 : decode cX6_repaidAmountOf 3 = .ok (.istore_n 3, 1) := by decide +kernel
theorem dX6_repaidAmountOf_4 : decode cX6_repaidAmountOf 4 = .ok (.iload_n 3, 1) := by decide +kernel
theorem dX6_repaidAmountOf_5 : decode cX6_repaidAmountOf 5 = .ok (.aload_n 0, 1) := by decide +kernel
theorem dX6_repaidAmountOf_6 : decode cX6_repaidAmountOf 6 = .ok (.getfield 19, 3) := by decide +kernel
theorem dX6_repaidAmountOf_9 : decode cX6_repaidAmountOf 9 = .ok (.invokevirtual 51, 3) := by decide +kernel
theorem dX6_repaidAmountOf_12 : decode cX6_repaidAmountOf 12 = .ok (.if_icmp .ge 48, 3) := by decide +kernel
theorem dX6_repaidAmountOf_15 : decode cX6_repaidAmountOf 15 = .ok (.aload_n 0, 1) := by decide +kernel
theorem dX6_repaidAmountOf_16 : decode cX6_repaidAmountOf 16 = .ok (.getfield 19, 3) := by decide +kernel
theorem dX6_repaidAmountOf_19 : decode cX6_repaidAmountOf 19 = .ok (.iload_n 3, 1) := by decide +kernel
theorem dX6_repaidAmountOf_20 : decode cX6_repaidAmountOf 20 = .ok (.invokevirtual 253, 3) := by decide +kernel
theorem dX6_repaidAmountOf_23 : decode cX6_repaidAmountOf 23 = .ok (.checkcast 155, 3) := by decide +kernel
theorem dX6_repaidAmountOf_26 : decode cX6_repaidAmountOf 26 = .ok (.astore 4, 2) := by decide +kernel
theorem dX6_repaidAmountOf_28 : decode cX6_repaidAmountOf 28 = .ok (.aload 4, 2) := by decide +kernel
theorem dX6_repaidAmountOf_30 : decode cX6_repaidAmountOf 30 = .ok (.getfield 211, 3) := by decide +kernel
theorem dX6_repaidAmountOf_33 : decode cX6_repaidAmountOf 33 = .ok (.aload_n 1, 1) := by decide +kernel
theorem dX6_repaidAmountOf_34 : decode cX6_repaidAmountOf 34 = .ok (.if_acmp .ne 20, 3) := by decide +kernel
theorem dX6_repaidAmountOf_37 : decode cX6_repaidAmountOf 37 = .ok (.aload 4, 2) := by decide +kernel
theorem dX6_repaidAmountOf_39 : decode cX6_repaidAmountOf 39 = .ok (.getfield 197, 3) := by decide +kernel
theorem dX6_repaidAmountOf_42 : decode cX6_repaidAmountOf 42 = .ok (.iconst 3, 1) := by decide +kernel
theorem dX6_repaidAmountOf_43 : decode cX6_repaidAmountOf 43 = .ok (.if_icmp .ne 11, 3) := by decide +kernel
theorem dX6_repaidAmountOf_46 : decode cX6_repaidAmountOf 46 = .ok (.iload_n 2, 1) := by decide +kernel
theorem dX6_repaidAmountOf_47 : decode cX6_repaidAmountOf 47 = .ok (.aload 4, 2) := by decide +kernel
theorem dX6_repaidAmountOf_49 : decode cX6_repaidAmountOf 49 = .ok (.getfield 217, 3) := by decide +kernel
theorem dX6_repaidAmountOf_52 : decode cX6_repaidAmountOf 52 = .ok (.iadd, 1) := by decide +kernel
theorem dX6_repaidAmountOf_53 : decode cX6_repaidAmountOf 53 = .ok (.istore_n 2, 1) := by decide +kernel
theorem dX6_repaidAmountOf_54 : decode cX6_repaidAmountOf 54 = .ok (.iinc 3 1, 3) := by decide +kernel
theorem dX6_repaidAmountOf_57 : decode cX6_repaidAmountOf 57 = .ok (.goto (-53), 3) := by decide +kernel
theorem dX6_repaidAmountOf_60 : decode cX6_repaidAmountOf 60 = .ok (.iload_n 2, 1) := by decide +kernel
theorem dX6_repaidAmountOf_61 : decode cX6_repaidAmountOf 61 = .ok (.ireturn, 1) := by decide +kernel
theorem dX6_countToApproveBy_0 : decode cX6_countToApproveBy 0 = .ok (.iconst 0, 1) := by decide +kernel
theorem dX6_countToApproveBy_1 : decode cX6_countToApproveBy 1 = .ok (.istore_n 2, 1) := by decide +kernel
theorem dX6_countToApproveBy_2 : decode cX6_countToApproveBy 2 = .ok (.iconst 0, 1) := by decide +kernel
theorem dX6_countToApproveBy_3 : decode cX6_countToApproveBy 3 = .ok (.istore_n 3, 1) := by decide +kernel
theorem dX6_countToApproveBy_4 : decode cX6_countToApproveBy 4 = .ok (.iload_n 3, 1) := by decide +kernel
theorem dX6_countToApproveBy_5 : decode cX6_countToApproveBy 5 = .ok (.aload_n 0, 1) := by decide +kernel
theorem dX6_countToApproveBy_6 : decode cX6_countToApproveBy 6 = .ok (.getfield 19, 3) := by decide +kernel
theorem dX6_countToApproveBy_9 : decode cX6_countToApproveBy 9 = .ok (.invokevirtual 51, 3) := by decide +kernel
theorem dX6_countToApproveBy_12 : decode cX6_countToApproveBy 12 = .ok (.if_icmp .ge 31, 3) := by decide +kernel
theorem dX6_countToApproveBy_15 : decode cX6_countToApproveBy 15 = .ok (.aload_n 0, 1) := by decide +kernel
theorem dX6_countToApproveBy_16 : decode cX6_countToApproveBy 16 = .ok (.aload_n 0, 1) := by decide +kernel
theorem dX6_countToApproveBy_17 : decode cX6_countToApproveBy 17 = .ok (.getfield 19, 3) := by decide +kernel
theorem dX6_countToApproveBy_20 : decode cX6_countToApproveBy 20 = .ok (.iload_n 3, 1) := by decide +kernel
theorem dX6_countToApproveBy_21 : decode cX6_countToApproveBy 21 = .ok (.invokevirtual 253, 3) := by decide +kernel
theorem dX6_countToApproveBy_24 : decode cX6_countToApproveBy 24 = .ok (.checkcast 155, 3) := by decide +kernel
theorem dX6_countToApproveBy_27 : decode cX6_countToApproveBy 27 = .ok (.invokevirtual 235, 3) := by decide +kernel
theorem dX6_countToApproveBy_30 : decode cX6_countToApproveBy 30 = .ok (.aload_n 1, 1) := by decide +kernel
theorem dX6_countToApproveBy_31 : decode cX6_countToApproveBy 31 = .ok (.if_acmp .ne 6, 3) := by decide +kernel
theorem dX6_countToApproveBy_34 : decode cX6_countToApproveBy 34 = .ok (.iinc 2 1, 3) := by decide +kernel
theorem dX6_countToApproveBy_37 : decode cX6_countToApproveBy 37 = .ok (.iinc 3 1, 3) := by decide +kernel
theorem dX6_countToApproveBy_40 : decode cX6_countToApproveBy 40 = .ok (.goto (-36), 3) := by decide +kernel
theorem dX6_countToApproveBy_43 : decode cX6_countToApproveBy 43 = .ok (.iload_n 2, 1) := by decide +kernel
theorem dX6_countToApproveBy_44 : decode cX6_countToApproveBy 44 = .ok (.ireturn, 1) := by decide +kernel
theorem dX6_countFreeReceipts_0 : decode cX6_countFreeReceipts 0 = .ok (.iconst 0, 1) := by decide +kernel
theorem dX6_countFreeReceipts_1 : decode cX6_countFreeReceipts 1 = .ok (.istore_n 1, 1) := by decide +kernel
theorem dX6_countFreeReceipts_2 : decode cX6_countFreeReceipts 2 = .ok (.iconst 0, 1) := by decide +kernel
theorem dX6_countFreeReceipts_3 : decode cX6_countFreeReceipts 3 = .ok (.istore_n 2, 1) := by decide +kernel
theorem dX6_countFreeReceipts_4 : decode cX6_countFreeReceipts 4 = .ok (.iload_n 2, 1) := by decide +kernel
theorem dX6_countFreeReceipts_5 : decode cX6_countFreeReceipts 5 = .ok (.aload_n 0, 1) := by decide +kernel
theorem dX6_countFreeReceipts_6 : decode cX6_countFreeReceipts 6 = .ok (.getfield 22, 3) := by decide +kernel
theorem dX6_countFreeReceipts_9 : decode cX6_countFreeReceipts 9 = .ok (.invokevirtual 51, 3) := by decide +kernel
theorem dX6_countFreeReceipts_12 : decode cX6_countFreeReceipts 12 = .ok (.if_icmp .ge 29, 3) := by decide +kernel
theorem dX6_countFreeReceipts_15 : decode cX6_countFreeReceipts 15 = .ok (.aload_n 0, 1) := by decide +kernel
theorem dX6_countFreeReceipts_16 : decode cX6_countFreeReceipts 16 = .ok (.getfield 22, 3) := by decide +kernel
theorem dX6_countFreeReceipts_19 : decode cX6_countFreeReceipts 19 = .ok (.iload_n 2, 1) := by decide +kernel
theorem dX6_countFreeReceipts_20 : decode cX6_countFreeReceipts 20 = .ok (.invokevirtual 253, 3) := by decide +kernel
theorem dX6_countFreeReceipts_23 : decode cX6_countFreeReceipts 23 = .ok (.checkcast 177, 3) := by decide +kernel
theorem dX6_countFreeReceipts_26 : decode cX6_countFreeReceipts 26 = .ok (.getfield 182, 3) := by decide +kernel
theorem dX6_countFreeReceipts_29 : decode cX6_countFreeReceipts 29 = .ok (.ifnonnull 6, 3) := by decide +kernel
theorem dX6_countFreeReceipts_32 : decode cX6_countFreeReceipts 32 = .ok (.iinc 1 1, 3) := by decide +kernel
theorem dX6_countFreeReceipts_35 : decode cX6_countFreeReceipts 35 = .ok (.iinc 2 1, 3) := by decide +kernel
theorem dX6_countFreeReceipts_38 : decode cX6_countFreeReceipts 38 = .ok (.goto (-34), 3) := by decide +kernel
theorem dX6_countFreeReceipts_41 : decode cX6_countFreeReceipts 41 = .ok (.iload_n 1, 1) := by decide +kernel
theorem dX6_countFreeReceipts_42 : decode cX6_countFreeReceipts 42 = .ok (.ireturn, 1) := by decide +kernel
theorem dX6_amountNotRepaid_0 : decode cX6_amountNotRepaid 0 = .ok (.iconst 0, 1) := by decide +kernel
theorem dX6_amountNotRepaid_1 : decode cX6_amountNotRepaid 1 = .ok (.istore_n 1, 1) := by decide +kernel
theorem dX6_amountNotRepaid_2 : decode cX6_amountNotRepaid 2 = .ok (.iconst 0, 1) := by decide +kernel
theorem dX6_amountNotRepaid_3 : decode cX6_amountNotRepaid 3 = .ok (.istore_n 2, 1) := by decide +kernel
theorem dX6_amountNotRepaid_4 : decode cX6_amountNotRepaid 4 = .ok (.iload_n 2, 1) := by decide +kernel
theorem dX6_amountNotRepaid_5 : decode cX6_amountNotRepaid 5 = .ok (.aload_n 0, 1) := by decide +kernel
theorem dX6_amountNotRepaid_6 : decode cX6_amountNotRepaid 6 = .ok (.getfield 19, 3) := by decide +kernel
theorem dX6_amountNotRepaid_9 : decode cX6_amountNotRepaid 9 = .ok (.invokevirtual 51, 3) := by decide +kernel
theorem dX6_amountNotRepaid_12 : decode cX6_amountNotRepaid 12 = .ok (.if_icmp .ge 36, 3) := by decide +kernel
theorem dX6_amountNotRepaid_15 : decode cX6_amountNotRepaid 15 = .ok (.aload_n 0, 1) := by decide +kernel
theorem dX6_amountNotRepaid_16 : decode cX6_amountNotRepaid 16 = .ok (.getfield 19, 3) := by decide +kernel
theorem dX6_amountNotRepaid_19 : decode cX6_amountNotRepaid 19 = .ok (.iload_n 2, 1) := by decide +kernel
theorem dX6_amountNotRepaid_20 : decode cX6_amountNotRepaid 20 = .ok (.invokevirtual 253, 3) := by decide +kernel
theorem dX6_amountNotRepaid_23 : decode cX6_amountNotRepaid 23 = .ok (.checkcast 155, 3) := by decide +kernel
theorem dX6_amountNotRepaid_26 : decode cX6_amountNotRepaid 26 = .ok (.astore_n 3, 1) := by decide +kernel
theorem dX6_amountNotRepaid_27 : decode cX6_amountNotRepaid 27 = .ok (.aload_n 3, 1) := by decide +kernel
theorem dX6_amountNotRepaid_28 : decode cX6_amountNotRepaid 28 = .ok (.getfield 197, 3) := by decide +kernel
theorem dX6_amountNotRepaid_31 : decode cX6_amountNotRepaid 31 = .ok (.iconst 3, 1) := by decide +kernel
theorem dX6_amountNotRepaid_32 : decode cX6_amountNotRepaid 32 = .ok (.if_icmp .eq 10, 3) := by decide +kernel
theorem dX6_amountNotRepaid_35 : decode cX6_amountNotRepaid 35 = .ok (.iload_n 1, 1) := by decide +kernel
theorem dX6_amountNotRepaid_36 : decode cX6_amountNotRepaid 36 = .ok (.aload_n 3, 1) := by decide +kernel
theorem dX6_amountNotRepaid_37 : decode cX6_amountNotRepaid 37 = .ok (.getfield 217, 3) := by decide +kernel
theorem dX6_amountNotRepaid_40 : decode cX6_amountNotRepaid 40 = .ok (.iadd, 1) := by decide +kernel
theorem dX6_amountNotRepaid_41 : decode cX6_amountNotRepaid 41 = .ok (.istore_n 1, 1) := by decide +kernel
theorem dX6_amountNotRepaid_42 : decode cX6_amountNotRepaid 42 = .ok (.iinc 2 1, 3) := by decide +kernel
theorem dX6_amountNotRepaid_45 : decode cX6_amountNotRepaid 45 = .ok (.goto (-41), 3) := by decide +kernel
theorem dX6_amountNotRepaid_48 : decode cX6_amountNotRepaid 48 = .ok (.iload_n 1, 1) := by decide +kernel
theorem dX6_amountNotRepaid_49 : decode cX6_amountNotRepaid 49 = .ok (.ireturn, 1) := by decide +kernel
theorem dX6_costOfAll_0 : decode cX6_costOfAll 0 = .ok (.iconst 0, 1) := by decide +kernel
theorem dX6_costOfAll_1 : decode cX6_costOfAll 1 = .ok (.istore_n 1, 1) := by decide +kernel
theorem dX6_costOfAll_2 : decode cX6_costOfAll 2 = .ok (.iconst 0, 1) := by decide +kernel
theorem dX6_costOfAll_3 : decode cX6_costOfAll 3 = .ok (.istore_n 2, 1) := by decide +kernel
theorem dX6_costOfAll_4 : decode cX6_costOfAll 4 = .ok (.iload_n 2, 1) := by decide +kernel
theorem dX6_costOfAll_5 : decode cX6_costOfAll 5 = .ok (.aload_n 0, 1) := by decide +kernel
theorem dX6_costOfAll_6 : decode cX6_costOfAll 6 = .ok (.getfield 19, 3) := by decide +kernel
theorem dX6_costOfAll_9 : decode cX6_costOfAll 9 = .ok (.invokevirtual 51, 3) := by decide +kernel
theorem dX6_costOfAll_12 : decode cX6_costOfAll 12 = .ok (.if_icmp .ge 28, 3) := by decide +kernel
theorem dX6_costOfAll_15 : decode cX6_costOfAll 15 = .ok (.iload_n 1, 1) := by decide +kernel
theorem dX6_costOfAll_16 : decode cX6_costOfAll 16 = .ok (.aload_n 0, 1) := by decide +kernel
theorem dX6_costOfAll_17 : decode cX6_costOfAll 17 = .ok (.aload_n 0, 1) := by decide +kernel
theorem dX6_costOfAll_18 : decode cX6_costOfAll 18 = .ok (.getfield 19, 3) := by decide +kernel
theorem dX6_costOfAll_21 : decode cX6_costOfAll 21 = .ok (.iload_n 2, 1) := by decide +kernel
theorem dX6_costOfAll_22 : decode cX6_costOfAll 22 = .ok (.invokevirtual 253, 3) := by decide +kernel
theorem dX6_costOfAll_25 : decode cX6_costOfAll 25 = .ok (.checkcast 155, 3) := by decide +kernel
theorem dX6_costOfAll_28 : decode cX6_costOfAll 28 = .ok (.iconst 0, 1) := by decide +kernel
theorem dX6_costOfAll_29 : decode cX6_costOfAll 29 = .ok (.invokevirtual 231, 3) := by decide +kernel
theorem dX6_costOfAll_32 : decode cX6_costOfAll 32 = .ok (.iadd, 1) := by decide +kernel
theorem dX6_costOfAll_33 : decode cX6_costOfAll 33 = .ok (.istore_n 1, 1) := by decide +kernel
theorem dX6_costOfAll_34 : decode cX6_costOfAll 34 = .ok (.iinc 2 1, 3) := by decide +kernel
theorem dX6_costOfAll_37 : decode cX6_costOfAll 37 = .ok (.goto (-33), 3) := by decide +kernel
theorem dX6_costOfAll_40 : decode cX6_costOfAll 40 = .ok (.iload_n 1, 1) := by decide +kernel
theorem dX6_costOfAll_41 : decode cX6_costOfAll 41 = .ok (.ireturn, 1) := by decide +kernel
theorem dX6_mixed_0 : decode cX6_mixed 0 = .ok (.lload_n 0, 1) := by decide +kernel
theorem dX6_mixed_1 : decode cX6_mixed 1 = .ok (.ldc2_w 412, 3) := by decide +kernel
theorem dX6_mixed_4 : decode cX6_mixed 4 = .ok (.lmul, 1) := by decide +kernel
theorem dX6_mixed_5 : decode cX6_mixed 5 = .ok (.iload_n 2, 1) := by decide +kernel
theorem dX6_mixed_6 : decode cX6_mixed 6 = .ok (.i2l, 1) := by decide +kernel
theorem dX6_mixed_7 : decode cX6_mixed 7 = .ok (.ladd, 1) := by decide +kernel
theorem dX6_mixed_8 : decode cX6_mixed 8 = .ok (.lreturn, 1) := by decide +kernel
theorem dX6_withPeople_0 : decode cX6_withPeople 0 = .ok (.lload_n 1, 1) := by decide +kernel
theorem dX6_withPeople_1 : decode cX6_withPeople 1 = .ok (.lstore_n 3, 1) := by decide +kernel
theorem dX6_withPeople_2 : decode cX6_withPeople 2 = .ok (.iconst 0, 1) := by decide +kernel
theorem dX6_withPeople_3 : decode cX6_withPeople 3 = .ok (.istore 5, 2) := by decide +kernel
theorem dX6_withPeople_5 : decode cX6_withPeople 5 = .ok (.iload 5, 2) := by decide +kernel
theorem dX6_withPeople_7 : decode cX6_withPeople 7 = .ok (.aload_n 0, 1) := by decide +kernel
theorem dX6_withPeople_8 : decode cX6_withPeople 8 = .ok (.getfield 10, 3) := by decide +kernel
theorem dX6_withPeople_11 : decode cX6_withPeople 11 = .ok (.invokevirtual 51, 3) := by decide +kernel
theorem dX6_withPeople_14 : decode cX6_withPeople 14 = .ok (.if_icmp .ge 81, 3) := by decide +kernel
theorem dX6_withPeople_17 : decode cX6_withPeople 17 = .ok (.iconst 0, 1) := by decide +kernel
theorem dX6_withPeople_18 : decode cX6_withPeople 18 = .ok (.istore 6, 2) := by decide +kernel
theorem dX6_withPeople_20 : decode cX6_withPeople 20 = .ok (.iload 6, 2) := by decide +kernel
theorem dX6_withPeople_22 : decode cX6_withPeople 22 = .ok (.bipush 6, 2) := by decide +kernel
theorem dX6_withPeople_24 : decode cX6_withPeople 24 = .ok (.if_icmp .gt 22, 3) := by decide +kernel
theorem dX6_withPeople_27 : decode cX6_withPeople 27 = .ok (.lload_n 3, 1) := by decide +kernel
theorem dX6_withPeople_28 : decode cX6_withPeople 28 = .ok (.aload_n 0, 1) := by decide +kernel
theorem dX6_withPeople_29 : decode cX6_withPeople 29 = .ok (.iload 5, 2) := by decide +kernel
theorem dX6_withPeople_31 : decode cX6_withPeople 31 = .ok (.iload 6, 2) := by decide +kernel
theorem dX6_withPeople_33 : decode cX6_withPeople 33 = .ok (.invokevirtual 414, 3) := by decide +kernel
theorem dX6_withPeople_36 : decode cX6_withPeople 36 = .ok (.invokestatic 300, 3) := by decide +kernel
theorem dX6_withPeople_39 : decode cX6_withPeople 39 = .ok (.lstore_n 3, 1) := by decide +kernel
theorem dX6_withPeople_40 : decode cX6_withPeople 40 = .ok (.iinc 6 1, 3) := by decide +kernel
theorem dX6_withPeople_43 : decode cX6_withPeople 43 = .ok (.goto (-23), 3) := by decide +kernel
theorem dX6_withPeople_46 : decode cX6_withPeople 46 = .ok (.iconst 0, 1) := by decide +kernel
theorem dX6_withPeople_47 : decode cX6_withPeople 47 = .ok (.istore 6, 2) := by decide +kernel
theorem dX6_withPeople_49 : decode cX6_withPeople 49 = .ok (.iload 6, 2) := by decide +kernel
theorem dX6_withPeople_51 : decode cX6_withPeople 51 = .ok (.iconst 4, 1) := by decide +kernel
theorem dX6_withPeople_52 : decode cX6_withPeople 52 = .ok (.if_icmp .ge 37, 3) := by decide +kernel
theorem dX6_withPeople_55 : decode cX6_withPeople 55 = .ok (.lload_n 3, 1) := by decide +kernel
theorem dX6_withPeople_56 : decode cX6_withPeople 56 = .ok (.aload_n 0, 1) := by decide +kernel
theorem dX6_withPeople_57 : decode cX6_withPeople 57 = .ok (.iload 5, 2) := by decide +kernel
theorem dX6_withPeople_59 : decode cX6_withPeople 59 = .ok (.iload 6, 2) := by decide +kernel
theorem dX6_withPeople_61 : decode cX6_withPeople 61 = .ok (.iconst 0, 1) := by decide +kernel
theorem dX6_withPeople_62 : decode cX6_withPeople 62 = .ok (.invokevirtual 417, 3) := by decide +kernel
theorem dX6_withPeople_65 : decode cX6_withPeople 65 = .ok (.invokestatic 300, 3) := by decide +kernel
theorem dX6_withPeople_68 : decode cX6_withPeople 68 = .ok (.lstore_n 3, 1) := by decide +kernel
theorem dX6_withPeople_69 : decode cX6_withPeople 69 = .ok (.lload_n 3, 1) := by decide +kernel
theorem dX6_withPeople_70 : decode cX6_withPeople 70 = .ok (.aload_n 0, 1) := by decide +kernel
theorem dX6_withPeople_71 : decode cX6_withPeople 71 = .ok (.iload 5, 2) := by decide +kernel
theorem dX6_withPeople_73 : decode cX6_withPeople 73 = .ok (.iload 6, 2) := by decide +kernel
theorem dX6_withPeople_75 : decode cX6_withPeople 75 = .ok (.iconst 1, 1) := by decide +kernel
theorem dX6_withPeople_76 : decode cX6_withPeople 76 = .ok (.invokevirtual 417, 3) := by decide +kernel
theorem dX6_withPeople_79 : decode cX6_withPeople 79 = .ok (.invokestatic 300, 3) := by decide +kernel
theorem dX6_withPeople_82 : decode cX6_withPeople 82 = .ok (.lstore_n 3, 1) := by decide +kernel
theorem dX6_withPeople_83 : decode cX6_withPeople 83 = .ok (.iinc 6 1, 3) := by decide +kernel
theorem dX6_withPeople_86 : decode cX6_withPeople 86 = .ok (.goto (-37), 3) := by decide +kernel
theorem dX6_withPeople_89 : decode cX6_withPeople 89 = .ok (.iinc 5 1, 3) := by decide +kernel
theorem dX6_withPeople_92 : decode cX6_withPeople 92 = .ok (.goto (-87), 3) := by decide +kernel
theorem dX6_withPeople_95 : decode cX6_withPeople 95 = .ok (.lload_n 3, 1) := by decide +kernel
theorem dX6_withPeople_96 : decode cX6_withPeople 96 = .ok (.lreturn, 1) := by decide +kernel
theorem dX6_withBudgets_0 : decode cX6_withBudgets 0 = .ok (.lload_n 1, 1) := by decide +kernel
theorem dX6_withBudgets_1 : decode cX6_withBudgets 1 = .ok (.lstore_n 3, 1) := by decide +kernel
theorem dX6_withBudgets_2 : decode cX6_withBudgets 2 = .ok (.iconst 0, 1) := by decide +kernel
theorem dX6_withBudgets_3 : decode cX6_withBudgets 3 = .ok (.istore 5, 2) := by decide +kernel
theorem dX6_withBudgets_5 : decode cX6_withBudgets 5 = .ok (.iload 5, 2) := by decide +kernel
theorem dX6_withBudgets_7 : decode cX6_withBudgets 7 = .ok (.iconst 4, 1) := by decide +kernel
theorem dX6_withBudgets_8 : decode cX6_withBudgets 8 = .ok (.if_icmp .ge 52, 3) := by decide +kernel
theorem dX6_withBudgets_11 : decode cX6_withBudgets 11 = .ok (.iconst 0, 1) := by decide +kernel
theorem dX6_withBudgets_12 : decode cX6_withBudgets 12 = .ok (.istore 6, 2) := by decide +kernel
theorem dX6_withBudgets_14 : decode cX6_withBudgets 14 = .ok (.iload 6, 2) := by decide +kernel
theorem dX6_withBudgets_16 : decode cX6_withBudgets 16 = .ok (.iconst 4, 1) := by decide +kernel
theorem dX6_withBudgets_17 : decode cX6_withBudgets 17 = .ok (.if_icmp .ge 37, 3) := by decide +kernel
theorem dX6_withBudgets_20 : decode cX6_withBudgets 20 = .ok (.lload_n 3, 1) := by decide +kernel
theorem dX6_withBudgets_21 : decode cX6_withBudgets 21 = .ok (.aload_n 0, 1) := by decide +kernel
theorem dX6_withBudgets_22 : decode cX6_withBudgets 22 = .ok (.iload 5, 2) := by decide +kernel
theorem dX6_withBudgets_24 : decode cX6_withBudgets 24 = .ok (.iload 6, 2) := by decide +kernel
theorem dX6_withBudgets_26 : decode cX6_withBudgets 26 = .ok (.iconst 0, 1) := by decide +kernel
theorem dX6_withBudgets_27 : decode cX6_withBudgets 27 = .ok (.invokevirtual 147, 3) := by decide +kernel
theorem dX6_withBudgets_30 : decode cX6_withBudgets 30 = .ok (.invokestatic 300, 3) := by decide +kernel
theorem dX6_withBudgets_33 : decode cX6_withBudgets 33 = .ok (.lstore_n 3, 1) := by decide +kernel
theorem dX6_withBudgets_34 : decode cX6_withBudgets 34 = .ok (.lload_n 3, 1) := by decide +kernel
theorem dX6_withBudgets_35 : decode cX6_withBudgets 35 = .ok (.aload_n 0, 1) := by decide +kernel
theorem dX6_withBudgets_36 : decode cX6_withBudgets 36 = .ok (.iload 5, 2) := by decide +kernel
theorem dX6_withBudgets_38 : decode cX6_withBudgets 38 = .ok (.iload 6, 2) := by decide +kernel
theorem dX6_withBudgets_40 : decode cX6_withBudgets 40 = .ok (.iconst 1, 1) := by decide +kernel
theorem dX6_withBudgets_41 : decode cX6_withBudgets 41 = .ok (.invokevirtual 147, 3) := by decide +kernel
theorem dX6_withBudgets_44 : decode cX6_withBudgets 44 = .ok (.invokestatic 300, 3) := by decide +kernel
theorem dX6_withBudgets_47 : decode cX6_withBudgets 47 = .ok (.lstore_n 3, 1) := by decide +kernel
theorem dX6_withBudgets_48 : decode cX6_withBudgets 48 = .ok (.iinc 6 1, 3) := by decide +kernel
theorem dX6_withBudgets_51 : decode cX6_withBudgets 51 = .ok (.goto (-37), 3) := by decide +kernel
theorem dX6_withBudgets_54 : decode cX6_withBudgets 54 = .ok (.iinc 5 1, 3) := by decide +kernel
theorem dX6_withBudgets_57 : decode cX6_withBudgets 57 = .ok (.goto (-52), 3) := by decide +kernel
theorem dX6_withBudgets_60 : decode cX6_withBudgets 60 = .ok (.lload_n 3, 1) := by decide +kernel
theorem dX6_withBudgets_61 : decode cX6_withBudgets 61 = .ok (.lreturn, 1) := by decide +kernel
theorem dX6_withCharges_0 : decode cX6_withCharges 0 = .ok (.lload_n 1, 1) := by decide +kernel
theorem dX6_withCharges_1 : decode cX6_withCharges 1 = .ok (.lstore_n 3, 1) := by decide +kernel
theorem dX6_withCharges_2 : decode cX6_withCharges 2 = .ok (.iconst 0, 1) := by decide +kernel
theorem dX6_withCharges_3 : decode cX6_withCharges 3 = .ok (.istore 5, 2) := by decide +kernel
theorem dX6_withCharges_5 : decode cX6_withCharges 5 = .ok (.iload 5, 2) := by decide +kernel
theorem dX6_withCharges_7 : decode cX6_withCharges 7 = .ok (.aload_n 0, 1) := by decide +kernel
theorem dX6_withCharges_8 : decode cX6_withCharges 8 = .ok (.getfield 19, 3) := by decide +kernel
theorem dX6_withCharges_11 : decode cX6_withCharges 11 = .ok (.invokevirtual 51, 3) := by decide +kernel
theorem dX6_withCharges_14 : decode cX6_withCharges 14 = .ok (.if_icmp .ge 38, 3) := by decide +kernel
theorem dX6_withCharges_17 : decode cX6_withCharges 17 = .ok (.iconst 0, 1) := by decide +kernel
theorem dX6_withCharges_18 : decode cX6_withCharges 18 = .ok (.istore 6, 2) := by decide +kernel
theorem dX6_withCharges_20 : decode cX6_withCharges 20 = .ok (.iload 6, 2) := by decide +kernel
theorem dX6_withCharges_22 : decode cX6_withCharges 22 = .ok (.bipush 11, 2) := by decide +kernel
theorem dX6_withCharges_24 : decode cX6_withCharges 24 = .ok (.if_icmp .gt 22, 3) := by decide +kernel
theorem dX6_withCharges_27 : decode cX6_withCharges 27 = .ok (.lload_n 3, 1) := by decide +kernel
theorem dX6_withCharges_28 : decode cX6_withCharges 28 = .ok (.aload_n 0, 1) := by decide +kernel
theorem dX6_withCharges_29 : decode cX6_withCharges 29 = .ok (.iload 5, 2) := by decide +kernel
theorem dX6_withCharges_31 : decode cX6_withCharges 31 = .ok (.iload 6, 2) := by decide +kernel
theorem dX6_withCharges_33 : decode cX6_withCharges 33 = .ok (.invokevirtual 420, 3) := by decide +kernel
theorem dX6_withCharges_36 : decode cX6_withCharges 36 = .ok (.invokestatic 300, 3) := by decide +kernel
theorem dX6_withCharges_39 : decode cX6_withCharges 39 = .ok (.lstore_n 3, 1) := by decide +kernel
theorem dX6_withCharges_40 : decode cX6_withCharges 40 = .ok (.iinc 6 1, 3) := by decide +kernel
theorem dX6_withCharges_43 : decode cX6_withCharges 43 = .ok (.goto (-23), 3) := by decide +kernel
theorem dX6_withCharges_46 : decode cX6_withCharges 46 = .ok (.iinc 5 1, 3) := by decide +kernel
theorem dX6_withCharges_49 : decode cX6_withCharges 49 = .ok (.goto (-44), 3) := by decide +kernel
theorem dX6_withCharges_52 : decode cX6_withCharges 52 = .ok (.lload_n 3, 1) := by decide +kernel
theorem dX6_withCharges_53 : decode cX6_withCharges 53 = .ok (.lreturn, 1) := by decide +kernel
theorem dJ9_abs_0f7a4_0 : decode cJ9_abs_0f7a4 0 = .ok (.iload_n 0, 1) := by decide +kernel
theorem dJ9_abs_0f7a4_1 : decode cJ9_abs_0f7a4 1 = .ok (.ifCond .ge 8, 3) := by decide +kernel
theorem dJ9_abs_0f7a4_4 : decode cJ9_abs_0f7a4 4 = .ok (.iload_n 0, 1) := by decide +kernel
theorem dJ9_abs_0f7a4_5 : decode cJ9_abs_0f7a4 5 = .ok (.ineg, 1) := by decide +kernel
theorem dJ9_abs_0f7a4_6 : decode cJ9_abs_0f7a4 6 = .ok (.goto 4, 3) := by decide +kernel
theorem dJ9_abs_0f7a4_9 : decode cJ9_abs_0f7a4 9 = .ok (.iload_n 0, 1) := by decide +kernel
theorem dJ9_abs_0f7a4_10 : decode cJ9_abs_0f7a4 10 = .ok (.ireturn, 1) := by decide +kernel
theorem dJ9_max_7cf53_0 : decode cJ9_max_7cf53 0 = .ok (.iload_n 0, 1) := by decide +kernel
theorem dJ9_max_7cf53_1 : decode cJ9_max_7cf53 1 = .ok (.iload_n 1, 1) := by decide +kernel
theorem dJ9_max_7cf53_2 : decode cJ9_max_7cf53 2 = .ok (.if_icmp .lt 7, 3) := by decide +kernel
theorem dJ9_max_7cf53_5 : decode cJ9_max_7cf53 5 = .ok (.iload_n 0, 1) := by decide +kernel
theorem dJ9_max_7cf53_6 : decode cJ9_max_7cf53 6 = .ok (.goto 4, 3) := by decide +kernel
theorem dJ9_max_7cf53_9 : decode cJ9_max_7cf53 9 = .ok (.iload_n 1, 1) := by decide +kernel
theorem dJ9_max_7cf53_10 : decode cJ9_max_7cf53 10 = .ok (.ireturn, 1) := by decide +kernel
theorem dJ9_min_7cf53_0 : decode cJ9_min_7cf53 0 = .ok (.iload_n 0, 1) := by decide +kernel
theorem dJ9_min_7cf53_1 : decode cJ9_min_7cf53 1 = .ok (.iload_n 1, 1) := by decide +kernel
theorem dJ9_min_7cf53_2 : decode cJ9_min_7cf53 2 = .ok (.if_icmp .gt 7, 3) := by decide +kernel
theorem dJ9_min_7cf53_5 : decode cJ9_min_7cf53 5 = .ok (.iload_n 0, 1) := by decide +kernel
theorem dJ9_min_7cf53_6 : decode cJ9_min_7cf53 6 = .ok (.goto 4, 3) := by decide +kernel
theorem dJ9_min_7cf53_9 : decode cJ9_min_7cf53 9 = .ok (.iload_n 1, 1) := by decide +kernel
theorem dJ9_min_7cf53_10 : decode cJ9_min_7cf53 10 = .ok (.ireturn, 1) := by decide +kernel
theorem dJxa1e45_init_da8c8_0 : decode cJxa1e45_init_da8c8 0 = .ok (.aload_n 0, 1) := by decide +kernel
theorem dJxa1e45_init_da8c8_1 : decode cJxa1e45_init_da8c8 1 = .ok (.invokespecial 1, 3) := by decide +kernel
theorem dJxa1e45_init_da8c8_4 : decode cJxa1e45_init_da8c8 4 = .ok (.return_, 1) := by decide +kernel
theorem dJxc12de_init_da8c8_0 : decode cJxc12de_init_da8c8 0 = .ok (.aload_n 0, 1) := by decide +kernel
theorem dJxc12de_init_da8c8_1 : decode cJxc12de_init_da8c8 1 = .ok (.invokespecial 1, 3) := by decide +kernel
theorem dJxc12de_init_da8c8_4 : decode cJxc12de_init_da8c8 4 = .ok (.aload_n 0, 1) := by decide +kernel
theorem dJxc12de_init_da8c8_5 : decode cJxc12de_init_da8c8 5 = .ok (.iconst 0, 1) := by decide +kernel
theorem dJxc12de_init_da8c8_6 : decode cJxc12de_init_da8c8 6 = .ok (.putfield 7, 3) := by decide +kernel
theorem dJxc12de_init_da8c8_9 : decode cJxc12de_init_da8c8 9 = .ok (.return_, 1) := by decide +kernel
theorem dJx4a65c_init_da8c8_0 : decode cJx4a65c_init_da8c8 0 = .ok (.aload_n 0, 1) := by decide +kernel
theorem dJx4a65c_init_da8c8_1 : decode cJx4a65c_init_da8c8 1 = .ok (.invokespecial 1, 3) := by decide +kernel
theorem dJx4a65c_init_da8c8_4 : decode cJx4a65c_init_da8c8 4 = .ok (.aload_n 0, 1) := by decide +kernel
theorem dJx4a65c_init_da8c8_5 : decode cJx4a65c_init_da8c8 5 = .ok (.getstatic 39, 3) := by decide +kernel
theorem dJx4a65c_init_da8c8_8 : decode cJx4a65c_init_da8c8 8 = .ok (.putfield 9, 3) := by decide +kernel
theorem dJx4a65c_init_da8c8_11 : decode cJx4a65c_init_da8c8 11 = .ok (.return_, 1) := by decide +kernel
theorem dJx4a65c_grow_92f84_0 : decode cJx4a65c_grow_92f84 0 = .ok (.aload_n 0, 1) := by decide +kernel
theorem dJx4a65c_grow_92f84_1 : decode cJx4a65c_grow_92f84 1 = .ok (.getfield 9, 3) := by decide +kernel
theorem dJx4a65c_grow_92f84_4 : decode cJx4a65c_grow_92f84 4 = .ok (.arraylength, 1) := by decide +kernel
theorem dJx4a65c_grow_92f84_5 : decode cJx4a65c_grow_92f84 5 = .ok (.istore_n 2, 1) := by decide +kernel
theorem dJx4a65c_grow_92f84_6 : decode cJx4a65c_grow_92f84 6 = .ok (.iload_n 2, 1) := by decide +kernel
theorem dJx4a65c_grow_92f84_7 : decode cJx4a65c_grow_92f84 7 = .ok (.ifCond .gt 13, 3) := by decide +kernel
theorem dJx4a65c_grow_92f84_10 : decode cJx4a65c_grow_92f84 10 = .ok (.aload_n 0, 1) := by decide +kernel
theorem dJx4a65c_grow_92f84_11 : decode cJx4a65c_grow_92f84 11 = .ok (.getfield 9, 3) := by decide +kernel
theorem dJx4a65c_grow_92f84_14 : decode cJx4a65c_grow_92f84 14 = .ok (.getstatic 39, 3) := by decide +kernel
theorem dJx4a65c_grow_92f84_17 : decode cJx4a65c_grow_92f84 17 = .ok (.if_acmp .eq 28, 3) := by decide +kernel
theorem dJx4a65c_grow_92f84_20 : decode cJx4a65c_grow_92f84 20 = .ok (.iload_n 2, 1) := by decide +kernel
theorem dJx4a65c_grow_92f84_21 : decode cJx4a65c_grow_92f84 21 = .ok (.iload_n 1, 1) := by decide +kernel
theorem dJx4a65c_grow_92f84_22 : decode cJx4a65c_grow_92f84 22 = .ok (.iload_n 2, 1) := by decide +kernel
theorem dJx4a65c_grow_92f84_23 : decode cJx4a65c_grow_92f84 23 = .ok (.isub, 1) := by decide +kernel
theorem dJx4a65c_grow_92f84_24 : decode cJx4a65c_grow_92f84 24 = .ok (.iload_n 2, 1) := by decide +kernel
theorem dJx4a65c_grow_92f84_25 : decode cJx4a65c_grow_92f84 25 = .ok (.iconst 1, 1) := by decide +kernel
theorem dJx4a65c_grow_92f84_26 : decode cJx4a65c_grow_92f84 26 = .ok (.ishr, 1) := by decide +kernel
theorem dJx4a65c_grow_92f84_27 : decode cJx4a65c_grow_92f84 27 = .ok (.invokestatic 73, 3) := by decide +kernel
theorem dJx4a65c_grow_92f84_30 : decode cJx4a65c_grow_92f84 30 = .ok (.istore_n 3, 1) := by decide +kernel
theorem dJx4a65c_grow_92f84_31 : decode cJx4a65c_grow_92f84 31 = .ok (.aload_n 0, 1) := by decide +kernel
theorem dJx4a65c_grow_92f84_32 : decode cJx4a65c_grow_92f84 32 = .ok (.aload_n 0, 1) := by decide +kernel
theorem dJx4a65c_grow_92f84_33 : decode cJx4a65c_grow_92f84 33 = .ok (.getfield 9, 3) := by decide +kernel
theorem dJx4a65c_grow_92f84_36 : decode cJx4a65c_grow_92f84 36 = .ok (.iload_n 3, 1) := by decide +kernel
theorem dJx4a65c_grow_92f84_37 : decode cJx4a65c_grow_92f84 37 = .ok (.invokestatic 66, 3) := by decide +kernel
theorem dJx4a65c_grow_92f84_40 : decode cJx4a65c_grow_92f84 40 = .ok (.dup_x1, 1) := by decide +kernel
theorem dJx4a65c_grow_92f84_41 : decode cJx4a65c_grow_92f84 41 = .ok (.putfield 9, 3) := by decide +kernel
theorem dJx4a65c_grow_92f84_44 : decode cJx4a65c_grow_92f84 44 = .ok (.areturn, 1) := by decide +kernel
theorem dJx4a65c_grow_92f84_45 : decode cJx4a65c_grow_92f84 45 = .ok (.aload_n 0, 1) := by decide +kernel
theorem dJx4a65c_grow_92f84_46 : decode cJx4a65c_grow_92f84 46 = .ok (.bipush 10, 2) := by decide +kernel
theorem dJx4a65c_grow_92f84_48 : decode cJx4a65c_grow_92f84 48 = .ok (.iload_n 1, 1) := by decide +kernel
theorem dJx4a65c_grow_92f84_49 : decode cJx4a65c_grow_92f84 49 = .ok (.invokestatic 79, 3) := by decide +kernel
theorem dJx4a65c_grow_92f84_52 : decode cJx4a65c_grow_92f84 52 = .ok (.anewarray 7, 3) := by decide +kernel
theorem dJx4a65c_grow_92f84_55 : decode cJx4a65c_grow_92f84 55 = .ok (.dup_x1, 1) := by decide +kernel
theorem dJx4a65c_grow_92f84_56 : decode cJx4a65c_grow_92f84 56 = .ok (.putfield 9, 3) := by decide +kernel
theorem dJx4a65c_grow_92f84_59 : decode cJx4a65c_grow_92f84 59 = .ok (.areturn, 1) := by decide +kernel
theorem dJx4a65c_grow_d5877_0 : decode cJx4a65c_grow_d5877 0 = .ok (.aload_n 0, 1) := by decide +kernel
theorem dJx4a65c_grow_d5877_1 : decode cJx4a65c_grow_d5877 1 = .ok (.aload_n 0, 1) := by decide +kernel
theorem dJx4a65c_grow_d5877_2 : decode cJx4a65c_grow_d5877 2 = .ok (.getfield 48, 3) := by decide +kernel
theorem dJx4a65c_grow_d5877_5 : decode cJx4a65c_grow_d5877 5 = .ok (.iconst 1, 1) := by decide +kernel
theorem dJx4a65c_grow_d5877_6 : decode cJx4a65c_grow_d5877 6 = .ok (.iadd, 1) := by decide +kernel
theorem dJx4a65c_grow_d5877_7 : decode cJx4a65c_grow_d5877 7 = .ok (.invokevirtual 69, 3) := by decide +kernel
theorem dJx4a65c_grow_d5877_10 : decode cJx4a65c_grow_d5877 10 = .ok (.areturn, 1) := by decide +kernel
theorem dJx4a65c_size_8abf5_0 : decode cJx4a65c_size_8abf5 0 = .ok (.aload_n 0, 1) := by decide +kernel
theorem dJx4a65c_size_8abf5_1 : decode cJx4a65c_size_8abf5 1 = .ok (.getfield 48, 3) := by decide +kernel
theorem dJx4a65c_size_8abf5_4 : decode cJx4a65c_size_8abf5 4 = .ok (.ireturn, 1) := by decide +kernel
theorem dJx4a65c_elementData_915e3_0 : decode cJx4a65c_elementData_915e3 0 = .ok (.aload_n 0, 1) := by decide +kernel
theorem dJx4a65c_elementData_915e3_1 : decode cJx4a65c_elementData_915e3 1 = .ok (.getfield 9, 3) := by decide +kernel
theorem dJx4a65c_elementData_915e3_4 : decode cJx4a65c_elementData_915e3 4 = .ok (.iload_n 1, 1) := by decide +kernel
theorem dJx4a65c_elementData_915e3_5 : decode cJx4a65c_elementData_915e3 5 = .ok (.aaload, 1) := by decide +kernel
theorem dJx4a65c_elementData_915e3_6 : decode cJx4a65c_elementData_915e3 6 = .ok (.areturn, 1) := by decide +kernel
theorem dJx4a65c_get_915e3_0 : decode cJx4a65c_get_915e3 0 = .ok (.iload_n 1, 1) := by decide +kernel
theorem dJx4a65c_get_915e3_1 : decode cJx4a65c_get_915e3 1 = .ok (.aload_n 0, 1) := by decide +kernel
theorem dJx4a65c_get_915e3_2 : decode cJx4a65c_get_915e3 2 = .ok (.getfield 48, 3) := by decide +kernel
theorem dJx4a65c_get_915e3_5 : decode cJx4a65c_get_915e3 5 = .ok (.invokestatic 118, 3) := by decide +kernel
theorem dJx4a65c_get_915e3_8 : decode cJx4a65c_get_915e3 8 = .ok (.pop, 1) := by decide +kernel
theorem dJx4a65c_get_915e3_9 : decode cJx4a65c_get_915e3 9 = .ok (.aload_n 0, 1) := by decide +kernel
theorem dJx4a65c_get_915e3_10 : decode cJx4a65c_get_915e3 10 = .ok (.iload_n 1, 1) := by decide +kernel
theorem dJx4a65c_get_915e3_11 : decode cJx4a65c_get_915e3 11 = .ok (.invokevirtual 123, 3) := by decide +kernel
theorem dJx4a65c_get_915e3_14 : decode cJx4a65c_get_915e3 14 = .ok (.areturn, 1) := by decide +kernel
theorem dJx4a65c_add_72be8_0 : decode cJx4a65c_add_72be8 0 = .ok (.iload_n 3, 1) := by decide +kernel
theorem dJx4a65c_add_72be8_1 : decode cJx4a65c_add_72be8 1 = .ok (.aload_n 2, 1) := by decide +kernel
theorem dJx4a65c_add_72be8_2 : decode cJx4a65c_add_72be8 2 = .ok (.arraylength, 1) := by decide +kernel
theorem dJx4a65c_add_72be8_3 : decode cJx4a65c_add_72be8 3 = .ok (.if_icmp .ne 8, 3) := by decide +kernel
theorem dJx4a65c_add_72be8_6 : decode cJx4a65c_add_72be8 6 = .ok (.aload_n 0, 1) := by decide +kernel
theorem dJx4a65c_add_72be8_7 : decode cJx4a65c_add_72be8 7 = .ok (.invokevirtual 129, 3) := by decide +kernel
theorem dJx4a65c_add_72be8_10 : decode cJx4a65c_add_72be8 10 = .ok (.astore_n 2, 1) := by decide +kernel
theorem dJx4a65c_add_72be8_11 : decode cJx4a65c_add_72be8 11 = .ok (.aload_n 2, 1) := by decide +kernel
theorem dJx4a65c_add_72be8_12 : decode cJx4a65c_add_72be8 12 = .ok (.iload_n 3, 1) := by decide +kernel
theorem dJx4a65c_add_72be8_13 : decode cJx4a65c_add_72be8 13 = .ok (.aload_n 1, 1) := by decide +kernel
theorem dJx4a65c_add_72be8_14 : decode cJx4a65c_add_72be8 14 = .ok (.aastore, 1) := by decide +kernel
theorem dJx4a65c_add_72be8_15 : decode cJx4a65c_add_72be8 15 = .ok (.aload_n 0, 1) := by decide +kernel
theorem dJx4a65c_add_72be8_16 : decode cJx4a65c_add_72be8 16 = .ok (.iload_n 3, 1) := by decide +kernel
theorem dJx4a65c_add_72be8_17 : decode cJx4a65c_add_72be8 17 = .ok (.iconst 1, 1) := by decide +kernel
theorem dJx4a65c_add_72be8_18 : decode cJx4a65c_add_72be8 18 = .ok (.iadd, 1) := by decide +kernel
theorem dJx4a65c_add_72be8_19 : decode cJx4a65c_add_72be8 19 = .ok (.putfield 48, 3) := by decide +kernel
theorem dJx4a65c_add_72be8_22 : decode cJx4a65c_add_72be8 22 = .ok (.return_, 1) := by decide +kernel
theorem dJx4a65c_add_9ea2d_0 : decode cJx4a65c_add_9ea2d 0 = .ok (.aload_n 0, 1) := by decide +kernel
theorem dJx4a65c_add_9ea2d_1 : decode cJx4a65c_add_9ea2d 1 = .ok (.dup, 1) := by decide +kernel
theorem dJx4a65c_add_9ea2d_2 : decode cJx4a65c_add_9ea2d 2 = .ok (.getfield 63, 3) := by decide +kernel
theorem dJx4a65c_add_9ea2d_5 : decode cJx4a65c_add_9ea2d 5 = .ok (.iconst 1, 1) := by decide +kernel
theorem dJx4a65c_add_9ea2d_6 : decode cJx4a65c_add_9ea2d 6 = .ok (.iadd, 1) := by decide +kernel
theorem dJx4a65c_add_9ea2d_7 : decode cJx4a65c_add_9ea2d 7 = .ok (.putfield 63, 3) := by decide +kernel
theorem dJx4a65c_add_9ea2d_10 : decode cJx4a65c_add_9ea2d 10 = .ok (.aload_n 0, 1) := by decide +kernel
theorem dJx4a65c_add_9ea2d_11 : decode cJx4a65c_add_9ea2d 11 = .ok (.aload_n 1, 1) := by decide +kernel
theorem dJx4a65c_add_9ea2d_12 : decode cJx4a65c_add_9ea2d 12 = .ok (.aload_n 0, 1) := by decide +kernel
theorem dJx4a65c_add_9ea2d_13 : decode cJx4a65c_add_9ea2d 13 = .ok (.getfield 9, 3) := by decide +kernel
theorem dJx4a65c_add_9ea2d_16 : decode cJx4a65c_add_9ea2d 16 = .ok (.aload_n 0, 1) := by decide +kernel
theorem dJx4a65c_add_9ea2d_17 : decode cJx4a65c_add_9ea2d 17 = .ok (.getfield 48, 3) := by decide +kernel
theorem dJx4a65c_add_9ea2d_20 : decode cJx4a65c_add_9ea2d 20 = .ok (.invokevirtual 131, 3) := by decide +kernel
theorem dJx4a65c_add_9ea2d_23 : decode cJx4a65c_add_9ea2d 23 = .ok (.iconst 1, 1) := by decide +kernel
theorem dJx4a65c_add_9ea2d_24 : decode cJx4a65c_add_9ea2d 24 = .ok (.ireturn, 1) := by decide +kernel
theorem dJ7_copyOf_1904c_0 : decode cJ7_copyOf_1904c 0 = .ok (.aload_n 0, 1) := by decide +kernel
theorem dJ7_copyOf_1904c_1 : decode cJ7_copyOf_1904c 1 = .ok (.iload_n 1, 1) := by decide +kernel
theorem dJ7_copyOf_1904c_2 : decode cJ7_copyOf_1904c 2 = .ok (.aload_n 0, 1) := by decide +kernel
theorem dJ7_copyOf_1904c_3 : decode cJ7_copyOf_1904c 3 = .ok (.invokevirtual 86, 3) := by decide +kernel
theorem dJ7_copyOf_1904c_6 : decode cJ7_copyOf_1904c 6 = .ok (.invokestatic 300, 3) := by decide +kernel
theorem dJ7_copyOf_1904c_9 : decode cJ7_copyOf_1904c 9 = .ok (.areturn, 1) := by decide +kernel
theorem dJ7_copyOf_6403c_0 : decode cJ7_copyOf_6403c 0 = .ok (.aload_n 2, 1) := by decide +kernel
theorem dJ7_copyOf_6403c_1 : decode cJ7_copyOf_6403c 1 = .ok (.ldc 110, 2) := by decide +kernel
theorem dJ7_copyOf_6403c_3 : decode cJ7_copyOf_6403c 3 = .ok (.if_acmp .ne 10, 3) := by decide +kernel
theorem dJ7_copyOf_6403c_6 : decode cJ7_copyOf_6403c 6 = .ok (.iload_n 1, 1) := by decide +kernel
theorem dJ7_copyOf_6403c_7 : decode cJ7_copyOf_6403c 7 = .ok (.anewarray 2, 3) := by decide +kernel
theorem dJ7_copyOf_6403c_10 : decode cJ7_copyOf_6403c 10 = .ok (.goto 14, 3) := by decide +kernel
theorem dJ7_copyOf_6403c_13 : decode cJ7_copyOf_6403c 13 = .ok (.aload_n 2, 1) := by decide +kernel
theorem dJ7_copyOf_6403c_14 : decode cJ7_copyOf_6403c 14 = .ok (.invokevirtual 90, 3) := by decide +kernel
theorem dJ7_copyOf_6403c_17 : decode cJ7_copyOf_6403c 17 = .ok (.iload_n 1, 1) := by decide +kernel
theorem dJ7_copyOf_6403c_18 : decode cJ7_copyOf_6403c 18 = .ok (.invokestatic 95, 3) := by decide +kernel
theorem dJ7_copyOf_6403c_21 : decode cJ7_copyOf_6403c 21 = .ok (.checkcast 110, 3) := by decide +kernel
theorem dJ7_copyOf_6403c_24 : decode cJ7_copyOf_6403c 24 = .ok (.astore_n 3, 1) := by decide +kernel
theorem dJ7_copyOf_6403c_25 : decode cJ7_copyOf_6403c 25 = .ok (.aload_n 0, 1) := by decide +kernel
theorem dJ7_copyOf_6403c_26 : decode cJ7_copyOf_6403c 26 = .ok (.iconst 0, 1) := by decide +kernel
theorem dJ7_copyOf_6403c_27 : decode cJ7_copyOf_6403c 27 = .ok (.aload_n 3, 1) := by decide +kernel
theorem dJ7_copyOf_6403c_28 : decode cJ7_copyOf_6403c 28 = .ok (.iconst 0, 1) := by decide +kernel
theorem dJ7_copyOf_6403c_29 : decode cJ7_copyOf_6403c 29 = .ok (.aload_n 0, 1) := by decide +kernel
theorem dJ7_copyOf_6403c_30 : decode cJ7_copyOf_6403c 30 = .ok (.arraylength, 1) := by decide +kernel
theorem dJ7_copyOf_6403c_31 : decode cJ7_copyOf_6403c 31 = .ok (.iload_n 1, 1) := by decide +kernel
theorem dJ7_copyOf_6403c_32 : decode cJ7_copyOf_6403c 32 = .ok (.invokestatic 304, 3) := by decide +kernel
theorem dJ7_copyOf_6403c_35 : decode cJ7_copyOf_6403c 35 = .ok (.invokestatic 150, 3) := by decide +kernel
theorem dJ7_copyOf_6403c_38 : decode cJ7_copyOf_6403c 38 = .ok (.aload_n 3, 1) := by decide +kernel
theorem dJ7_copyOf_6403c_39 : decode cJ7_copyOf_6403c 39 = .ok (.areturn, 1) := by decide +kernel
theorem dJ15_checkIndex_7cf53_0 : decode cJ15_checkIndex_7cf53 0 = .ok (.iload_n 0, 1) := by decide +kernel
theorem dJ15_checkIndex_7cf53_1 : decode cJ15_checkIndex_7cf53 1 = .ok (.iload_n 1, 1) := by decide +kernel
theorem dJ15_checkIndex_7cf53_2 : decode cJ15_checkIndex_7cf53 2 = .ok (.aconst_null, 1) := by decide +kernel
theorem dJ15_checkIndex_7cf53_3 : decode cJ15_checkIndex_7cf53 3 = .ok (.invokestatic 105, 3) := by decide +kernel
theorem dJ15_checkIndex_7cf53_6 : decode cJ15_checkIndex_7cf53 6 = .ok (.ireturn, 1) := by decide +kernel
theorem dJ8_newLength_cabcc_0 : decode cJ8_newLength_cabcc 0 = .ok (.iload_n 0, 1) := by decide +kernel
theorem dJ8_newLength_cabcc_1 : decode cJ8_newLength_cabcc 1 = .ok (.iload_n 1, 1) := by decide +kernel
theorem dJ8_newLength_cabcc_2 : decode cJ8_newLength_cabcc 2 = .ok (.iload_n 2, 1) := by decide +kernel
theorem dJ8_newLength_cabcc_3 : decode cJ8_newLength_cabcc 3 = .ok (.invokestatic 194, 3) := by decide +kernel
theorem dJ8_newLength_cabcc_6 : decode cJ8_newLength_cabcc 6 = .ok (.iadd, 1) := by decide +kernel
theorem dJ8_newLength_cabcc_7 : decode cJ8_newLength_cabcc 7 = .ok (.istore_n 3, 1) := by decide +kernel
theorem dJ8_newLength_cabcc_8 : decode cJ8_newLength_cabcc 8 = .ok (.iconst 0, 1) := by decide +kernel
theorem dJ8_newLength_cabcc_9 : decode cJ8_newLength_cabcc 9 = .ok (.iload_n 3, 1) := by decide +kernel
theorem dJ8_newLength_cabcc_10 : decode cJ8_newLength_cabcc 10 = .ok (.if_icmp .ge 11, 3) := by decide +kernel
theorem dJ8_newLength_cabcc_13 : decode cJ8_newLength_cabcc 13 = .ok (.iload_n 3, 1) := by decide +kernel
theorem dJ8_newLength_cabcc_14 : decode cJ8_newLength_cabcc 14 = .ok (.ldc 200, 2) := by decide +kernel
theorem dJ8_newLength_cabcc_16 : decode cJ8_newLength_cabcc 16 = .ok (.if_icmp .gt 5, 3) := by decide +kernel
theorem dJ8_newLength_cabcc_19 : decode cJ8_newLength_cabcc 19 = .ok (.iload_n 3, 1) := by decide +kernel
theorem dJ8_newLength_cabcc_20 : decode cJ8_newLength_cabcc 20 = .ok (.ireturn, 1) := by decide +kernel
theorem dJ8_newLength_cabcc_21 : decode cJ8_newLength_cabcc 21 = .ok (.iload_n 0, 1) := by decide +kernel
theorem dJ8_newLength_cabcc_22 : decode cJ8_newLength_cabcc 22 = .ok (.iload_n 1, 1) := by decide +kernel
theorem dJ8_newLength_cabcc_23 : decode cJ8_newLength_cabcc 23 = .ok (.invokestatic 201, 3) := by decide +kernel
theorem dJ8_newLength_cabcc_26 : decode cJ8_newLength_cabcc 26 = .ok (.ireturn, 1) := by decide +kernel
theorem dJ8_hugeLength_7cf53_0 : decode cJ8_hugeLength_7cf53 0 = .ok (.iload_n 0, 1) := by decide +kernel
theorem dJ8_hugeLength_7cf53_1 : decode cJ8_hugeLength_7cf53 1 = .ok (.iload_n 1, 1) := by decide +kernel
theorem dJ8_hugeLength_7cf53_2 : decode cJ8_hugeLength_7cf53 2 = .ok (.iadd, 1) := by decide +kernel
theorem dJ8_hugeLength_7cf53_3 : decode cJ8_hugeLength_7cf53 3 = .ok (.istore_n 2, 1) := by decide +kernel
theorem dJ8_hugeLength_7cf53_4 : decode cJ8_hugeLength_7cf53 4 = .ok (.iload_n 2, 1) := by decide +kernel
theorem dJ8_hugeLength_7cf53_5 : decode cJ8_hugeLength_7cf53 5 = .ok (.ifCond .ge 44, 3) := by decide +kernel
theorem dJ8_hugeLength_7cf53_8 : decode cJ8_hugeLength_7cf53 8 = .ok (.new 204, 3) := by decide +kernel
theorem dJ8_hugeLength_7cf53_11 : decode cJ8_hugeLength_7cf53 11 = .ok (.dup, 1) := by decide +kernel
theorem dJ8_hugeLength_7cf53_12 : decode cJ8_hugeLength_7cf53 12 = .ok (.new 89, 3) := by decide +kernel
theorem dJ8_hugeLength_7cf53_15 : decode cJ8_hugeLength_7cf53 15 = .ok (.dup, 1) := by decide +kernel
theorem dJ8_hugeLength_7cf53_16 : decode cJ8_hugeLength_7cf53 16 = .ok (.invokespecial 91, 3) := by decide +kernel
theorem dJ8_hugeLength_7cf53_19 : decode cJ8_hugeLength_7cf53 19 = .ok (.ldc 206, 2) := by decide +kernel
theorem dJ8_hugeLength_7cf53_21 : decode cJ8_hugeLength_7cf53 21 = .ok (.invokevirtual 94, 3) := by decide +kernel
theorem dJ8_hugeLength_7cf53_24 : decode cJ8_hugeLength_7cf53 24 = .ok (.iload_n 0, 1) := by decide +kernel
theorem dJ8_hugeLength_7cf53_25 : decode cJ8_hugeLength_7cf53 25 = .ok (.invokevirtual 98, 3) := by decide +kernel
theorem dJ8_hugeLength_7cf53_28 : decode cJ8_hugeLength_7cf53 28 = .ok (.ldc 208, 2) := by decide +kernel
theorem dJ8_hugeLength_7cf53_30 : decode cJ8_hugeLength_7cf53 30 = .ok (.invokevirtual 94, 3) := by decide +kernel
theorem dJ8_hugeLength_7cf53_33 : decode cJ8_hugeLength_7cf53 33 = .ok (.iload_n 1, 1) := by decide +kernel
theorem dJ8_hugeLength_7cf53_34 : decode cJ8_hugeLength_7cf53 34 = .ok (.invokevirtual 98, 3) := by decide +kernel
theorem dJ8_hugeLength_7cf53_37 : decode cJ8_hugeLength_7cf53 37 = .ok (.ldc 210, 2) := by decide +kernel
theorem dJ8_hugeLength_7cf53_39 : decode cJ8_hugeLength_7cf53 39 = .ok (.invokevirtual 94, 3) := by decide +kernel
theorem dJ8_hugeLength_7cf53_42 : decode cJ8_hugeLength_7cf53 42 = .ok (.invokevirtual 101, 3) := by decide +kernel
theorem dJ8_hugeLength_7cf53_45 : decode cJ8_hugeLength_7cf53 45 = .ok (.invokespecial 212, 3) := by decide +kernel
theorem dJ8_hugeLength_7cf53_48 : decode cJ8_hugeLength_7cf53 48 = .ok (.athrow, 1) := by decide +kernel
theorem dJ8_hugeLength_7cf53_49 : decode cJ8_hugeLength_7cf53 49 = .ok (.iload_n 2, 1) := by decide +kernel
theorem dJ8_hugeLength_7cf53_50 : decode cJ8_hugeLength_7cf53 50 = .ok (.ldc 200, 2) := by decide +kernel
theorem dJ8_hugeLength_7cf53_52 : decode cJ8_hugeLength_7cf53 52 = .ok (.if_icmp .gt 6, 3) := by decide +kernel
theorem dJ8_hugeLength_7cf53_55 : decode cJ8_hugeLength_7cf53 55 = .ok (.ldc 200, 2) := by decide +kernel
theorem dJ8_hugeLength_7cf53_57 : decode cJ8_hugeLength_7cf53 57 = .ok (.ireturn, 1) := by decide +kernel
theorem dJ8_hugeLength_7cf53_58 : decode cJ8_hugeLength_7cf53 58 = .ok (.iload_n 2, 1) := by decide +kernel
theorem dJ8_hugeLength_7cf53_59 : decode cJ8_hugeLength_7cf53 59 = .ok (.ireturn, 1) := by decide +kernel
theorem dJ3_checkIndex_8e157_0 : decode cJ3_checkIndex_8e157 0 = .ok (.iload_n 0, 1) := by decide +kernel
theorem dJ3_checkIndex_8e157_1 : decode cJ3_checkIndex_8e157 1 = .ok (.ifCond .lt 8, 3) := by decide +kernel
theorem dJ3_checkIndex_8e157_4 : decode cJ3_checkIndex_8e157 4 = .ok (.iload_n 0, 1) := by decide +kernel
theorem dJ3_checkIndex_8e157_5 : decode cJ3_checkIndex_8e157 5 = .ok (.iload_n 1, 1) := by decide +kernel
theorem dJ3_checkIndex_8e157_6 : decode cJ3_checkIndex_8e157 6 = .ok (.if_icmp .lt 10, 3) := by decide +kernel
theorem dJ3_checkIndex_8e157_9 : decode cJ3_checkIndex_8e157 9 = .ok (.aload_n 2, 1) := by decide +kernel
theorem dJ3_checkIndex_8e157_10 : decode cJ3_checkIndex_8e157 10 = .ok (.iload_n 0, 1) := by decide +kernel
theorem dJ3_checkIndex_8e157_11 : decode cJ3_checkIndex_8e157 11 = .ok (.iload_n 1, 1) := by decide +kernel
theorem dJ3_checkIndex_8e157_12 : decode cJ3_checkIndex_8e157 12 = .ok (.invokestatic 95, 3) := by decide +kernel
theorem dJ3_checkIndex_8e157_15 : decode cJ3_checkIndex_8e157 15 = .ok (.athrow, 1) := by decide +kernel
theorem dJ3_checkIndex_8e157_16 : decode cJ3_checkIndex_8e157 16 = .ok (.iload_n 0, 1) := by decide +kernel
theorem dJ3_checkIndex_8e157_17 : decode cJ3_checkIndex_8e157 17 = .ok (.ireturn, 1) := by decide +kernel
theorem dL_below_0 : decode cL_below 0 = .ok (.iload_n 0, 1) := by decide +kernel
theorem dL_below_1 : decode cL_below 1 = .ok (.ldc 7, 2) := by decide +kernel
theorem dL_below_3 : decode cL_below 3 = .ok (.iand, 1) := by decide +kernel
theorem dL_below_4 : decode cL_below 4 = .ok (.iload_n 1, 1) := by decide +kernel
theorem dL_below_5 : decode cL_below 5 = .ok (.irem, 1) := by decide +kernel
theorem dL_below_6 : decode cL_below 6 = .ok (.ireturn, 1) := by decide +kernel
theorem dL_cell_0 : decode cL_cell 0 = .ok (.iload_n 1, 1) := by decide +kernel
theorem dL_cell_1 : decode cL_cell 1 = .ok (.aload_n 0, 1) := by decide +kernel
theorem dL_cell_2 : decode cL_cell 2 = .ok (.arraylength, 1) := by decide +kernel
theorem dL_cell_3 : decode cL_cell 3 = .ok (.if_icmp .ge 9, 3) := by decide +kernel
theorem dL_cell_6 : decode cL_cell 6 = .ok (.aload_n 0, 1) := by decide +kernel
theorem dL_cell_7 : decode cL_cell 7 = .ok (.iload_n 1, 1) := by decide +kernel
theorem dL_cell_8 : decode cL_cell 8 = .ok (.iaload, 1) := by decide +kernel
theorem dL_cell_9 : decode cL_cell 9 = .ok (.goto 9, 3) := by decide +kernel
theorem dL_cell_12 : decode cL_cell 12 = .ok (.ldc 8, 2) := by decide +kernel
theorem dL_cell_14 : decode cL_cell 14 = .ok (.iload_n 1, 1) := by decide +kernel
theorem dL_cell_15 : decode cL_cell 15 = .ok (.iconst 3, 1) := by decide +kernel
theorem dL_cell_16 : decode cL_cell 16 = .ok (.iadd, 1) := by decide +kernel
theorem dL_cell_17 : decode cL_cell 17 = .ok (.imul, 1) := by decide +kernel
theorem dL_cell_18 : decode cL_cell 18 = .ok (.ireturn, 1) := by decide +kernel
theorem dL_law_0 : decode cL_law 0 = .ok (.new 9, 3) := by decide +kernel
theorem dL_law_3 : decode cL_law 3 = .ok (.dup, 1) := by decide +kernel
theorem dL_law_4 : decode cL_law 4 = .ok (.invokespecial 11, 3) := by decide +kernel
theorem dL_law_7 : decode cL_law 7 = .ok (.astore_n 1, 1) := by decide +kernel
theorem dL_law_8 : decode cL_law 8 = .ok (.iconst 2, 1) := by decide +kernel
theorem dL_law_9 : decode cL_law 9 = .ok (.aload_n 0, 1) := by decide +kernel
theorem dL_law_10 : decode cL_law 10 = .ok (.iconst 0, 1) := by decide +kernel
theorem dL_law_11 : decode cL_law 11 = .ok (.invokestatic 12, 3) := by decide +kernel
theorem dL_law_14 : decode cL_law 14 = .ok (.bipush 6, 2) := by decide +kernel
theorem dL_law_16 : decode cL_law 16 = .ok (.invokestatic 18, 3) := by decide +kernel
theorem dL_law_19 : decode cL_law 19 = .ok (.iadd, 1) := by decide +kernel
theorem dL_law_20 : decode cL_law 20 = .ok (.istore_n 2, 1) := by decide +kernel
theorem dL_law_21 : decode cL_law 21 = .ok (.iconst 0, 1) := by decide +kernel
theorem dL_law_22 : decode cL_law 22 = .ok (.istore_n 3, 1) := by decide +kernel
theorem dL_law_23 : decode cL_law 23 = .ok (.iload_n 3, 1) := by decide +kernel
theorem dL_law_24 : decode cL_law 24 = .ok (.iload_n 2, 1) := by decide +kernel
theorem dL_law_25 : decode cL_law 25 = .ok (.if_icmp .ge 84, 3) := by decide +kernel
theorem dL_law_28 : decode cL_law 28 = .ok (.aload_n 1, 1) := by decide +kernel
theorem dL_law_29 : decode cL_law 29 = .ok (.aload_n 0, 1) := by decide +kernel
theorem dL_law_30 : decode cL_law 30 = .ok (.iload_n 3, 1) := by decide +kernel
theorem dL_law_31 : decode cL_law 31 = .ok (.invokestatic 12, 3) := by decide +kernel
theorem dL_law_34 : decode cL_law 34 = .ok (.iload_n 3, 1) := by decide +kernel
theorem dL_law_35 : decode cL_law 35 = .ok (.iconst 1, 1) := by decide +kernel
theorem dL_law_36 : decode cL_law 36 = .ok (.iadd, 1) := by decide +kernel
theorem dL_law_37 : decode cL_law 37 = .ok (.invokestatic 18, 3) := by decide +kernel
theorem dL_law_40 : decode cL_law 40 = .ok (.iconst 1, 1) := by decide +kernel
theorem dL_law_41 : decode cL_law 41 = .ok (.isub, 1) := by decide +kernel
theorem dL_law_42 : decode cL_law 42 = .ok (.invokevirtual 22, 3) := by decide +kernel
theorem dL_law_45 : decode cL_law 45 = .ok (.iload_n 3, 1) := by decide +kernel
theorem dL_law_46 : decode cL_law 46 = .ok (.if_icmp .ne 55, 3) := by decide +kernel
theorem dL_law_49 : decode cL_law 49 = .ok (.aload_n 1, 1) := by decide +kernel
theorem dL_law_50 : decode cL_law 50 = .ok (.iload_n 3, 1) := by decide +kernel
theorem dL_law_51 : decode cL_law 51 = .ok (.iconst 0, 1) := by decide +kernel
theorem dL_law_52 : decode cL_law 52 = .ok (.sipush 2000, 3) := by decide +kernel
theorem dL_law_55 : decode cL_law 55 = .ok (.aload_n 0, 1) := by decide +kernel
theorem dL_law_56 : decode cL_law 56 = .ok (.iload_n 3, 1) := by decide +kernel
theorem dL_law_57 : decode cL_law 57 = .ok (.iconst 1, 1) := by decide +kernel
theorem dL_law_58 : decode cL_law 58 = .ok (.iadd, 1) := by decide +kernel
theorem dL_law_59 : decode cL_law 59 = .ok (.invokestatic 12, 3) := by decide +kernel
theorem dL_law_62 : decode cL_law 62 = .ok (.sipush 7000, 3) := by decide +kernel
theorem dL_law_65 : decode cL_law 65 = .ok (.invokestatic 18, 3) := by decide +kernel
theorem dL_law_68 : decode cL_law 68 = .ok (.iadd, 1) := by decide +kernel
theorem dL_law_69 : decode cL_law 69 = .ok (.invokevirtual 26, 3) := by decide +kernel
theorem dL_law_72 : decode cL_law 72 = .ok (.ifCond .ne 29, 3) := by decide +kernel
theorem dL_law_75 : decode cL_law 75 = .ok (.aload_n 1, 1) := by decide +kernel
theorem dL_law_76 : decode cL_law 76 = .ok (.iload_n 3, 1) := by decide +kernel
theorem dL_law_77 : decode cL_law 77 = .ok (.iconst 1, 1) := by decide +kernel
theorem dL_law_78 : decode cL_law 78 = .ok (.sipush 2000, 3) := by decide +kernel
theorem dL_law_81 : decode cL_law 81 = .ok (.aload_n 0, 1) := by decide +kernel
theorem dL_law_82 : decode cL_law 82 = .ok (.iload_n 3, 1) := by decide +kernel
theorem dL_law_83 : decode cL_law 83 = .ok (.iconst 2, 1) := by decide +kernel
theorem dL_law_84 : decode cL_law 84 = .ok (.iadd, 1) := by decide +kernel
theorem dL_law_85 : decode cL_law 85 = .ok (.invokestatic 12, 3) := by decide +kernel
theorem dL_law_88 : decode cL_law 88 = .ok (.sipush 7000, 3) := by decide +kernel
theorem dL_law_91 : decode cL_law 91 = .ok (.invokestatic 18, 3) := by decide +kernel
theorem dL_law_94 : decode cL_law 94 = .ok (.iadd, 1) := by decide +kernel
theorem dL_law_95 : decode cL_law 95 = .ok (.invokevirtual 26, 3) := by decide +kernel
theorem dL_law_98 : decode cL_law 98 = .ok (.ifCond .eq 5, 3) := by decide +kernel
theorem dL_law_101 : decode cL_law 101 = .ok (.iconst 0, 1) := by decide +kernel
theorem dL_law_102 : decode cL_law 102 = .ok (.ireturn, 1) := by decide +kernel
theorem dL_law_103 : decode cL_law 103 = .ok (.iinc 3 1, 3) := by decide +kernel
theorem dL_law_106 : decode cL_law 106 = .ok (.goto (-83), 3) := by decide +kernel
theorem dL_law_109 : decode cL_law 109 = .ok (.iconst 0, 1) := by decide +kernel
theorem dL_law_110 : decode cL_law 110 = .ok (.istore_n 3, 1) := by decide +kernel
theorem dL_law_111 : decode cL_law 111 = .ok (.iload_n 3, 1) := by decide +kernel
theorem dL_law_112 : decode cL_law 112 = .ok (.iconst 2, 1) := by decide +kernel
theorem dL_law_113 : decode cL_law 113 = .ok (.if_icmp .ge 97, 3) := by decide +kernel
theorem dL_law_116 : decode cL_law 116 = .ok (.aload_n 1, 1) := by decide +kernel
theorem dL_law_117 : decode cL_law 117 = .ok (.iload_n 3, 1) := by decide +kernel
theorem dL_law_118 : decode cL_law 118 = .ok (.iconst 0, 1) := by decide +kernel
theorem dL_law_119 : decode cL_law 119 = .ok (.aload_n 0, 1) := by decide +kernel
theorem dL_law_120 : decode cL_law 120 = .ok (.iload_n 3, 1) := by decide +kernel
theorem dL_law_121 : decode cL_law 121 = .ok (.invokestatic 12, 3) := by decide +kernel
theorem dL_law_124 : decode cL_law 124 = .ok (.iconst 2, 1) := by decide +kernel
theorem dL_law_125 : decode cL_law 125 = .ok (.ishr, 1) := by decide +kernel
theorem dL_law_126 : decode cL_law 126 = .ok (.ldc 30, 2) := by decide +kernel
theorem dL_law_128 : decode cL_law 128 = .ok (.invokestatic 18, 3) := by decide +kernel
theorem dL_law_131 : decode cL_law 131 = .ok (.invokevirtual 31, 3) := by decide +kernel
theorem dL_law_134 : decode cL_law 134 = .ok (.ifCond .ne 68, 3) := by decide +kernel
theorem dL_law_137 : decode cL_law 137 = .ok (.aload_n 1, 1) := by decide +kernel
theorem dL_law_138 : decode cL_law 138 = .ok (.iload_n 3, 1) := by decide +kernel
theorem dL_law_139 : decode cL_law 139 = .ok (.iconst 1, 1) := by decide +kernel
theorem dL_law_140 : decode cL_law 140 = .ok (.aload_n 0, 1) := by decide +kernel
theorem dL_law_141 : decode cL_law 141 = .ok (.iload_n 3, 1) := by decide +kernel
theorem dL_law_142 : decode cL_law 142 = .ok (.iconst 3, 1) := by decide +kernel
theorem dL_law_143 : decode cL_law 143 = .ok (.iadd, 1) := by decide +kernel
theorem dL_law_144 : decode cL_law 144 = .ok (.invokestatic 12, 3) := by decide +kernel
theorem dL_law_147 : decode cL_law 147 = .ok (.iconst 2, 1) := by decide +kernel
theorem dL_law_148 : decode cL_law 148 = .ok (.ishr, 1) := by decide +kernel
theorem dL_law_149 : decode cL_law 149 = .ok (.ldc 30, 2) := by decide +kernel
theorem dL_law_151 : decode cL_law 151 = .ok (.invokestatic 18, 3) := by decide +kernel
theorem dL_law_154 : decode cL_law 154 = .ok (.invokevirtual 31, 3) := by decide +kernel
theorem dL_law_157 : decode cL_law 157 = .ok (.ifCond .ne 45, 3) := by decide +kernel
theorem dL_law_160 : decode cL_law 160 = .ok (.aload_n 1, 1) := by decide +kernel
theorem dL_law_161 : decode cL_law 161 = .ok (.iload_n 3, 1) := by decide +kernel
theorem dL_law_162 : decode cL_law 162 = .ok (.aload_n 0, 1) := by decide +kernel
theorem dL_law_163 : decode cL_law 163 = .ok (.iload_n 3, 1) := by decide +kernel
theorem dL_law_164 : decode cL_law 164 = .ok (.iconst 5, 1) := by decide +kernel
theorem dL_law_165 : decode cL_law 165 = .ok (.iadd, 1) := by decide +kernel
theorem dL_law_166 : decode cL_law 166 = .ok (.invokestatic 12, 3) := by decide +kernel
theorem dL_law_169 : decode cL_law 169 = .ok (.bipush 101, 2) := by decide +kernel
theorem dL_law_171 : decode cL_law 171 = .ok (.invokestatic 18, 3) := by decide +kernel
theorem dL_law_174 : decode cL_law 174 = .ok (.invokevirtual 34, 3) := by decide +kernel
theorem dL_law_177 : decode cL_law 177 = .ok (.ifCond .ne 25, 3) := by decide +kernel
theorem dL_law_180 : decode cL_law 180 = .ok (.aload_n 1, 1) := by decide +kernel
theorem dL_law_181 : decode cL_law 181 = .ok (.iload_n 3, 1) := by decide +kernel
theorem dL_law_182 : decode cL_law 182 = .ok (.iload_n 3, 1) := by decide +kernel
theorem dL_law_183 : decode cL_law 183 = .ok (.aload_n 0, 1) := by decide +kernel
theorem dL_law_184 : decode cL_law 184 = .ok (.iload_n 3, 1) := by decide +kernel
theorem dL_law_185 : decode cL_law 185 = .ok (.bipush 6, 2) := by decide +kernel
theorem dL_law_187 : decode cL_law 187 = .ok (.iadd, 1) := by decide +kernel
theorem dL_law_188 : decode cL_law 188 = .ok (.invokestatic 12, 3) := by decide +kernel
theorem dL_law_191 : decode cL_law 191 = .ok (.bipush 31, 2) := by decide +kernel
theorem dL_law_193 : decode cL_law 193 = .ok (.invokestatic 18, 3) := by decide +kernel
theorem dL_law_196 : decode cL_law 196 = .ok (.invokevirtual 37, 3) := by decide +kernel
theorem dL_law_199 : decode cL_law 199 = .ok (.ifCond .eq 5, 3) := by decide +kernel
theorem dL_law_202 : decode cL_law 202 = .ok (.iconst 0, 1) := by decide +kernel
theorem dL_law_203 : decode cL_law 203 = .ok (.ireturn, 1) := by decide +kernel
theorem dL_law_204 : decode cL_law 204 = .ok (.iinc 3 1, 3) := by decide +kernel
theorem dL_law_207 : decode cL_law 207 = .ok (.goto (-96), 3) := by decide +kernel
theorem dL_law_210 : decode cL_law 210 = .ok (.bipush 30, 2) := by decide +kernel
theorem dL_law_212 : decode cL_law 212 = .ok (.newarray .int, 2) := by decide +kernel
theorem dL_law_214 : decode cL_law 214 = .ok (.astore_n 3, 1) := by decide +kernel
theorem dL_law_215 : decode cL_law 215 = .ok (.iconst 0, 1) := by decide +kernel
theorem dL_law_216 : decode cL_law 216 = .ok (.istore 4, 2) := by decide +kernel
theorem dL_law_218 : decode cL_law 218 = .ok (.iload 4, 2) := by decide +kernel
theorem dL_law_220 : decode cL_law 220 = .ok (.bipush 50, 2) := by decide +kernel
theorem dL_law_222 : decode cL_law 222 = .ok (.if_icmp .ge 765, 3) := by decide +kernel
theorem dL_law_225 : decode cL_law 225 = .ok (.aload_n 0, 1) := by decide +kernel
theorem dL_law_226 : decode cL_law 226 = .ok (.iload 4, 2) := by decide +kernel
theorem dL_law_228 : decode cL_law 228 = .ok (.bipush 16, 2) := by decide +kernel
theorem dL_law_230 : decode cL_law 230 = .ok (.irem, 1) := by decide +kernel
theorem dL_law_231 : decode cL_law 231 = .ok (.invokestatic 12, 3) := by decide +kernel
theorem dL_law_234 : decode cL_law 234 = .ok (.iload 4, 2) := by decide +kernel
theorem dL_law_236 : decode cL_law 236 = .ok (.bipush 16, 2) := by decide +kernel
theorem dL_law_238 : decode cL_law 238 = .ok (.idiv, 1) := by decide +kernel
theorem dL_law_239 : decode cL_law 239 = .ok (.iconst 2, 1) := by decide +kernel
theorem dL_law_240 : decode cL_law 240 = .ok (.imul, 1) := by decide +kernel
theorem dL_law_241 : decode cL_law 241 = .ok (.ishr, 1) := by decide +kernel
theorem dL_law_242 : decode cL_law 242 = .ok (.bipush 7, 2) := by decide +kernel
theorem dL_law_244 : decode cL_law 244 = .ok (.iload 4, 2) := by decide +kernel
theorem dL_law_246 : decode cL_law 246 = .ok (.imul, 1) := by decide +kernel
theorem dL_law_247 : decode cL_law 247 = .ok (.iadd, 1) := by decide +kernel
theorem dL_law_248 : decode cL_law 248 = .ok (.istore 5, 2) := by decide +kernel
theorem dL_law_250 : decode cL_law 250 = .ok (.aload_n 1, 1) := by decide +kernel
theorem dL_law_251 : decode cL_law 251 = .ok (.iconst 2, 1) := by decide +kernel
theorem dL_law_252 : decode cL_law 252 = .ok (.invokevirtual 40, 3) := by decide +kernel
theorem dL_law_255 : decode cL_law 255 = .ok (.istore 6, 2) := by decide +kernel
theorem dL_law_257 : decode cL_law 257 = .ok (.iload 6, 2) := by decide +kernel
theorem dL_law_259 : decode cL_law 259 = .ok (.ifCond .ne 7, 3) := by decide +kernel
theorem dL_law_262 : decode cL_law 262 = .ok (.iconst (-1), 1) := by decide +kernel
theorem dL_law_263 : decode cL_law 263 = .ok (.goto 12, 3) := by decide +kernel
theorem dL_law_266 : decode cL_law 266 = .ok (.iload 5, 2) := by decide +kernel
theorem dL_law_268 : decode cL_law 268 = .ok (.iconst 3, 1) := by decide +kernel
theorem dL_law_269 : decode cL_law 269 = .ok (.ishr, 1) := by decide +kernel
theorem dL_law_270 : decode cL_law 270 = .ok (.iload 6, 2) := by decide +kernel
theorem dL_law_272 : decode cL_law 272 = .ok (.invokestatic 18, 3) := by decide +kernel
theorem dL_law_275 : decode cL_law 275 = .ok (.istore 7, 2) := by decide +kernel
theorem dL_law_277 : decode cL_law 277 = .ok (.iload 5, 2) := by decide +kernel
theorem dL_law_279 : decode cL_law 279 = .ok (.iconst 4, 1) := by decide +kernel
theorem dL_law_280 : decode cL_law 280 = .ok (.ishr, 1) := by decide +kernel
theorem dL_law_281 : decode cL_law 281 = .ok (.iload_n 2, 1) := by decide +kernel
theorem dL_law_282 : decode cL_law 282 = .ok (.invokestatic 18, 3) := by decide +kernel
theorem dL_law_285 : decode cL_law 285 = .ok (.istore 8, 2) := by decide +kernel
theorem dL_law_287 : decode cL_law 287 = .ok (.iload 5, 2) := by decide +kernel
theorem dL_law_289 : decode cL_law 289 = .ok (.bipush 6, 2) := by decide +kernel
theorem dL_law_291 : decode cL_law 291 = .ok (.ishr, 1) := by decide +kernel
theorem dL_law_292 : decode cL_law 292 = .ok (.iconst 2, 1) := by decide +kernel
theorem dL_law_293 : decode cL_law 293 = .ok (.invokestatic 18, 3) := by decide +kernel
theorem dL_law_296 : decode cL_law 296 = .ok (.istore 9, 2) := by decide +kernel
theorem dL_law_298 : decode cL_law 298 = .ok (.aload_n 1, 1) := by decide +kernel
theorem dL_law_299 : decode cL_law 299 = .ok (.bipush 10, 2) := by decide +kernel
theorem dL_law_301 : decode cL_law 301 = .ok (.invokevirtual 40, 3) := by decide +kernel
theorem dL_law_304 : decode cL_law 304 = .ok (.istore 10, 2) := by decide +kernel
theorem dL_law_306 : decode cL_law 306 = .ok (.iload 5, 2) := by decide +kernel
theorem dL_law_308 : decode cL_law 308 = .ok (.bipush 8, 2) := by decide +kernel
theorem dL_law_310 : decode cL_law 310 = .ok (.invokestatic 18, 3) := by decide +kernel
theorem dL_law_313 : decode cL_law 313 = .ok (.tableswitch 530 0 5 #[39, 39, 193, 193, 360, 463], 39) := by decide +kernel
theorem dL_law_352 : decode cL_law 352 = .ok (.iload 5, 2) := by decide +kernel
theorem dL_law_354 : decode cL_law 354 = .ok (.iconst 5, 1) := by decide +kernel
theorem dL_law_355 : decode cL_law 355 = .ok (.ishr, 1) := by decide +kernel
theorem dL_law_356 : decode cL_law 356 = .ok (.iconst 2, 1) := by decide +kernel
theorem dL_law_357 : decode cL_law 357 = .ok (.invokestatic 18, 3) := by decide +kernel
theorem dL_law_360 : decode cL_law 360 = .ok (.istore 11, 2) := by decide +kernel
theorem dL_law_362 : decode cL_law 362 = .ok (.aload_n 1, 1) := by decide +kernel
theorem dL_law_363 : decode cL_law 363 = .ok (.iload 8, 2) := by decide +kernel
theorem dL_law_365 : decode cL_law 365 = .ok (.iload 9, 2) := by decide +kernel
theorem dL_law_367 : decode cL_law 367 = .ok (.iload 11, 2) := by decide +kernel
theorem dL_law_369 : decode cL_law 369 = .ok (.invokevirtual 43, 3) := by decide +kernel
theorem dL_law_372 : decode cL_law 372 = .ok (.aload_n 1, 1) := by decide +kernel
theorem dL_law_373 : decode cL_law 373 = .ok (.iload 9, 2) := by decide +kernel
theorem dL_law_375 : decode cL_law 375 = .ok (.iload 10, 2) := by decide +kernel
theorem dL_law_377 : decode cL_law 377 = .ok (.bipush 30, 2) := by decide +kernel
theorem dL_law_379 : decode cL_law 379 = .ok (.idiv, 1) := by decide +kernel
theorem dL_law_380 : decode cL_law 380 = .ok (.invokevirtual 46, 3) := by decide +kernel
theorem dL_law_383 : decode cL_law 383 = .ok (.invokestatic 49, 3) := by decide +kernel
theorem dL_law_386 : decode cL_law 386 = .ok (.istore 12, 2) := by decide +kernel
theorem dL_law_388 : decode cL_law 388 = .ok (.iconst 1, 1) := by decide +kernel
theorem dL_law_389 : decode cL_law 389 = .ok (.iload 5, 2) := by decide +kernel
theorem dL_law_391 : decode cL_law 391 = .ok (.iconst 2, 1) := by decide +kernel
theorem dL_law_392 : decode cL_law 392 = .ok (.ishr, 1) := by decide +kernel
theorem dL_law_393 : decode cL_law 393 = .ok (.sipush 2600, 3) := by decide +kernel
theorem dL_law_396 : decode cL_law 396 = .ok (.invokestatic 18, 3) := by decide +kernel
theorem dL_law_399 : decode cL_law 399 = .ok (.iadd, 1) := by decide +kernel
theorem dL_law_400 : decode cL_law 400 = .ok (.istore 13, 2) := by decide +kernel
theorem dL_law_402 : decode cL_law 402 = .ok (.iload 13, 2) := by decide +kernel
theorem dL_law_404 : decode cL_law 404 = .ok (.iload 12, 2) := by decide +kernel
theorem dL_law_406 : decode cL_law 406 = .ok (.if_icmp .le 20, 3) := by decide +kernel
theorem dL_law_409 : decode cL_law 409 = .ok (.aload_n 1, 1) := by decide +kernel
theorem dL_law_410 : decode cL_law 410 = .ok (.iload 8, 2) := by decide +kernel
theorem dL_law_412 : decode cL_law 412 = .ok (.iload 9, 2) := by decide +kernel
theorem dL_law_414 : decode cL_law 414 = .ok (.iload 11, 2) := by decide +kernel
theorem dL_law_416 : decode cL_law 416 = .ok (.iload 13, 2) := by decide +kernel
theorem dL_law_418 : decode cL_law 418 = .ok (.invokestatic 54, 3) := by decide +kernel
theorem dL_law_421 : decode cL_law 421 = .ok (.ifCond .ne 549, 3) := by decide +kernel
theorem dL_law_424 : decode cL_law 424 = .ok (.iconst 0, 1) := by decide +kernel
theorem dL_law_425 : decode cL_law 425 = .ok (.ireturn, 1) := by decide +kernel
theorem dL_law_426 : decode cL_law 426 = .ok (.iload 6, 2) := by decide +kernel
theorem dL_law_428 : decode cL_law 428 = .ok (.bipush 30, 2) := by decide +kernel
theorem dL_law_430 : decode cL_law 430 = .ok (.if_icmp .ne 6, 3) := by decide +kernel
theorem dL_law_433 : decode cL_law 433 = .ok (.goto 537, 3) := by decide +kernel
theorem dL_law_436 : decode cL_law 436 = .ok (.aload_n 1, 1) := by decide +kernel
theorem dL_law_437 : decode cL_law 437 = .ok (.bipush 9, 2) := by decide +kernel
theorem dL_law_439 : decode cL_law 439 = .ok (.invokevirtual 40, 3) := by decide +kernel
theorem dL_law_442 : decode cL_law 442 = .ok (.istore 14, 2) := by decide +kernel
theorem dL_law_444 : decode cL_law 444 = .ok (.aload_n 1, 1) := by decide +kernel
theorem dL_law_445 : decode cL_law 445 = .ok (.iload 8, 2) := by decide +kernel
theorem dL_law_447 : decode cL_law 447 = .ok (.iload 9, 2) := by decide +kernel
theorem dL_law_449 : decode cL_law 449 = .ok (.iload 11, 2) := by decide +kernel
theorem dL_law_451 : decode cL_law 451 = .ok (.iload 13, 2) := by decide +kernel
theorem dL_law_453 : decode cL_law 453 = .ok (.iload 5, 2) := by decide +kernel
theorem dL_law_455 : decode cL_law 455 = .ok (.bipush 7, 2) := by decide +kernel
theorem dL_law_457 : decode cL_law 457 = .ok (.ishr, 1) := by decide +kernel
theorem dL_law_458 : decode cL_law 458 = .ok (.iconst 4, 1) := by decide +kernel
theorem dL_law_459 : decode cL_law 459 = .ok (.invokestatic 18, 3) := by decide +kernel
theorem dL_law_462 : decode cL_law 462 = .ok (.invokevirtual 58, 3) := by decide +kernel
theorem dL_law_465 : decode cL_law 465 = .ok (.iload 6, 2) := by decide +kernel
theorem dL_law_467 : decode cL_law 467 = .ok (.if_icmp .ne 37, 3) := by decide +kernel
theorem dL_law_470 : decode cL_law 470 = .ok (.aload_n 1, 1) := by decide +kernel
theorem dL_law_471 : decode cL_law 471 = .ok (.iload 6, 2) := by decide +kernel
theorem dL_law_473 : decode cL_law 473 = .ok (.iconst 4, 1) := by decide +kernel
theorem dL_law_474 : decode cL_law 474 = .ok (.invokevirtual 62, 3) := by decide +kernel
theorem dL_law_477 : decode cL_law 477 = .ok (.ifCond .ne 7, 3) := by decide +kernel
theorem dL_law_480 : decode cL_law 480 = .ok (.iconst 1, 1) := by decide +kernel
theorem dL_law_481 : decode cL_law 481 = .ok (.goto 4, 3) := by decide +kernel
theorem dL_law_484 : decode cL_law 484 = .ok (.iconst 0, 1) := by decide +kernel
theorem dL_law_485 : decode cL_law 485 = .ok (.aload_n 1, 1) := by decide +kernel
theorem dL_law_486 : decode cL_law 486 = .ok (.bipush 9, 2) := by decide +kernel
theorem dL_law_488 : decode cL_law 488 = .ok (.invokevirtual 40, 3) := by decide +kernel
theorem dL_law_491 : decode cL_law 491 = .ok (.iload 14, 2) := by decide +kernel
theorem dL_law_493 : decode cL_law 493 = .ok (.if_icmp .ne 7, 3) := by decide +kernel
theorem dL_law_496 : decode cL_law 496 = .ok (.iconst 1, 1) := by decide +kernel
theorem dL_law_497 : decode cL_law 497 = .ok (.goto 4, 3) := by decide +kernel
theorem dL_law_500 : decode cL_law 500 = .ok (.iconst 0, 1) := by decide +kernel
theorem dL_law_501 : decode cL_law 501 = .ok (.if_icmp .eq 469, 3) := by decide +kernel
theorem dL_law_504 : decode cL_law 504 = .ok (.iconst 0, 1) := by decide +kernel
theorem dL_law_505 : decode cL_law 505 = .ok (.ireturn, 1) := by decide +kernel
theorem dL_law_506 : decode cL_law 506 = .ok (.iload 7, 2) := by decide +kernel
theorem dL_law_508 : decode cL_law 508 = .ok (.ifCond .lt 462, 3) := by decide +kernel
theorem dL_law_511 : decode cL_law 511 = .ok (.aload_n 1, 1) := by decide +kernel
theorem dL_law_512 : decode cL_law 512 = .ok (.bipush 8, 2) := by decide +kernel
theorem dL_law_514 : decode cL_law 514 = .ok (.invokevirtual 40, 3) := by decide +kernel
theorem dL_law_517 : decode cL_law 517 = .ok (.bipush 30, 2) := by decide +kernel
theorem dL_law_519 : decode cL_law 519 = .ok (.if_icmp .ne 6, 3) := by decide +kernel
theorem dL_law_522 : decode cL_law 522 = .ok (.goto 448, 3) := by decide +kernel
theorem dL_law_525 : decode cL_law 525 = .ok (.iconst 1, 1) := by decide +kernel
theorem dL_law_526 : decode cL_law 526 = .ok (.aload_n 1, 1) := by decide +kernel
theorem dL_law_527 : decode cL_law 527 = .ok (.iload 7, 2) := by decide +kernel
theorem dL_law_529 : decode cL_law 529 = .ok (.iconst 2, 1) := by decide +kernel
theorem dL_law_530 : decode cL_law 530 = .ok (.invokevirtual 62, 3) := by decide +kernel
theorem dL_law_533 : decode cL_law 533 = .ok (.iconst 4, 1) := by decide +kernel
theorem dL_law_534 : decode cL_law 534 = .ok (.isub, 1) := by decide +kernel
theorem dL_law_535 : decode cL_law 535 = .ok (.iload 5, 2) := by decide +kernel
theorem dL_law_537 : decode cL_law 537 = .ok (.iconst 2, 1) := by decide +kernel
theorem dL_law_538 : decode cL_law 538 = .ok (.ishr, 1) := by decide +kernel
theorem dL_law_539 : decode cL_law 539 = .ok (.bipush 9, 2) := by decide +kernel
theorem dL_law_541 : decode cL_law 541 = .ok (.invokestatic 18, 3) := by decide +kernel
theorem dL_law_544 : decode cL_law 544 = .ok (.iadd, 1) := by decide +kernel
theorem dL_law_545 : decode cL_law 545 = .ok (.invokestatic 65, 3) := by decide +kernel
theorem dL_law_548 : decode cL_law 548 = .ok (.istore 15, 2) := by decide +kernel
theorem dL_law_550 : decode cL_law 550 = .ok (.bipush 119, 2) := by decide +kernel
theorem dL_law_552 : decode cL_law 552 = .ok (.aload_n 1, 1) := by decide +kernel
theorem dL_law_553 : decode cL_law 553 = .ok (.iload 7, 2) := by decide +kernel
theorem dL_law_555 : decode cL_law 555 = .ok (.iconst 3, 1) := by decide +kernel
theorem dL_law_556 : decode cL_law 556 = .ok (.invokevirtual 62, 3) := by decide +kernel
theorem dL_law_559 : decode cL_law 559 = .ok (.iload 5, 2) := by decide +kernel
theorem dL_law_561 : decode cL_law 561 = .ok (.iconst 5, 1) := by decide +kernel
theorem dL_law_562 : decode cL_law 562 = .ok (.ishr, 1) := by decide +kernel
theorem dL_law_563 : decode cL_law 563 = .ok (.iconst 4, 1) := by decide +kernel
theorem dL_law_564 : decode cL_law 564 = .ok (.invokestatic 18, 3) := by decide +kernel
theorem dL_law_567 : decode cL_law 567 = .ok (.iadd, 1) := by decide +kernel
theorem dL_law_568 : decode cL_law 568 = .ok (.invokestatic 49, 3) := by decide +kernel
theorem dL_law_571 : decode cL_law 571 = .ok (.istore 16, 2) := by decide +kernel
theorem dL_law_573 : decode cL_law 573 = .ok (.aload_n 1, 1) := by decide +kernel
theorem dL_law_574 : decode cL_law 574 = .ok (.iload 15, 2) := by decide +kernel
theorem dL_law_576 : decode cL_law 576 = .ok (.iload 16, 2) := by decide +kernel
theorem dL_law_578 : decode cL_law 578 = .ok (.iload 5, 2) := by decide +kernel
theorem dL_law_580 : decode cL_law 580 = .ok (.bipush 7, 2) := by decide +kernel
theorem dL_law_582 : decode cL_law 582 = .ok (.ishr, 1) := by decide +kernel
theorem dL_law_583 : decode cL_law 583 = .ok (.iconst 4, 1) := by decide +kernel
theorem dL_law_584 : decode cL_law 584 = .ok (.invokestatic 18, 3) := by decide +kernel
theorem dL_law_587 : decode cL_law 587 = .ok (.invokevirtual 68, 3) := by decide +kernel
theorem dL_law_590 : decode cL_law 590 = .ok (.istore 17, 2) := by decide +kernel
theorem dL_law_592 : decode cL_law 592 = .ok (.aload_n 1, 1) := by decide +kernel
theorem dL_law_593 : decode cL_law 593 = .ok (.iload 15, 2) := by decide +kernel
theorem dL_law_595 : decode cL_law 595 = .ok (.iload 16, 2) := by decide +kernel
theorem dL_law_597 : decode cL_law 597 = .ok (.iload 5, 2) := by decide +kernel
theorem dL_law_599 : decode cL_law 599 = .ok (.bipush 7, 2) := by decide +kernel
theorem dL_law_601 : decode cL_law 601 = .ok (.ishr, 1) := by decide +kernel
theorem dL_law_602 : decode cL_law 602 = .ok (.iconst 4, 1) := by decide +kernel
theorem dL_law_603 : decode cL_law 603 = .ok (.invokestatic 18, 3) := by decide +kernel
theorem dL_law_606 : decode cL_law 606 = .ok (.invokevirtual 71, 3) := by decide +kernel
theorem dL_law_609 : decode cL_law 609 = .ok (.iload 17, 2) := by decide +kernel
theorem dL_law_611 : decode cL_law 611 = .ok (.if_icmp .ne 60, 3) := by decide +kernel
theorem dL_law_614 : decode cL_law 614 = .ok (.aload_n 1, 1) := by decide +kernel
theorem dL_law_615 : decode cL_law 615 = .ok (.aload_n 1, 1) := by decide +kernel
theorem dL_law_616 : decode cL_law 616 = .ok (.bipush 8, 2) := by decide +kernel
theorem dL_law_618 : decode cL_law 618 = .ok (.invokevirtual 40, 3) := by decide +kernel
theorem dL_law_621 : decode cL_law 621 = .ok (.iconst 1, 1) := by decide +kernel
theorem dL_law_622 : decode cL_law 622 = .ok (.isub, 1) := by decide +kernel
theorem dL_law_623 : decode cL_law 623 = .ok (.invokevirtual 74, 3) := by decide +kernel
theorem dL_law_626 : decode cL_law 626 = .ok (.iload 17, 2) := by decide +kernel
theorem dL_law_628 : decode cL_law 628 = .ok (.if_icmp .ne 43, 3) := by decide +kernel
theorem dL_law_631 : decode cL_law 631 = .ok (.iload 17, 2) := by decide +kernel
theorem dL_law_633 : decode cL_law 633 = .ok (.ifCond .lt 337, 3) := by decide +kernel
theorem dL_law_636 : decode cL_law 636 = .ok (.aload_n 1, 1) := by decide +kernel
theorem dL_law_637 : decode cL_law 637 = .ok (.iload 17, 2) := by decide +kernel
theorem dL_law_639 : decode cL_law 639 = .ok (.iconst 5, 1) := by decide +kernel
theorem dL_law_640 : decode cL_law 640 = .ok (.invokevirtual 62, 3) := by decide +kernel
theorem dL_law_643 : decode cL_law 643 = .ok (.aload_n 1, 1) := by decide +kernel
theorem dL_law_644 : decode cL_law 644 = .ok (.bipush 8, 2) := by decide +kernel
theorem dL_law_646 : decode cL_law 646 = .ok (.invokevirtual 40, 3) := by decide +kernel
theorem dL_law_649 : decode cL_law 649 = .ok (.iconst 1, 1) := by decide +kernel
theorem dL_law_650 : decode cL_law 650 = .ok (.isub, 1) := by decide +kernel
theorem dL_law_651 : decode cL_law 651 = .ok (.if_icmp .ne 20, 3) := by decide +kernel
theorem dL_law_654 : decode cL_law 654 = .ok (.aload_n 1, 1) := by decide +kernel
theorem dL_law_655 : decode cL_law 655 = .ok (.iload 17, 2) := by decide +kernel
theorem dL_law_657 : decode cL_law 657 = .ok (.aload_n 1, 1) := by decide +kernel
theorem dL_law_658 : decode cL_law 658 = .ok (.bipush 8, 2) := by decide +kernel
theorem dL_law_660 : decode cL_law 660 = .ok (.invokevirtual 40, 3) := by decide +kernel
theorem dL_law_663 : decode cL_law 663 = .ok (.iconst 1, 1) := by decide +kernel
theorem dL_law_664 : decode cL_law 664 = .ok (.isub, 1) := by decide +kernel
theorem dL_law_665 : decode cL_law 665 = .ok (.invokevirtual 77, 3) := by decide +kernel
theorem dL_law_668 : decode cL_law 668 = .ok (.ifCond .ge 302, 3) := by decide +kernel
theorem dL_law_671 : decode cL_law 671 = .ok (.iconst 0, 1) := by decide +kernel
theorem dL_law_672 : decode cL_law 672 = .ok (.ireturn, 1) := by decide +kernel
theorem dL_law_673 : decode cL_law 673 = .ok (.iload_n 2, 1) := by decide +kernel
theorem dL_law_674 : decode cL_law 674 = .ok (.newarray .int, 2) := by decide +kernel
theorem dL_law_676 : decode cL_law 676 = .ok (.astore 18, 2) := by decide +kernel
theorem dL_law_678 : decode cL_law 678 = .ok (.iconst 0, 1) := by decide +kernel
theorem dL_law_679 : decode cL_law 679 = .ok (.istore 19, 2) := by decide +kernel
theorem dL_law_681 : decode cL_law 681 = .ok (.iload 19, 2) := by decide +kernel
theorem dL_law_683 : decode cL_law 683 = .ok (.iload_n 2, 1) := by decide +kernel
theorem dL_law_684 : decode cL_law 684 = .ok (.if_icmp .ge 21, 3) := by decide +kernel
theorem dL_law_687 : decode cL_law 687 = .ok (.aload 18, 2) := by decide +kernel
theorem dL_law_689 : decode cL_law 689 = .ok (.iload 19, 2) := by decide +kernel
theorem dL_law_691 : decode cL_law 691 = .ok (.aload_n 1, 1) := by decide +kernel
theorem dL_law_692 : decode cL_law 692 = .ok (.iload 19, 2) := by decide +kernel
theorem dL_law_694 : decode cL_law 694 = .ok (.iconst 1, 1) := by decide +kernel
theorem dL_law_695 : decode cL_law 695 = .ok (.invokevirtual 80, 3) := by decide +kernel
theorem dL_law_698 : decode cL_law 698 = .ok (.iastore, 1) := by decide +kernel
theorem dL_law_699 : decode cL_law 699 = .ok (.iinc 19 1, 3) := by decide +kernel
theorem dL_law_702 : decode cL_law 702 = .ok (.goto (-21), 3) := by decide +kernel
theorem dL_law_705 : decode cL_law 705 = .ok (.iload 10, 2) := by decide +kernel
theorem dL_law_707 : decode cL_law 707 = .ok (.bipush 119, 2) := by decide +kernel
theorem dL_law_709 : decode cL_law 709 = .ok (.if_icmp .ne 6, 3) := by decide +kernel
theorem dL_law_712 : decode cL_law 712 = .ok (.goto 258, 3) := by decide +kernel
theorem dL_law_715 : decode cL_law 715 = .ok (.aload_n 1, 1) := by decide +kernel
theorem dL_law_716 : decode cL_law 716 = .ok (.bipush 6, 2) := by decide +kernel
theorem dL_law_718 : decode cL_law 718 = .ok (.invokevirtual 40, 3) := by decide +kernel
theorem dL_law_721 : decode cL_law 721 = .ok (.istore 19, 2) := by decide +kernel
theorem dL_law_723 : decode cL_law 723 = .ok (.aload_n 1, 1) := by decide +kernel
theorem dL_law_724 : decode cL_law 724 = .ok (.invokevirtual 83, 3) := by decide +kernel
theorem dL_law_727 : decode cL_law 727 = .ok (.aload_n 1, 1) := by decide +kernel
theorem dL_law_728 : decode cL_law 728 = .ok (.bipush 6, 2) := by decide +kernel
theorem dL_law_730 : decode cL_law 730 = .ok (.invokevirtual 40, 3) := by decide +kernel
theorem dL_law_733 : decode cL_law 733 = .ok (.iload 19, 2) := by decide +kernel
theorem dL_law_735 : decode cL_law 735 = .ok (.isub, 1) := by decide +kernel
theorem dL_law_736 : decode cL_law 736 = .ok (.if_icmp .ge 5, 3) := by decide +kernel
theorem dL_law_739 : decode cL_law 739 = .ok (.iconst 0, 1) := by decide +kernel
theorem dL_law_740 : decode cL_law 740 = .ok (.ireturn, 1) := by decide +kernel
theorem dL_law_741 : decode cL_law 741 = .ok (.iconst 0, 1) := by decide +kernel
theorem dL_law_742 : decode cL_law 742 = .ok (.istore 20, 2) := by decide +kernel
theorem dL_law_744 : decode cL_law 744 = .ok (.iload 20, 2) := by decide +kernel
theorem dL_law_746 : decode cL_law 746 = .ok (.iload_n 2, 1) := by decide +kernel
theorem dL_law_747 : decode cL_law 747 = .ok (.if_icmp .ge 26, 3) := by decide +kernel
theorem dL_law_750 : decode cL_law 750 = .ok (.aload_n 1, 1) := by decide +kernel
theorem dL_law_751 : decode cL_law 751 = .ok (.iload 20, 2) := by decide +kernel
theorem dL_law_753 : decode cL_law 753 = .ok (.iconst 1, 1) := by decide +kernel
theorem dL_law_754 : decode cL_law 754 = .ok (.invokevirtual 87, 3) := by decide +kernel
theorem dL_law_757 : decode cL_law 757 = .ok (.aload 18, 2) := by decide +kernel
theorem dL_law_759 : decode cL_law 759 = .ok (.iload 20, 2) := by decide +kernel
theorem dL_law_761 : decode cL_law 761 = .ok (.iaload, 1) := by decide +kernel
theorem dL_law_762 : decode cL_law 762 = .ok (.if_icmp .eq 5, 3) := by decide +kernel
theorem dL_law_765 : decode cL_law 765 = .ok (.iconst 0, 1) := by decide +kernel
theorem dL_law_766 : decode cL_law 766 = .ok (.ireturn, 1) := by decide +kernel
theorem dL_law_767 : decode cL_law 767 = .ok (.iinc 20 1, 3) := by decide +kernel
theorem dL_law_770 : decode cL_law 770 = .ok (.goto (-26), 3) := by decide +kernel
theorem dL_law_773 : decode cL_law 773 = .ok (.goto 197, 3) := by decide +kernel
theorem dL_law_776 : decode cL_law 776 = .ok (.iload 5, 2) := by decide +kernel
theorem dL_law_778 : decode cL_law 778 = .ok (.iconst 2, 1) := by decide +kernel
theorem dL_law_779 : decode cL_law 779 = .ok (.ishr, 1) := by decide +kernel
theorem dL_law_780 : decode cL_law 780 = .ok (.iload_n 2, 1) := by decide +kernel
theorem dL_law_781 : decode cL_law 781 = .ok (.invokestatic 18, 3) := by decide +kernel
theorem dL_law_784 : decode cL_law 784 = .ok (.istore 20, 2) := by decide +kernel
theorem dL_law_786 : decode cL_law 786 = .ok (.aload_n 1, 1) := by decide +kernel
theorem dL_law_787 : decode cL_law 787 = .ok (.iload 8, 2) := by decide +kernel
theorem dL_law_789 : decode cL_law 789 = .ok (.iconst 3, 1) := by decide +kernel
theorem dL_law_790 : decode cL_law 790 = .ok (.invokevirtual 87, 3) := by decide +kernel
theorem dL_law_793 : decode cL_law 793 = .ok (.iconst 1, 1) := by decide +kernel
theorem dL_law_794 : decode cL_law 794 = .ok (.if_icmp .ne 7, 3) := by decide +kernel
theorem dL_law_797 : decode cL_law 797 = .ok (.iconst 1, 1) := by decide +kernel
theorem dL_law_798 : decode cL_law 798 = .ok (.goto 4, 3) := by decide +kernel
theorem dL_law_801 : decode cL_law 801 = .ok (.iconst 0, 1) := by decide +kernel
theorem dL_law_802 : decode cL_law 802 = .ok (.istore 21, 2) := by decide +kernel
theorem dL_law_804 : decode cL_law 804 = .ok (.iload 20, 2) := by decide +kernel
theorem dL_law_806 : decode cL_law 806 = .ok (.iload 8, 2) := by decide +kernel
theorem dL_law_808 : decode cL_law 808 = .ok (.if_icmp .eq 162, 3) := by decide +kernel
theorem dL_law_811 : decode cL_law 811 = .ok (.aload_n 1, 1) := by decide +kernel
theorem dL_law_812 : decode cL_law 812 = .ok (.iload 8, 2) := by decide +kernel
theorem dL_law_814 : decode cL_law 814 = .ok (.bipush 119, 2) := by decide +kernel
theorem dL_law_816 : decode cL_law 816 = .ok (.iload 10, 2) := by decide +kernel
theorem dL_law_818 : decode cL_law 818 = .ok (.iload 5, 2) := by decide +kernel
theorem dL_law_820 : decode cL_law 820 = .ok (.iconst 5, 1) := by decide +kernel
theorem dL_law_821 : decode cL_law 821 = .ok (.ishr, 1) := by decide +kernel
theorem dL_law_822 : decode cL_law 822 = .ok (.bipush 6, 2) := by decide +kernel
theorem dL_law_824 : decode cL_law 824 = .ok (.invokestatic 18, 3) := by decide +kernel
theorem dL_law_827 : decode cL_law 827 = .ok (.iadd, 1) := by decide +kernel
theorem dL_law_828 : decode cL_law 828 = .ok (.invokestatic 49, 3) := by decide +kernel
theorem dL_law_831 : decode cL_law 831 = .ok (.iload 20, 2) := by decide +kernel
theorem dL_law_833 : decode cL_law 833 = .ok (.invokevirtual 90, 3) := by decide +kernel
theorem dL_law_836 : decode cL_law 836 = .ok (.iload 21, 2) := by decide +kernel
theorem dL_law_838 : decode cL_law 838 = .ok (.if_icmp .eq 132, 3) := by decide +kernel
theorem dL_law_841 : decode cL_law 841 = .ok (.iconst 0, 1) := by decide +kernel
theorem dL_law_842 : decode cL_law 842 = .ok (.ireturn, 1) := by decide +kernel
theorem dL_law_843 : decode cL_law 843 = .ok (.iload 7, 2) := by decide +kernel
theorem dL_law_845 : decode cL_law 845 = .ok (.ifCond .ge 7, 3) := by decide +kernel
theorem dL_law_848 : decode cL_law 848 = .ok (.iconst (-1), 1) := by decide +kernel
theorem dL_law_849 : decode cL_law 849 = .ok (.goto 11, 3) := by decide +kernel
theorem dL_law_852 : decode cL_law 852 = .ok (.aload_n 1, 1) := by decide +kernel
theorem dL_law_853 : decode cL_law 853 = .ok (.iload 7, 2) := by decide +kernel
theorem dL_law_855 : decode cL_law 855 = .ok (.bipush 10, 2) := by decide +kernel
theorem dL_law_857 : decode cL_law 857 = .ok (.invokevirtual 62, 3) := by decide +kernel
theorem dL_law_860 : decode cL_law 860 = .ok (.istore 22, 2) := by decide +kernel
theorem dL_law_862 : decode cL_law 862 = .ok (.iload 22, 2) := by decide +kernel
theorem dL_law_864 : decode cL_law 864 = .ok (.ifCond .ge 6, 3) := by decide +kernel
theorem dL_law_867 : decode cL_law 867 = .ok (.goto 103, 3) := by decide +kernel
theorem dL_law_870 : decode cL_law 870 = .ok (.iload 5, 2) := by decide +kernel
theorem dL_law_872 : decode cL_law 872 = .ok (.iconst 2, 1) := by decide +kernel
theorem dL_law_873 : decode cL_law 873 = .ok (.ishr, 1) := by decide +kernel
theorem dL_law_874 : decode cL_law 874 = .ok (.bipush 6, 2) := by decide +kernel
theorem dL_law_876 : decode cL_law 876 = .ok (.invokestatic 18, 3) := by decide +kernel
theorem dL_law_879 : decode cL_law 879 = .ok (.ifCond .ne 48, 3) := by decide +kernel
theorem dL_law_882 : decode cL_law 882 = .ok (.aload_n 1, 1) := by decide +kernel
theorem dL_law_883 : decode cL_law 883 = .ok (.iload 7, 2) := by decide +kernel
theorem dL_law_885 : decode cL_law 885 = .ok (.iload 22, 2) := by decide +kernel
theorem dL_law_887 : decode cL_law 887 = .ok (.invokevirtual 94, 3) := by decide +kernel
theorem dL_law_890 : decode cL_law 890 = .ok (.aload_n 1, 1) := by decide +kernel
theorem dL_law_891 : decode cL_law 891 = .ok (.bipush 7, 2) := by decide +kernel
theorem dL_law_893 : decode cL_law 893 = .ok (.invokevirtual 40, 3) := by decide +kernel
theorem dL_law_896 : decode cL_law 896 = .ok (.if_icmp .ne 29, 3) := by decide +kernel
theorem dL_law_899 : decode cL_law 899 = .ok (.aload_n 1, 1) := by decide +kernel
theorem dL_law_900 : decode cL_law 900 = .ok (.iload 7, 2) := by decide +kernel
theorem dL_law_902 : decode cL_law 902 = .ok (.iload 5, 2) := by decide +kernel
theorem dL_law_904 : decode cL_law 904 = .ok (.iconst 5, 1) := by decide +kernel
theorem dL_law_905 : decode cL_law 905 = .ok (.ishr, 1) := by decide +kernel
theorem dL_law_906 : decode cL_law 906 = .ok (.iconst 2, 1) := by decide +kernel
theorem dL_law_907 : decode cL_law 907 = .ok (.invokestatic 18, 3) := by decide +kernel
theorem dL_law_910 : decode cL_law 910 = .ok (.ifCond .ne 7, 3) := by decide +kernel
theorem dL_law_913 : decode cL_law 913 = .ok (.iconst 1, 1) := by decide +kernel
theorem dL_law_914 : decode cL_law 914 = .ok (.goto 4, 3) := by decide +kernel
theorem dL_law_917 : decode cL_law 917 = .ok (.iconst 0, 1) := by decide +kernel
theorem dL_law_918 : decode cL_law 918 = .ok (.invokevirtual 97, 3) := by decide +kernel
theorem dL_law_921 : decode cL_law 921 = .ok (.iconst 4, 1) := by decide +kernel
theorem dL_law_922 : decode cL_law 922 = .ok (.if_icmp .ne 48, 3) := by decide +kernel
theorem dL_law_925 : decode cL_law 925 = .ok (.iconst 0, 1) := by decide +kernel
theorem dL_law_926 : decode cL_law 926 = .ok (.ireturn, 1) := by decide +kernel
theorem dL_law_927 : decode cL_law 927 = .ok (.aload_n 1, 1) := by decide +kernel
theorem dL_law_928 : decode cL_law 928 = .ok (.iload 7, 2) := by decide +kernel
theorem dL_law_930 : decode cL_law 930 = .ok (.bipush 9, 2) := by decide +kernel
theorem dL_law_932 : decode cL_law 932 = .ok (.invokevirtual 62, 3) := by decide +kernel
theorem dL_law_935 : decode cL_law 935 = .ok (.istore 23, 2) := by decide +kernel
theorem dL_law_937 : decode cL_law 937 = .ok (.aload_n 1, 1) := by decide +kernel
theorem dL_law_938 : decode cL_law 938 = .ok (.iload 7, 2) := by decide +kernel
theorem dL_law_940 : decode cL_law 940 = .ok (.iload 22, 2) := by decide +kernel
theorem dL_law_942 : decode cL_law 942 = .ok (.invokevirtual 101, 3) := by decide +kernel
theorem dL_law_945 : decode cL_law 945 = .ok (.aload_n 1, 1) := by decide +kernel
theorem dL_law_946 : decode cL_law 946 = .ok (.iload 7, 2) := by decide +kernel
theorem dL_law_948 : decode cL_law 948 = .ok (.iconst 4, 1) := by decide +kernel
theorem dL_law_949 : decode cL_law 949 = .ok (.invokevirtual 62, 3) := by decide +kernel
theorem dL_law_952 : decode cL_law 952 = .ok (.if_icmp .ne 16, 3) := by decide +kernel
theorem dL_law_955 : decode cL_law 955 = .ok (.aload_n 1, 1) := by decide +kernel
theorem dL_law_956 : decode cL_law 956 = .ok (.iload 7, 2) := by decide +kernel
theorem dL_law_958 : decode cL_law 958 = .ok (.bipush 9, 2) := by decide +kernel
theorem dL_law_960 : decode cL_law 960 = .ok (.invokevirtual 62, 3) := by decide +kernel
theorem dL_law_963 : decode cL_law 963 = .ok (.iload 23, 2) := by decide +kernel
theorem dL_law_965 : decode cL_law 965 = .ok (.if_icmp .gt 5, 3) := by decide +kernel
theorem dL_law_968 : decode cL_law 968 = .ok (.iconst 0, 1) := by decide +kernel
theorem dL_law_969 : decode cL_law 969 = .ok (.ireturn, 1) := by decide +kernel
theorem dL_law_970 : decode cL_law 970 = .ok (.aload_n 1, 1) := by decide +kernel
theorem dL_law_971 : decode cL_law 971 = .ok (.iload_n 2, 1) := by decide +kernel
theorem dL_law_972 : decode cL_law 972 = .ok (.aload_n 3, 1) := by decide +kernel
theorem dL_law_973 : decode cL_law 973 = .ok (.invokestatic 104, 3) := by decide +kernel
theorem dL_law_976 : decode cL_law 976 = .ok (.ifCond .ne 5, 3) := by decide +kernel
theorem dL_law_979 : decode cL_law 979 = .ok (.iconst 0, 1) := by decide +kernel
theorem dL_law_980 : decode cL_law 980 = .ok (.ireturn, 1) := by decide +kernel
theorem dL_law_981 : decode cL_law 981 = .ok (.iinc 4 1, 3) := by decide +kernel
theorem dL_law_984 : decode cL_law 984 = .ok (.goto (-766), 3) := by decide +kernel
theorem dL_law_987 : decode cL_law 987 = .ok (.aload_n 1, 1) := by decide +kernel
theorem dL_law_988 : decode cL_law 988 = .ok (.invokevirtual 108, 3) := by decide +kernel
theorem dL_law_991 : decode cL_law 991 = .ok (.lstore 4, 2) := by decide +kernel
theorem dL_law_993 : decode cL_law 993 = .ok (.iconst 0, 1) := by decide +kernel
theorem dL_law_994 : decode cL_law 994 = .ok (.istore 6, 2) := by decide +kernel
theorem dL_law_996 : decode cL_law 996 = .ok (.iload 6, 2) := by decide +kernel
theorem dL_law_998 : decode cL_law 998 = .ok (.iconst 2, 1) := by decide +kernel
theorem dL_law_999 : decode cL_law 999 = .ok (.if_icmp .ge 45, 3) := by decide +kernel
theorem dL_law_1002 : decode cL_law 1002 = .ok (.iconst 0, 1) := by decide +kernel
theorem dL_law_1003 : decode cL_law 1003 = .ok (.istore 7, 2) := by decide +kernel
theorem dL_law_1005 : decode cL_law 1005 = .ok (.iload 7, 2) := by decide +kernel
theorem dL_law_1007 : decode cL_law 1007 = .ok (.iconst 4, 1) := by decide +kernel
theorem dL_law_1008 : decode cL_law 1008 = .ok (.if_icmp .ge 30, 3) := by decide +kernel
theorem dL_law_1011 : decode cL_law 1011 = .ok (.aload_n 1, 1) := by decide +kernel
theorem dL_law_1012 : decode cL_law 1012 = .ok (.iload 6, 2) := by decide +kernel
theorem dL_law_1014 : decode cL_law 1014 = .ok (.iload 7, 2) := by decide +kernel
theorem dL_law_1016 : decode cL_law 1016 = .ok (.invokevirtual 112, 3) := by decide +kernel
theorem dL_law_1019 : decode cL_law 1019 = .ok (.aload_n 1, 1) := by decide +kernel
theorem dL_law_1020 : decode cL_law 1020 = .ok (.iload 6, 2) := by decide +kernel
theorem dL_law_1022 : decode cL_law 1022 = .ok (.iload 7, 2) := by decide +kernel
theorem dL_law_1024 : decode cL_law 1024 = .ok (.invokevirtual 46, 3) := by decide +kernel
theorem dL_law_1027 : decode cL_law 1027 = .ok (.if_icmp .ge 5, 3) := by decide +kernel
theorem dL_law_1030 : decode cL_law 1030 = .ok (.iconst 0, 1) := by decide +kernel
theorem dL_law_1031 : decode cL_law 1031 = .ok (.ireturn, 1) := by decide +kernel
theorem dL_law_1032 : decode cL_law 1032 = .ok (.iinc 7 1, 3) := by decide +kernel
theorem dL_law_1035 : decode cL_law 1035 = .ok (.goto (-30), 3) := by decide +kernel
theorem dL_law_1038 : decode cL_law 1038 = .ok (.iinc 6 1, 3) := by decide +kernel
theorem dL_law_1041 : decode cL_law 1041 = .ok (.goto (-45), 3) := by decide +kernel
theorem dL_law_1044 : decode cL_law 1044 = .ok (.aload_n 1, 1) := by decide +kernel
theorem dL_law_1045 : decode cL_law 1045 = .ok (.invokevirtual 108, 3) := by decide +kernel
theorem dL_law_1048 : decode cL_law 1048 = .ok (.lload 4, 2) := by decide +kernel
theorem dL_law_1050 : decode cL_law 1050 = .ok (.lcmp, 1) := by decide +kernel
theorem dL_law_1051 : decode cL_law 1051 = .ok (.ifCond .ne 7, 3) := by decide +kernel
theorem dL_law_1054 : decode cL_law 1054 = .ok (.iconst 1, 1) := by decide +kernel
theorem dL_law_1055 : decode cL_law 1055 = .ok (.goto 4, 3) := by decide +kernel
theorem dL_law_1058 : decode cL_law 1058 = .ok (.iconst 0, 1) := by decide +kernel
theorem dL_law_1059 : decode cL_law 1059 = .ok (.ireturn, 1) := by decide +kernel
theorem dL_isRefused_0 : decode cL_isRefused 0 = .ok (.aload_n 0, 1) := by decide +kernel
theorem dL_isRefused_1 : decode cL_isRefused 1 = .ok (.iload_n 1, 1) := by decide +kernel
theorem dL_isRefused_2 : decode cL_isRefused 2 = .ok (.iload_n 2, 1) := by decide +kernel
theorem dL_isRefused_3 : decode cL_isRefused 3 = .ok (.iload_n 3, 1) := by decide +kernel
theorem dL_isRefused_4 : decode cL_isRefused 4 = .ok (.iload 4, 2) := by decide +kernel
theorem dL_isRefused_6 : decode cL_isRefused 6 = .ok (.iconst 0, 1) := by decide +kernel
theorem dL_isRefused_7 : decode cL_isRefused 7 = .ok (.invokevirtual 58, 3) := by decide +kernel
theorem dL_isRefused_10 : decode cL_isRefused 10 = .ok (.pop, 1) := by decide +kernel
theorem dL_isRefused_11 : decode cL_isRefused 11 = .ok (.goto 7, 3) := by decide +kernel
theorem dL_isRefused_14 : decode cL_isRefused 14 = .ok (.astore 5, 2) := by decide +kernel
theorem dL_isRefused_16 : decode cL_isRefused 16 = .ok (.iconst 1, 1) := by decide +kernel
theorem dL_isRefused_17 : decode cL_isRefused 17 = .ok (.ireturn, 1) := by decide +kernel
theorem dL_isRefused_18 : decode cL_isRefused 18 = .ok (.iconst 0, 1) := by decide +kernel
theorem dL_isRefused_19 : decode cL_isRefused 19 = .ok (.ireturn, 1) := by decide +kernel
theorem dL_isFair_0 : decode cL_isFair 0 = .ok (.aload_n 0, 1) := by decide +kernel
theorem dL_isFair_1 : decode cL_isFair 1 = .ok (.iconst 2, 1) := by decide +kernel
theorem dL_isFair_2 : decode cL_isFair 2 = .ok (.invokevirtual 40, 3) := by decide +kernel
theorem dL_isFair_5 : decode cL_isFair 5 = .ok (.istore_n 3, 1) := by decide +kernel
theorem dL_isFair_6 : decode cL_isFair 6 = .ok (.aload_n 0, 1) := by decide +kernel
theorem dL_isFair_7 : decode cL_isFair 7 = .ok (.bipush 8, 2) := by decide +kernel
theorem dL_isFair_9 : decode cL_isFair 9 = .ok (.invokevirtual 40, 3) := by decide +kernel
theorem dL_isFair_12 : decode cL_isFair 12 = .ok (.istore 4, 2) := by decide +kernel
theorem dL_isFair_14 : decode cL_isFair 14 = .ok (.iconst 0, 1) := by decide +kernel
theorem dL_isFair_15 : decode cL_isFair 15 = .ok (.istore 5, 2) := by decide +kernel
theorem dL_isFair_17 : decode cL_isFair 17 = .ok (.iconst 0, 1) := by decide +kernel
theorem dL_isFair_18 : decode cL_isFair 18 = .ok (.istore 6, 2) := by decide +kernel
theorem dL_isFair_20 : decode cL_isFair 20 = .ok (.iconst 0, 1) := by decide +kernel
theorem dL_isFair_21 : decode cL_isFair 21 = .ok (.istore 7, 2) := by decide +kernel
theorem dL_isFair_23 : decode cL_isFair 23 = .ok (.iconst 0, 1) := by decide +kernel
theorem dL_isFair_24 : decode cL_isFair 24 = .ok (.istore 8, 2) := by decide +kernel
theorem dL_isFair_26 : decode cL_isFair 26 = .ok (.iload 8, 2) := by decide +kernel
theorem dL_isFair_28 : decode cL_isFair 28 = .ok (.iload 4, 2) := by decide +kernel
theorem dL_isFair_30 : decode cL_isFair 30 = .ok (.if_icmp .ge 51, 3) := by decide +kernel
theorem dL_isFair_33 : decode cL_isFair 33 = .ok (.aload_n 0, 1) := by decide +kernel
theorem dL_isFair_34 : decode cL_isFair 34 = .ok (.iload 8, 2) := by decide +kernel
theorem dL_isFair_36 : decode cL_isFair 36 = .ok (.invokevirtual 74, 3) := by decide +kernel
theorem dL_isFair_39 : decode cL_isFair 39 = .ok (.istore 9, 2) := by decide +kernel
theorem dL_isFair_41 : decode cL_isFair 41 = .ok (.iload 5, 2) := by decide +kernel
theorem dL_isFair_43 : decode cL_isFair 43 = .ok (.iload 9, 2) := by decide +kernel
theorem dL_isFair_45 : decode cL_isFair 45 = .ok (.ifCond .ge 7, 3) := by decide +kernel
theorem dL_isFair_48 : decode cL_isFair 48 = .ok (.iconst 1, 1) := by decide +kernel
theorem dL_isFair_49 : decode cL_isFair 49 = .ok (.goto 4, 3) := by decide +kernel
theorem dL_isFair_52 : decode cL_isFair 52 = .ok (.iconst 0, 1) := by decide +kernel
theorem dL_isFair_53 : decode cL_isFair 53 = .ok (.iadd, 1) := by decide +kernel
theorem dL_isFair_54 : decode cL_isFair 54 = .ok (.istore 5, 2) := by decide +kernel
theorem dL_isFair_56 : decode cL_isFair 56 = .ok (.iload 9, 2) := by decide +kernel
theorem dL_isFair_58 : decode cL_isFair 58 = .ok (.ifCond .lt 17, 3) := by decide +kernel
theorem dL_isFair_61 : decode cL_isFair 61 = .ok (.aload_n 0, 1) := by decide +kernel
theorem dL_isFair_62 : decode cL_isFair 62 = .ok (.iload 9, 2) := by decide +kernel
theorem dL_isFair_64 : decode cL_isFair 64 = .ok (.iconst 5, 1) := by decide +kernel
theorem dL_isFair_65 : decode cL_isFair 65 = .ok (.invokevirtual 62, 3) := by decide +kernel
theorem dL_isFair_68 : decode cL_isFair 68 = .ok (.iload 8, 2) := by decide +kernel
theorem dL_isFair_70 : decode cL_isFair 70 = .ok (.if_icmp .eq 5, 3) := by decide +kernel
theorem dL_isFair_73 : decode cL_isFair 73 = .ok (.iconst 0, 1) := by decide +kernel
theorem dL_isFair_74 : decode cL_isFair 74 = .ok (.ireturn, 1) := by decide +kernel
theorem dL_isFair_75 : decode cL_isFair 75 = .ok (.iinc 8 1, 3) := by decide +kernel
theorem dL_isFair_78 : decode cL_isFair 78 = .ok (.goto (-52), 3) := by decide +kernel
theorem dL_isFair_81 : decode cL_isFair 81 = .ok (.iconst 0, 1) := by decide +kernel
theorem dL_isFair_82 : decode cL_isFair 82 = .ok (.istore 8, 2) := by decide +kernel
theorem dL_isFair_84 : decode cL_isFair 84 = .ok (.iload 8, 2) := by decide +kernel
theorem dL_isFair_86 : decode cL_isFair 86 = .ok (.iload_n 3, 1) := by decide +kernel
theorem dL_isFair_87 : decode cL_isFair 87 = .ok (.if_icmp .ge 200, 3) := by decide +kernel
theorem dL_isFair_90 : decode cL_isFair 90 = .ok (.aload_n 0, 1) := by decide +kernel
theorem dL_isFair_91 : decode cL_isFair 91 = .ok (.iload 8, 2) := by decide +kernel
theorem dL_isFair_93 : decode cL_isFair 93 = .ok (.iconst 4, 1) := by decide +kernel
theorem dL_isFair_94 : decode cL_isFair 94 = .ok (.invokevirtual 62, 3) := by decide +kernel
theorem dL_isFair_97 : decode cL_isFair 97 = .ok (.istore 9, 2) := by decide +kernel
theorem dL_isFair_99 : decode cL_isFair 99 = .ok (.aload_n 0, 1) := by decide +kernel
theorem dL_isFair_100 : decode cL_isFair 100 = .ok (.iload 8, 2) := by decide +kernel
theorem dL_isFair_102 : decode cL_isFair 102 = .ok (.bipush 10, 2) := by decide +kernel
theorem dL_isFair_104 : decode cL_isFair 104 = .ok (.invokevirtual 62, 3) := by decide +kernel
theorem dL_isFair_107 : decode cL_isFair 107 = .ok (.istore 10, 2) := by decide +kernel
theorem dL_isFair_109 : decode cL_isFair 109 = .ok (.aload_n 0, 1) := by decide +kernel
theorem dL_isFair_110 : decode cL_isFair 110 = .ok (.iload 8, 2) := by decide +kernel
theorem dL_isFair_112 : decode cL_isFair 112 = .ok (.iconst 5, 1) := by decide +kernel
theorem dL_isFair_113 : decode cL_isFair 113 = .ok (.invokevirtual 62, 3) := by decide +kernel
theorem dL_isFair_116 : decode cL_isFair 116 = .ok (.istore 11, 2) := by decide +kernel
theorem dL_isFair_118 : decode cL_isFair 118 = .ok (.aload_n 2, 1) := by decide +kernel
theorem dL_isFair_119 : decode cL_isFair 119 = .ok (.iload 8, 2) := by decide +kernel
theorem dL_isFair_121 : decode cL_isFair 121 = .ok (.iaload, 1) := by decide +kernel
theorem dL_isFair_122 : decode cL_isFair 122 = .ok (.iconst 1, 1) := by decide +kernel
theorem dL_isFair_123 : decode cL_isFair 123 = .ok (.if_icmp .le 20, 3) := by decide +kernel
theorem dL_isFair_126 : decode cL_isFair 126 = .ok (.aload_n 2, 1) := by decide +kernel
theorem dL_isFair_127 : decode cL_isFair 127 = .ok (.iload 8, 2) := by decide +kernel
theorem dL_isFair_129 : decode cL_isFair 129 = .ok (.iaload, 1) := by decide +kernel
theorem dL_isFair_130 : decode cL_isFair 130 = .ok (.iconst 4, 1) := by decide +kernel
theorem dL_isFair_131 : decode cL_isFair 131 = .ok (.if_icmp .ge 12, 3) := by decide +kernel
theorem dL_isFair_134 : decode cL_isFair 134 = .ok (.iload 9, 2) := by decide +kernel
theorem dL_isFair_136 : decode cL_isFair 136 = .ok (.aload_n 2, 1) := by decide +kernel
theorem dL_isFair_137 : decode cL_isFair 137 = .ok (.iload 8, 2) := by decide +kernel
theorem dL_isFair_139 : decode cL_isFair 139 = .ok (.iaload, 1) := by decide +kernel
theorem dL_isFair_140 : decode cL_isFair 140 = .ok (.if_icmp .ne 87, 3) := by decide +kernel
theorem dL_isFair_143 : decode cL_isFair 143 = .ok (.iload 9, 2) := by decide +kernel
theorem dL_isFair_145 : decode cL_isFair 145 = .ok (.iconst 1, 1) := by decide +kernel
theorem dL_isFair_146 : decode cL_isFair 146 = .ok (.if_icmp .ne 7, 3) := by decide +kernel
theorem dL_isFair_149 : decode cL_isFair 149 = .ok (.iconst 1, 1) := by decide +kernel
theorem dL_isFair_150 : decode cL_isFair 150 = .ok (.goto 4, 3) := by decide +kernel
theorem dL_isFair_153 : decode cL_isFair 153 = .ok (.iconst 0, 1) := by decide +kernel
theorem dL_isFair_154 : decode cL_isFair 154 = .ok (.iload 10, 2) := by decide +kernel
theorem dL_isFair_156 : decode cL_isFair 156 = .ok (.ifCond .lt 7, 3) := by decide +kernel
theorem dL_isFair_159 : decode cL_isFair 159 = .ok (.iconst 1, 1) := by decide +kernel
theorem dL_isFair_160 : decode cL_isFair 160 = .ok (.goto 4, 3) := by decide +kernel
theorem dL_isFair_163 : decode cL_isFair 163 = .ok (.iconst 0, 1) := by decide +kernel
theorem dL_isFair_164 : decode cL_isFair 164 = .ok (.if_icmp .ne 63, 3) := by decide +kernel
theorem dL_isFair_167 : decode cL_isFair 167 = .ok (.iload 10, 2) := by decide +kernel
theorem dL_isFair_169 : decode cL_isFair 169 = .ok (.aload_n 0, 1) := by decide +kernel
theorem dL_isFair_170 : decode cL_isFair 170 = .ok (.iload 8, 2) := by decide +kernel
theorem dL_isFair_172 : decode cL_isFair 172 = .ok (.iconst 0, 1) := by decide +kernel
theorem dL_isFair_173 : decode cL_isFair 173 = .ok (.invokevirtual 62, 3) := by decide +kernel
theorem dL_isFair_176 : decode cL_isFair 176 = .ok (.if_icmp .eq 51, 3) := by decide +kernel
theorem dL_isFair_179 : decode cL_isFair 179 = .ok (.iload 9, 2) := by decide +kernel
theorem dL_isFair_181 : decode cL_isFair 181 = .ok (.ifCond .ne 8, 3) := by decide +kernel
theorem dL_isFair_184 : decode cL_isFair 184 = .ok (.iload 11, 2) := by decide +kernel
theorem dL_isFair_186 : decode cL_isFair 186 = .ok (.ifCond .ge 41, 3) := by decide +kernel
theorem dL_isFair_189 : decode cL_isFair 189 = .ok (.iload 9, 2) := by decide +kernel
theorem dL_isFair_191 : decode cL_isFair 191 = .ok (.iconst 1, 1) := by decide +kernel
theorem dL_isFair_192 : decode cL_isFair 192 = .ok (.if_icmp .ne 8, 3) := by decide +kernel
theorem dL_isFair_195 : decode cL_isFair 195 = .ok (.iload 11, 2) := by decide +kernel
theorem dL_isFair_197 : decode cL_isFair 197 = .ok (.ifCond .lt 30, 3) := by decide +kernel
theorem dL_isFair_200 : decode cL_isFair 200 = .ok (.iload 9, 2) := by decide +kernel
theorem dL_isFair_202 : decode cL_isFair 202 = .ok (.iconst 2, 1) := by decide +kernel
theorem dL_isFair_203 : decode cL_isFair 203 = .ok (.if_icmp .ne 8, 3) := by decide +kernel
theorem dL_isFair_206 : decode cL_isFair 206 = .ok (.iload 11, 2) := by decide +kernel
theorem dL_isFair_208 : decode cL_isFair 208 = .ok (.ifCond .lt 19, 3) := by decide +kernel
theorem dL_isFair_211 : decode cL_isFair 211 = .ok (.iload 11, 2) := by decide +kernel
theorem dL_isFair_213 : decode cL_isFair 213 = .ok (.ifCond .lt 16, 3) := by decide +kernel
theorem dL_isFair_216 : decode cL_isFair 216 = .ok (.aload_n 0, 1) := by decide +kernel
theorem dL_isFair_217 : decode cL_isFair 217 = .ok (.iload 11, 2) := by decide +kernel
theorem dL_isFair_219 : decode cL_isFair 219 = .ok (.invokevirtual 74, 3) := by decide +kernel
theorem dL_isFair_222 : decode cL_isFair 222 = .ok (.iload 8, 2) := by decide +kernel
theorem dL_isFair_224 : decode cL_isFair 224 = .ok (.if_icmp .eq 5, 3) := by decide +kernel
theorem dL_isFair_227 : decode cL_isFair 227 = .ok (.iconst 0, 1) := by decide +kernel
theorem dL_isFair_228 : decode cL_isFair 228 = .ok (.ireturn, 1) := by decide +kernel
theorem dL_isFair_229 : decode cL_isFair 229 = .ok (.iload 10, 2) := by decide +kernel
theorem dL_isFair_231 : decode cL_isFair 231 = .ok (.ifCond .lt 16, 3) := by decide +kernel
theorem dL_isFair_234 : decode cL_isFair 234 = .ok (.aload_n 0, 1) := by decide +kernel
theorem dL_isFair_235 : decode cL_isFair 235 = .ok (.iload 10, 2) := by decide +kernel
theorem dL_isFair_237 : decode cL_isFair 237 = .ok (.iconst 3, 1) := by decide +kernel
theorem dL_isFair_238 : decode cL_isFair 238 = .ok (.invokevirtual 87, 3) := by decide +kernel
theorem dL_isFair_241 : decode cL_isFair 241 = .ok (.iconst 1, 1) := by decide +kernel
theorem dL_isFair_242 : decode cL_isFair 242 = .ok (.if_icmp .ne 5, 3) := by decide +kernel
theorem dL_isFair_245 : decode cL_isFair 245 = .ok (.iconst 0, 1) := by decide +kernel
theorem dL_isFair_246 : decode cL_isFair 246 = .ok (.ireturn, 1) := by decide +kernel
theorem dL_isFair_247 : decode cL_isFair 247 = .ok (.aload_n 2, 1) := by decide +kernel
theorem dL_isFair_248 : decode cL_isFair 248 = .ok (.iload 8, 2) := by decide +kernel
theorem dL_isFair_250 : decode cL_isFair 250 = .ok (.iload 9, 2) := by decide +kernel
theorem dL_isFair_252 : decode cL_isFair 252 = .ok (.iastore, 1) := by decide +kernel
theorem dL_isFair_253 : decode cL_isFair 253 = .ok (.iload 6, 2) := by decide +kernel
theorem dL_isFair_255 : decode cL_isFair 255 = .ok (.iload 10, 2) := by decide +kernel
theorem dL_isFair_257 : decode cL_isFair 257 = .ok (.ifCond .lt 7, 3) := by decide +kernel
theorem dL_isFair_260 : decode cL_isFair 260 = .ok (.iconst 1, 1) := by decide +kernel
theorem dL_isFair_261 : decode cL_isFair 261 = .ok (.goto 4, 3) := by decide +kernel
theorem dL_isFair_264 : decode cL_isFair 264 = .ok (.iconst 0, 1) := by decide +kernel
theorem dL_isFair_265 : decode cL_isFair 265 = .ok (.iadd, 1) := by decide +kernel
theorem dL_isFair_266 : decode cL_isFair 266 = .ok (.istore 6, 2) := by decide +kernel
theorem dL_isFair_268 : decode cL_isFair 268 = .ok (.iload 7, 2) := by decide +kernel
theorem dL_isFair_270 : decode cL_isFair 270 = .ok (.aload_n 0, 1) := by decide +kernel
theorem dL_isFair_271 : decode cL_isFair 271 = .ok (.iload 8, 2) := by decide +kernel
theorem dL_isFair_273 : decode cL_isFair 273 = .ok (.bipush 8, 2) := by decide +kernel
theorem dL_isFair_275 : decode cL_isFair 275 = .ok (.invokevirtual 62, 3) := by decide +kernel
theorem dL_isFair_278 : decode cL_isFair 278 = .ok (.iadd, 1) := by decide +kernel
theorem dL_isFair_279 : decode cL_isFair 279 = .ok (.istore 7, 2) := by decide +kernel
theorem dL_isFair_281 : decode cL_isFair 281 = .ok (.iinc 8 1, 3) := by decide +kernel
theorem dL_isFair_284 : decode cL_isFair 284 = .ok (.goto (-200), 3) := by decide +kernel
theorem dL_isFair_287 : decode cL_isFair 287 = .ok (.iconst 0, 1) := by decide +kernel
theorem dL_isFair_288 : decode cL_isFair 288 = .ok (.istore 8, 2) := by decide +kernel
theorem dL_isFair_290 : decode cL_isFair 290 = .ok (.iload 8, 2) := by decide +kernel
theorem dL_isFair_292 : decode cL_isFair 292 = .ok (.iload_n 1, 1) := by decide +kernel
theorem dL_isFair_293 : decode cL_isFair 293 = .ok (.if_icmp .ge 66, 3) := by decide +kernel
theorem dL_isFair_296 : decode cL_isFair 296 = .ok (.aload_n 0, 1) := by decide +kernel
theorem dL_isFair_297 : decode cL_isFair 297 = .ok (.iload 8, 2) := by decide +kernel
theorem dL_isFair_299 : decode cL_isFair 299 = .ok (.iconst 1, 1) := by decide +kernel
theorem dL_isFair_300 : decode cL_isFair 300 = .ok (.invokevirtual 87, 3) := by decide +kernel
theorem dL_isFair_303 : decode cL_isFair 303 = .ok (.istore 9, 2) := by decide +kernel
theorem dL_isFair_305 : decode cL_isFair 305 = .ok (.iload 9, 2) := by decide +kernel
theorem dL_isFair_307 : decode cL_isFair 307 = .ok (.ifCond .lt 31, 3) := by decide +kernel
theorem dL_isFair_310 : decode cL_isFair 310 = .ok (.iload 9, 2) := by decide +kernel
theorem dL_isFair_312 : decode cL_isFair 312 = .ok (.bipush 10, 2) := by decide +kernel
theorem dL_isFair_314 : decode cL_isFair 314 = .ok (.if_icmp .gt 24, 3) := by decide +kernel
theorem dL_isFair_317 : decode cL_isFair 317 = .ok (.aload_n 0, 1) := by decide +kernel
theorem dL_isFair_318 : decode cL_isFair 318 = .ok (.iload 8, 2) := by decide +kernel
theorem dL_isFair_320 : decode cL_isFair 320 = .ok (.iconst 2, 1) := by decide +kernel
theorem dL_isFair_321 : decode cL_isFair 321 = .ok (.invokevirtual 87, 3) := by decide +kernel
theorem dL_isFair_324 : decode cL_isFair 324 = .ok (.ifCond .lt 14, 3) := by decide +kernel
theorem dL_isFair_327 : decode cL_isFair 327 = .ok (.aload_n 0, 1) := by decide +kernel
theorem dL_isFair_328 : decode cL_isFair 328 = .ok (.iload 8, 2) := by decide +kernel
theorem dL_isFair_330 : decode cL_isFair 330 = .ok (.iconst 2, 1) := by decide +kernel
theorem dL_isFair_331 : decode cL_isFair 331 = .ok (.invokevirtual 87, 3) := by decide +kernel
theorem dL_isFair_334 : decode cL_isFair 334 = .ok (.iconst 2, 1) := by decide +kernel
theorem dL_isFair_335 : decode cL_isFair 335 = .ok (.if_icmp .le 5, 3) := by decide +kernel
theorem dL_isFair_338 : decode cL_isFair 338 = .ok (.iconst 0, 1) := by decide +kernel
theorem dL_isFair_339 : decode cL_isFair 339 = .ok (.ireturn, 1) := by decide +kernel
theorem dL_isFair_340 : decode cL_isFair 340 = .ok (.iload 6, 2) := by decide +kernel
theorem dL_isFair_342 : decode cL_isFair 342 = .ok (.aload_n 0, 1) := by decide +kernel
theorem dL_isFair_343 : decode cL_isFair 343 = .ok (.iload 8, 2) := by decide +kernel
theorem dL_isFair_345 : decode cL_isFair 345 = .ok (.bipush 6, 2) := by decide +kernel
theorem dL_isFair_347 : decode cL_isFair 347 = .ok (.invokevirtual 87, 3) := by decide +kernel
theorem dL_isFair_350 : decode cL_isFair 350 = .ok (.isub, 1) := by decide +kernel
theorem dL_isFair_351 : decode cL_isFair 351 = .ok (.istore 6, 2) := by decide +kernel
theorem dL_isFair_353 : decode cL_isFair 353 = .ok (.iinc 8 1, 3) := by decide +kernel
theorem dL_isFair_356 : decode cL_isFair 356 = .ok (.goto (-66), 3) := by decide +kernel
theorem dL_isFair_359 : decode cL_isFair 359 = .ok (.iload 6, 2) := by decide +kernel
theorem dL_isFair_361 : decode cL_isFair 361 = .ok (.ifCond .ne 64, 3) := by decide +kernel
theorem dL_isFair_364 : decode cL_isFair 364 = .ok (.aload_n 0, 1) := by decide +kernel
theorem dL_isFair_365 : decode cL_isFair 365 = .ok (.bipush 9, 2) := by decide +kernel
theorem dL_isFair_367 : decode cL_isFair 367 = .ok (.invokevirtual 40, 3) := by decide +kernel
theorem dL_isFair_370 : decode cL_isFair 370 = .ok (.iload 5, 2) := by decide +kernel
theorem dL_isFair_372 : decode cL_isFair 372 = .ok (.if_icmp .ne 53, 3) := by decide +kernel
theorem dL_isFair_375 : decode cL_isFair 375 = .ok (.aload_n 0, 1) := by decide +kernel
theorem dL_isFair_376 : decode cL_isFair 376 = .ok (.bipush 12, 2) := by decide +kernel
theorem dL_isFair_378 : decode cL_isFair 378 = .ok (.invokevirtual 40, 3) := by decide +kernel
theorem dL_isFair_381 : decode cL_isFair 381 = .ok (.iload 7, 2) := by decide +kernel
theorem dL_isFair_383 : decode cL_isFair 383 = .ok (.if_icmp .ne 42, 3) := by decide +kernel
theorem dL_isFair_386 : decode cL_isFair 386 = .ok (.aload_n 0, 1) := by decide +kernel
theorem dL_isFair_387 : decode cL_isFair 387 = .ok (.iconst 3, 1) := by decide +kernel
theorem dL_isFair_388 : decode cL_isFair 388 = .ok (.invokevirtual 40, 3) := by decide +kernel
theorem dL_isFair_391 : decode cL_isFair 391 = .ok (.aload_n 0, 1) := by decide +kernel
theorem dL_isFair_392 : decode cL_isFair 392 = .ok (.iconst 4, 1) := by decide +kernel
theorem dL_isFair_393 : decode cL_isFair 393 = .ok (.invokevirtual 40, 3) := by decide +kernel
theorem dL_isFair_396 : decode cL_isFair 396 = .ok (.iadd, 1) := by decide +kernel
theorem dL_isFair_397 : decode cL_isFair 397 = .ok (.aload_n 0, 1) := by decide +kernel
theorem dL_isFair_398 : decode cL_isFair 398 = .ok (.iconst 5, 1) := by decide +kernel
theorem dL_isFair_399 : decode cL_isFair 399 = .ok (.invokevirtual 40, 3) := by decide +kernel
theorem dL_isFair_402 : decode cL_isFair 402 = .ok (.iadd, 1) := by decide +kernel
theorem dL_isFair_403 : decode cL_isFair 403 = .ok (.aload_n 0, 1) := by decide +kernel
theorem dL_isFair_404 : decode cL_isFair 404 = .ok (.bipush 6, 2) := by decide +kernel
theorem dL_isFair_406 : decode cL_isFair 406 = .ok (.invokevirtual 40, 3) := by decide +kernel
theorem dL_isFair_409 : decode cL_isFair 409 = .ok (.iadd, 1) := by decide +kernel
theorem dL_isFair_410 : decode cL_isFair 410 = .ok (.aload_n 0, 1) := by decide +kernel
theorem dL_isFair_411 : decode cL_isFair 411 = .ok (.bipush 7, 2) := by decide +kernel
theorem dL_isFair_413 : decode cL_isFair 413 = .ok (.invokevirtual 40, 3) := by decide +kernel
theorem dL_isFair_416 : decode cL_isFair 416 = .ok (.iadd, 1) := by decide +kernel
theorem dL_isFair_417 : decode cL_isFair 417 = .ok (.iload_n 3, 1) := by decide +kernel
theorem dL_isFair_418 : decode cL_isFair 418 = .ok (.if_icmp .ne 7, 3) := by decide +kernel
theorem dL_isFair_421 : decode cL_isFair 421 = .ok (.iconst 1, 1) := by decide +kernel
theorem dL_isFair_422 : decode cL_isFair 422 = .ok (.goto 4, 3) := by decide +kernel
theorem dL_isFair_425 : decode cL_isFair 425 = .ok (.iconst 0, 1) := by decide +kernel
theorem dL_isFair_426 : decode cL_isFair 426 = .ok (.ireturn, 1) := by decide +kernel
