theorem dX0_init_0 : decode cX0_init 0 = .ok (.aload_n 0, 1) := by decide +kernel
theorem dX0_init_1 : decode cX0_init 1 = .ok (.iload_n 1, 1) := by decide +kernel
theorem dX0_init_2 : decode cX0_init 2 = .ok (.invokespecial 3, 3) := by decide +kernel
theorem dX0_init_5 : decode cX0_init 5 = .ok (.aload_n 0, 1) := by decide +kernel
theorem dX0_init_6 : decode cX0_init 6 = .ok (.aconst_null, 1) := by decide +kernel
theorem dX0_init_7 : decode cX0_init 7 = .ok (.putfield 9, 3) := by decide +kernel
theorem dX0_init_10 : decode cX0_init 10 = .ok (.aload_n 0, 1) := by decide +kernel
theorem dX0_init_11 : decode cX0_init 11 = .ok (.iconst 0, 1) := by decide +kernel
theorem dX0_init_12 : decode cX0_init 12 = .ok (.putfield 15, 3) := by decide +kernel
theorem dX0_init_15 : decode cX0_init 15 = .ok (.aload_n 0, 1) := by decide +kernel
theorem dX0_init_16 : decode cX0_init 16 = .ok (.aconst_null, 1) := by decide +kernel
theorem dX0_init_17 : decode cX0_init 17 = .ok (.putfield 19, 3) := by decide +kernel
theorem dX0_init_20 : decode cX0_init 20 = .ok (.aload_n 0, 1) := by decide +kernel
theorem dX0_init_21 : decode cX0_init 21 = .ok (.iconst 0, 1) := by decide +kernel
theorem dX0_init_22 : decode cX0_init 22 = .ok (.putfield 23, 3) := by decide +kernel
theorem dX0_init_25 : decode cX0_init 25 = .ok (.aload_n 0, 1) := by decide +kernel
theorem dX0_init_26 : decode cX0_init 26 = .ok (.iconst 0, 1) := by decide +kernel
theorem dX0_init_27 : decode cX0_init 27 = .ok (.putfield 26, 3) := by decide +kernel
theorem dX0_init_30 : decode cX0_init 30 = .ok (.aload_n 0, 1) := by decide +kernel
theorem dX0_init_31 : decode cX0_init 31 = .ok (.iconst 0, 1) := by decide +kernel
theorem dX0_init_32 : decode cX0_init 32 = .ok (.putfield 30, 3) := by decide +kernel
theorem dX0_init_35 : decode cX0_init 35 = .ok (.aload_n 0, 1) := by decide +kernel
theorem dX0_init_36 : decode cX0_init 36 = .ok (.aload_n 2, 1) := by decide +kernel
theorem dX0_init_37 : decode cX0_init 37 = .ok (.putfield 33, 3) := by decide +kernel
theorem dX0_init_40 : decode cX0_init 40 = .ok (.aload_n 0, 1) := by decide +kernel
theorem dX0_init_41 : decode cX0_init 41 = .ok (.iload_n 3, 1) := by decide +kernel
theorem dX0_init_42 : decode cX0_init 42 = .ok (.putfield 37, 3) := by decide +kernel
theorem dX0_init_45 : decode cX0_init 45 = .ok (.aload_n 0, 1) := by decide +kernel
theorem dX0_init_46 : decode cX0_init 46 = .ok (.iload 4, 2) := by decide +kernel
theorem dX0_init_48 : decode cX0_init 48 = .ok (.putfield 40, 3) := by decide +kernel
theorem dX0_init_51 : decode cX0_init 51 = .ok (.aload_n 0, 1) := by decide +kernel
theorem dX0_init_52 : decode cX0_init 52 = .ok (.iload 5, 2) := by decide +kernel
theorem dX0_init_54 : decode cX0_init 54 = .ok (.putfield 43, 3) := by decide +kernel
theorem dX0_init_57 : decode cX0_init 57 = .ok (.aload_n 0, 1) := by decide +kernel
theorem dX0_init_58 : decode cX0_init 58 = .ok (.iload 6, 2) := by decide +kernel
theorem dX0_init_60 : decode cX0_init 60 = .ok (.putfield 46, 3) := by decide +kernel
theorem dX0_init_63 : decode cX0_init 63 = .ok (.aload_n 0, 1) := by decide +kernel
theorem dX0_init_64 : decode cX0_init 64 = .ok (.iload 7, 2) := by decide +kernel
theorem dX0_init_66 : decode cX0_init 66 = .ok (.putfield 49, 3) := by decide +kernel
theorem dX0_init_69 : decode cX0_init 69 = .ok (.return_, 1) := by decide +kernel
theorem dX0_wasSplitFrom_0 : decode cX0_wasSplitFrom 0 = .ok (.aload_n 0, 1) := by decide +kernel
theorem dX0_wasSplitFrom_1 : decode cX0_wasSplitFrom 1 = .ok (.getfield 30, 3) := by decide +kernel
theorem dX0_wasSplitFrom_4 : decode cX0_wasSplitFrom 4 = .ok (.iconst 1, 1) := by decide +kernel
theorem dX0_wasSplitFrom_5 : decode cX0_wasSplitFrom 5 = .ok (.aload_n 1, 1) := by decide +kernel
theorem dX0_wasSplitFrom_6 : decode cX0_wasSplitFrom 6 = .ok (.getfield 52, 3) := by decide +kernel
theorem dX0_wasSplitFrom_9 : decode cX0_wasSplitFrom 9 = .ok (.ishl, 1) := by decide +kernel
theorem dX0_wasSplitFrom_10 : decode cX0_wasSplitFrom 10 = .ok (.iand, 1) := by decide +kernel
theorem dX0_wasSplitFrom_11 : decode cX0_wasSplitFrom 11 = .ok (.ifCond .eq 7, 3) := by decide +kernel
theorem dX0_wasSplitFrom_14 : decode cX0_wasSplitFrom 14 = .ok (.iconst 1, 1) := by decide +kernel
theorem dX0_wasSplitFrom_15 : decode cX0_wasSplitFrom 15 = .ok (.goto 4, 3) := by decide +kernel
theorem dX0_wasSplitFrom_18 : decode cX0_wasSplitFrom 18 = .ok (.iconst 0, 1) := by decide +kernel
theorem dX0_wasSplitFrom_19 : decode cX0_wasSplitFrom 19 = .ok (.ireturn, 1) := by decide +kernel
theorem dX0_partFromReceipt_0 : decode cX0_partFromReceipt 0 = .ok (.aload_n 0, 1) := by decide +kernel
theorem dX0_partFromReceipt_1 : decode cX0_partFromReceipt 1 = .ok (.getfield 19, 3) := by decide +kernel
theorem dX0_partFromReceipt_4 : decode cX0_partFromReceipt 4 = .ok (.ifnull 34, 3) := by decide +kernel
theorem dX0_partFromReceipt_7 : decode cX0_partFromReceipt 7 = .ok (.aload_n 0, 1) := by decide +kernel
theorem dX0_partFromReceipt_8 : decode cX0_partFromReceipt 8 = .ok (.dup, 1) := by decide +kernel
theorem dX0_partFromReceipt_9 : decode cX0_partFromReceipt 9 = .ok (.getfield 30, 3) := by decide +kernel
theorem dX0_partFromReceipt_12 : decode cX0_partFromReceipt 12 = .ok (.iconst 1, 1) := by decide +kernel
theorem dX0_partFromReceipt_13 : decode cX0_partFromReceipt 13 = .ok (.aload_n 0, 1) := by decide +kernel
theorem dX0_partFromReceipt_14 : decode cX0_partFromReceipt 14 = .ok (.getfield 19, 3) := by decide +kernel
theorem dX0_partFromReceipt_17 : decode cX0_partFromReceipt 17 = .ok (.getfield 52, 3) := by decide +kernel
theorem dX0_partFromReceipt_20 : decode cX0_partFromReceipt 20 = .ok (.ishl, 1) := by decide +kernel
theorem dX0_partFromReceipt_21 : decode cX0_partFromReceipt 21 = .ok (.ior, 1) := by decide +kernel
theorem dX0_partFromReceipt_22 : decode cX0_partFromReceipt 22 = .ok (.putfield 30, 3) := by decide +kernel
theorem dX0_partFromReceipt_25 : decode cX0_partFromReceipt 25 = .ok (.aload_n 0, 1) := by decide +kernel
theorem dX0_partFromReceipt_26 : decode cX0_partFromReceipt 26 = .ok (.getfield 19, 3) := by decide +kernel
theorem dX0_partFromReceipt_29 : decode cX0_partFromReceipt 29 = .ok (.aconst_null, 1) := by decide +kernel
theorem dX0_partFromReceipt_30 : decode cX0_partFromReceipt 30 = .ok (.putfield 57, 3) := by decide +kernel
theorem dX0_partFromReceipt_33 : decode cX0_partFromReceipt 33 = .ok (.aload_n 0, 1) := by decide +kernel
theorem dX0_partFromReceipt_34 : decode cX0_partFromReceipt 34 = .ok (.aconst_null, 1) := by decide +kernel
theorem dX0_partFromReceipt_35 : decode cX0_partFromReceipt 35 = .ok (.putfield 19, 3) := by decide +kernel
theorem dX0_partFromReceipt_38 : decode cX0_partFromReceipt 38 = .ok (.aload_n 0, 1) := by decide +kernel
theorem dX0_partFromReceipt_39 : decode cX0_partFromReceipt 39 = .ok (.iconst 0, 1) := by decide +kernel
theorem dX0_partFromReceipt_40 : decode cX0_partFromReceipt 40 = .ok (.putfield 15, 3) := by decide +kernel
theorem dX0_partFromReceipt_43 : decode cX0_partFromReceipt 43 = .ok (.aload_n 0, 1) := by decide +kernel
theorem dX0_partFromReceipt_44 : decode cX0_partFromReceipt 44 = .ok (.iconst 0, 1) := by decide +kernel
theorem dX0_partFromReceipt_45 : decode cX0_partFromReceipt 45 = .ok (.putfield 23, 3) := by decide +kernel
theorem dX0_partFromReceipt_48 : decode cX0_partFromReceipt 48 = .ok (.return_, 1) := by decide +kernel
theorem dX0_stepsNeeded_0 : decode cX0_stepsNeeded 0 = .ok (.aload_n 0, 1) := by decide +kernel
theorem dX0_stepsNeeded_1 : decode cX0_stepsNeeded 1 = .ok (.getfield 43, 3) := by decide +kernel
theorem dX0_stepsNeeded_4 : decode cX0_stepsNeeded 4 = .ok (.sipush 2000, 3) := by decide +kernel
theorem dX0_stepsNeeded_7 : decode cX0_stepsNeeded 7 = .ok (.if_icmp .le 7, 3) := by decide +kernel
theorem dX0_stepsNeeded_10 : decode cX0_stepsNeeded 10 = .ok (.iconst 3, 1) := by decide +kernel
theorem dX0_stepsNeeded_11 : decode cX0_stepsNeeded 11 = .ok (.goto 18, 3) := by decide +kernel
theorem dX0_stepsNeeded_14 : decode cX0_stepsNeeded 14 = .ok (.aload_n 0, 1) := by decide +kernel
theorem dX0_stepsNeeded_15 : decode cX0_stepsNeeded 15 = .ok (.getfield 43, 3) := by decide +kernel
theorem dX0_stepsNeeded_18 : decode cX0_stepsNeeded 18 = .ok (.sipush 500, 3) := by decide +kernel
theorem dX0_stepsNeeded_21 : decode cX0_stepsNeeded 21 = .ok (.if_icmp .le 7, 3) := by decide +kernel
theorem dX0_stepsNeeded_24 : decode cX0_stepsNeeded 24 = .ok (.iconst 2, 1) := by decide +kernel
theorem dX0_stepsNeeded_25 : decode cX0_stepsNeeded 25 = .ok (.goto 4, 3) := by decide +kernel
theorem dX0_stepsNeeded_28 : decode cX0_stepsNeeded 28 = .ok (.iconst 1, 1) := by decide +kernel
theorem dX0_stepsNeeded_29 : decode cX0_stepsNeeded 29 = .ok (.istore_n 1, 1) := by decide +kernel
theorem dX0_stepsNeeded_30 : decode cX0_stepsNeeded 30 = .ok (.iconst 0, 1) := by decide +kernel
theorem dX0_stepsNeeded_31 : decode cX0_stepsNeeded 31 = .ok (.istore_n 2, 1) := by decide +kernel
theorem dX0_stepsNeeded_32 : decode cX0_stepsNeeded 32 = .ok (.aload_n 0, 1) := by decide +kernel
theorem dX0_stepsNeeded_33 : decode cX0_stepsNeeded 33 = .ok (.getfield 33, 3) := by decide +kernel
theorem dX0_stepsNeeded_36 : decode cX0_stepsNeeded 36 = .ok (.getfield 61, 3) := by decide +kernel
theorem dX0_stepsNeeded_39 : decode cX0_stepsNeeded 39 = .ok (.astore_n 3, 1) := by decide +kernel
theorem dX0_stepsNeeded_40 : decode cX0_stepsNeeded 40 = .ok (.aload_n 3, 1) := by decide +kernel
theorem dX0_stepsNeeded_41 : decode cX0_stepsNeeded 41 = .ok (.ifnull 19, 3) := by decide +kernel
theorem dX0_stepsNeeded_44 : decode cX0_stepsNeeded 44 = .ok (.iload_n 2, 1) := by decide +kernel
theorem dX0_stepsNeeded_45 : decode cX0_stepsNeeded 45 = .ok (.iload_n 1, 1) := by decide +kernel
theorem dX0_stepsNeeded_46 : decode cX0_stepsNeeded 46 = .ok (.if_icmp .ge 14, 3) := by decide +kernel
theorem dX0_stepsNeeded_49 : decode cX0_stepsNeeded 49 = .ok (.iinc 2 1, 3) := by decide +kernel
theorem dX0_stepsNeeded_52 : decode cX0_stepsNeeded 52 = .ok (.aload_n 3, 1) := by decide +kernel
theorem dX0_stepsNeeded_53 : decode cX0_stepsNeeded 53 = .ok (.getfield 61, 3) := by decide +kernel
theorem dX0_stepsNeeded_56 : decode cX0_stepsNeeded 56 = .ok (.astore_n 3, 1) := by decide +kernel
theorem dX0_stepsNeeded_57 : decode cX0_stepsNeeded 57 = .ok (.goto (-17), 3) := by decide +kernel
theorem dX0_stepsNeeded_60 : decode cX0_stepsNeeded 60 = .ok (.iload_n 2, 1) := by decide +kernel
theorem dX0_stepsNeeded_61 : decode cX0_stepsNeeded 61 = .ok (.ireturn, 1) := by decide +kernel
theorem dX0_bossOfNextStep_0 : decode cX0_bossOfNextStep 0 = .ok (.aload_n 0, 1) := by decide +kernel
theorem dX0_bossOfNextStep_1 : decode cX0_bossOfNextStep 1 = .ok (.getfield 23, 3) := by decide +kernel
theorem dX0_bossOfNextStep_4 : decode cX0_bossOfNextStep 4 = .ok (.aload_n 0, 1) := by decide +kernel
theorem dX0_bossOfNextStep_5 : decode cX0_bossOfNextStep 5 = .ok (.invokevirtual 66, 3) := by decide +kernel
theorem dX0_bossOfNextStep_8 : decode cX0_bossOfNextStep 8 = .ok (.if_icmp .ge 13, 3) := by decide +kernel
theorem dX0_bossOfNextStep_11 : decode cX0_bossOfNextStep 11 = .ok (.aload_n 0, 1) := by decide +kernel
theorem dX0_bossOfNextStep_12 : decode cX0_bossOfNextStep 12 = .ok (.getfield 33, 3) := by decide +kernel
theorem dX0_bossOfNextStep_15 : decode cX0_bossOfNextStep 15 = .ok (.getfield 61, 3) := by decide +kernel
theorem dX0_bossOfNextStep_18 : decode cX0_bossOfNextStep 18 = .ok (.goto 4, 3) := by decide +kernel
theorem dX0_bossOfNextStep_21 : decode cX0_bossOfNextStep 21 = .ok (.aconst_null, 1) := by decide +kernel
theorem dX0_bossOfNextStep_22 : decode cX0_bossOfNextStep 22 = .ok (.astore_n 1, 1) := by decide +kernel
theorem dX0_bossOfNextStep_23 : decode cX0_bossOfNextStep 23 = .ok (.iconst 0, 1) := by decide +kernel
theorem dX0_bossOfNextStep_24 : decode cX0_bossOfNextStep 24 = .ok (.istore_n 2, 1) := by decide +kernel
theorem dX0_bossOfNextStep_25 : decode cX0_bossOfNextStep 25 = .ok (.iload_n 2, 1) := by decide +kernel
theorem dX0_bossOfNextStep_26 : decode cX0_bossOfNextStep 26 = .ok (.aload_n 0, 1) := by decide +kernel
theorem dX0_bossOfNextStep_27 : decode cX0_bossOfNextStep 27 = .ok (.getfield 23, 3) := by decide +kernel
theorem dX0_bossOfNextStep_30 : decode cX0_bossOfNextStep 30 = .ok (.if_icmp .ge 18, 3) := by decide +kernel
theorem dX0_bossOfNextStep_33 : decode cX0_bossOfNextStep 33 = .ok (.aload_n 1, 1) := by decide +kernel
theorem dX0_bossOfNextStep_34 : decode cX0_bossOfNextStep 34 = .ok (.ifnull 14, 3) := by decide +kernel
theorem dX0_bossOfNextStep_37 : decode cX0_bossOfNextStep 37 = .ok (.aload_n 1, 1) := by decide +kernel
theorem dX0_bossOfNextStep_38 : decode cX0_bossOfNextStep 38 = .ok (.getfield 61, 3) := by decide +kernel
theorem dX0_bossOfNextStep_41 : decode cX0_bossOfNextStep 41 = .ok (.astore_n 1, 1) := by decide +kernel
theorem dX0_bossOfNextStep_42 : decode cX0_bossOfNextStep 42 = .ok (.iinc 2 1, 3) := by decide +kernel
theorem dX0_bossOfNextStep_45 : decode cX0_bossOfNextStep 45 = .ok (.goto (-20), 3) := by decide +kernel
theorem dX0_bossOfNextStep_48 : decode cX0_bossOfNextStep 48 = .ok (.aload_n 1, 1) := by decide +kernel
theorem dX0_bossOfNextStep_49 : decode cX0_bossOfNextStep 49 = .ok (.areturn, 1) := by decide +kernel
theorem dX1_init_0 : decode cX1_init 0 = .ok (.aload_n 0, 1) := by decide +kernel
theorem dX1_init_1 : decode cX1_init 1 = .ok (.invokespecial 1, 3) := by decide +kernel
theorem dX1_init_4 : decode cX1_init 4 = .ok (.aload_n 0, 1) := by decide +kernel
theorem dX1_init_5 : decode cX1_init 5 = .ok (.iload_n 1, 1) := by decide +kernel
theorem dX1_init_6 : decode cX1_init 6 = .ok (.putfield 7, 3) := by decide +kernel
theorem dX1_init_9 : decode cX1_init 9 = .ok (.return_, 1) := by decide +kernel
theorem dX2_init_0 : decode cX2_init 0 = .ok (.aload_n 0, 1) := by decide +kernel
theorem dX2_init_1 : decode cX2_init 1 = .ok (.iload_n 1, 1) := by decide +kernel
theorem dX2_init_2 : decode cX2_init 2 = .ok (.invokespecial 3, 3) := by decide +kernel
theorem dX2_init_5 : decode cX2_init 5 = .ok (.aload_n 0, 1) := by decide +kernel
theorem dX2_init_6 : decode cX2_init 6 = .ok (.iconst 5, 1) := by decide +kernel
theorem dX2_init_7 : decode cX2_init 7 = .ok (.putfield 9, 3) := by decide +kernel
theorem dX2_init_10 : decode cX2_init 10 = .ok (.aload_n 0, 1) := by decide +kernel
theorem dX2_init_11 : decode cX2_init 11 = .ok (.iconst 0, 1) := by decide +kernel
theorem dX2_init_12 : decode cX2_init 12 = .ok (.putfield 15, 3) := by decide +kernel
theorem dX2_init_15 : decode cX2_init 15 = .ok (.aload_n 0, 1) := by decide +kernel
theorem dX2_init_16 : decode cX2_init 16 = .ok (.iconst (-1), 1) := by decide +kernel
theorem dX2_init_17 : decode cX2_init 17 = .ok (.putfield 18, 3) := by decide +kernel
theorem dX2_init_20 : decode cX2_init 20 = .ok (.aload_n 0, 1) := by decide +kernel
theorem dX2_init_21 : decode cX2_init 21 = .ok (.aconst_null, 1) := by decide +kernel
theorem dX2_init_22 : decode cX2_init 22 = .ok (.putfield 21, 3) := by decide +kernel
theorem dX2_init_25 : decode cX2_init 25 = .ok (.aload_n 0, 1) := by decide +kernel
theorem dX2_init_26 : decode cX2_init 26 = .ok (.aload_n 2, 1) := by decide +kernel
theorem dX2_init_27 : decode cX2_init 27 = .ok (.putfield 25, 3) := by decide +kernel
theorem dX2_init_30 : decode cX2_init 30 = .ok (.return_, 1) := by decide +kernel
theorem dX2_isAwayOn_0 : decode cX2_isAwayOn 0 = .ok (.aload_n 0, 1) := by decide +kernel
theorem dX2_isAwayOn_1 : decode cX2_isAwayOn 1 = .ok (.getfield 18, 3) := by decide +kernel
theorem dX2_isAwayOn_4 : decode cX2_isAwayOn 4 = .ok (.iload_n 1, 1) := by decide +kernel
theorem dX2_isAwayOn_5 : decode cX2_isAwayOn 5 = .ok (.if_icmp .lt 7, 3) := by decide +kernel
theorem dX2_isAwayOn_8 : decode cX2_isAwayOn 8 = .ok (.iconst 1, 1) := by decide +kernel
theorem dX2_isAwayOn_9 : decode cX2_isAwayOn 9 = .ok (.goto 4, 3) := by decide +kernel
theorem dX2_isAwayOn_12 : decode cX2_isAwayOn 12 = .ok (.iconst 0, 1) := by decide +kernel
theorem dX2_isAwayOn_13 : decode cX2_isAwayOn 13 = .ok (.ireturn, 1) := by decide +kernel
theorem dX2_gainPoint_0 : decode cX2_gainPoint 0 = .ok (.aload_n 0, 1) := by decide +kernel
theorem dX2_gainPoint_1 : decode cX2_gainPoint 1 = .ok (.dup, 1) := by decide +kernel
theorem dX2_gainPoint_2 : decode cX2_gainPoint 2 = .ok (.getfield 15, 3) := by decide +kernel
theorem dX2_gainPoint_5 : decode cX2_gainPoint 5 = .ok (.iconst 1, 1) := by decide +kernel
theorem dX2_gainPoint_6 : decode cX2_gainPoint 6 = .ok (.iadd, 1) := by decide +kernel
theorem dX2_gainPoint_7 : decode cX2_gainPoint 7 = .ok (.putfield 15, 3) := by decide +kernel
theorem dX2_gainPoint_10 : decode cX2_gainPoint 10 = .ok (.aload_n 0, 1) := by decide +kernel
theorem dX2_gainPoint_11 : decode cX2_gainPoint 11 = .ok (.getfield 15, 3) := by decide +kernel
theorem dX2_gainPoint_14 : decode cX2_gainPoint 14 = .ok (.iconst 3, 1) := by decide +kernel
theorem dX2_gainPoint_15 : decode cX2_gainPoint 15 = .ok (.if_icmp .lt 23, 3) := by decide +kernel
theorem dX2_gainPoint_18 : decode cX2_gainPoint 18 = .ok (.aload_n 0, 1) := by decide +kernel
theorem dX2_gainPoint_19 : decode cX2_gainPoint 19 = .ok (.iconst 0, 1) := by decide +kernel
theorem dX2_gainPoint_20 : decode cX2_gainPoint 20 = .ok (.putfield 15, 3) := by decide +kernel
theorem dX2_gainPoint_23 : decode cX2_gainPoint 23 = .ok (.aload_n 0, 1) := by decide +kernel
theorem dX2_gainPoint_24 : decode cX2_gainPoint 24 = .ok (.aload_n 0, 1) := by decide +kernel
theorem dX2_gainPoint_25 : decode cX2_gainPoint 25 = .ok (.getfield 9, 3) := by decide +kernel
theorem dX2_gainPoint_28 : decode cX2_gainPoint 28 = .ok (.iconst 1, 1) := by decide +kernel
theorem dX2_gainPoint_29 : decode cX2_gainPoint 29 = .ok (.iadd, 1) := by decide +kernel
theorem dX2_gainPoint_30 : decode cX2_gainPoint 30 = .ok (.bipush 10, 2) := by decide +kernel
theorem dX2_gainPoint_32 : decode cX2_gainPoint 32 = .ok (.invokestatic 28, 3) := by decide +kernel
theorem dX2_gainPoint_35 : decode cX2_gainPoint 35 = .ok (.putfield 9, 3) := by decide +kernel
theorem dX2_gainPoint_38 : decode cX2_gainPoint 38 = .ok (.return_, 1) := by decide +kernel
theorem dX2_loseTrust_0 : decode cX2_loseTrust 0 = .ok (.aload_n 0, 1) := by decide +kernel
theorem dX2_loseTrust_1 : decode cX2_loseTrust 1 = .ok (.aload_n 0, 1) := by decide +kernel
theorem dX2_loseTrust_2 : decode cX2_loseTrust 2 = .ok (.getfield 9, 3) := by decide +kernel
theorem dX2_loseTrust_5 : decode cX2_loseTrust 5 = .ok (.iconst 1, 1) := by decide +kernel
theorem dX2_loseTrust_6 : decode cX2_loseTrust 6 = .ok (.isub, 1) := by decide +kernel
theorem dX2_loseTrust_7 : decode cX2_loseTrust 7 = .ok (.iconst 0, 1) := by decide +kernel
theorem dX2_loseTrust_8 : decode cX2_loseTrust 8 = .ok (.invokestatic 34, 3) := by decide +kernel
theorem dX2_loseTrust_11 : decode cX2_loseTrust 11 = .ok (.putfield 9, 3) := by decide +kernel
theorem dX2_loseTrust_14 : decode cX2_loseTrust 14 = .ok (.return_, 1) := by decide +kernel
theorem dX3_init_0 : decode cX3_init 0 = .ok (.aload_n 0, 1) := by decide +kernel
theorem dX3_init_1 : decode cX3_init 1 = .ok (.iload_n 1, 1) := by decide +kernel
theorem dX3_init_2 : decode cX3_init 2 = .ok (.invokespecial 1, 3) := by decide +kernel
theorem dX3_init_5 : decode cX3_init 5 = .ok (.aload_n 0, 1) := by decide +kernel
theorem dX3_init_6 : decode cX3_init 6 = .ok (.aconst_null, 1) := by decide +kernel
theorem dX3_init_7 : decode cX3_init 7 = .ok (.putfield 7, 3) := by decide +kernel
theorem dX3_init_10 : decode cX3_init 10 = .ok (.aload_n 0, 1) := by decide +kernel
theorem dX3_init_11 : decode cX3_init 11 = .ok (.iload_n 2, 1) := by decide +kernel
theorem dX3_init_12 : decode cX3_init 12 = .ok (.putfield 13, 3) := by decide +kernel
theorem dX3_init_15 : decode cX3_init 15 = .ok (.aload_n 0, 1) := by decide +kernel
theorem dX3_init_16 : decode cX3_init 16 = .ok (.iload_n 3, 1) := by decide +kernel
theorem dX3_init_17 : decode cX3_init 17 = .ok (.putfield 17, 3) := by decide +kernel
theorem dX3_init_20 : decode cX3_init 20 = .ok (.aload_n 0, 1) := by decide +kernel
theorem dX3_init_21 : decode cX3_init 21 = .ok (.iload 4, 2) := by decide +kernel
theorem dX3_init_23 : decode cX3_init 23 = .ok (.putfield 20, 3) := by decide +kernel
theorem dX3_init_26 : decode cX3_init 26 = .ok (.return_, 1) := by decide +kernel
theorem dX4_init_0 : decode cX4_init 0 = .ok (.aload_n 0, 1) := by decide +kernel
theorem dX4_init_1 : decode cX4_init 1 = .ok (.invokespecial 1, 3) := by decide +kernel
theorem dX4_init_4 : decode cX4_init 4 = .ok (.aload_n 0, 1) := by decide +kernel
theorem dX4_init_5 : decode cX4_init 5 = .ok (.iload_n 1, 1) := by decide +kernel
theorem dX4_init_6 : decode cX4_init 6 = .ok (.iconst 0, 1) := by decide +kernel
theorem dX4_init_7 : decode cX4_init 7 = .ok (.invokestatic 7, 3) := by decide +kernel
theorem dX4_init_10 : decode cX4_init 10 = .ok (.putfield 13, 3) := by decide +kernel
theorem dX4_init_13 : decode cX4_init 13 = .ok (.aload_n 0, 1) := by decide +kernel
theorem dX4_init_14 : decode cX4_init 14 = .ok (.iload_n 2, 1) := by decide +kernel
theorem dX4_init_15 : decode cX4_init 15 = .ok (.iconst 0, 1) := by decide +kernel
theorem dX4_init_16 : decode cX4_init 16 = .ok (.invokestatic 7, 3) := by decide +kernel
theorem dX4_init_19 : decode cX4_init 19 = .ok (.putfield 19, 3) := by decide +kernel
theorem dX4_init_22 : decode cX4_init 22 = .ok (.aload_n 0, 1) := by decide +kernel
theorem dX4_init_23 : decode cX4_init 23 = .ok (.aload_n 0, 1) := by decide +kernel
theorem dX4_init_24 : decode cX4_init 24 = .ok (.getfield 13, 3) := by decide +kernel
theorem dX4_init_27 : decode cX4_init 27 = .ok (.aload_n 0, 1) := by decide +kernel
theorem dX4_init_28 : decode cX4_init 28 = .ok (.getfield 19, 3) := by decide +kernel
theorem dX4_init_31 : decode cX4_init 31 = .ok (.imul, 1) := by decide +kernel
theorem dX4_init_32 : decode cX4_init 32 = .ok (.newarray .int, 2) := by decide +kernel
theorem dX4_init_34 : decode cX4_init 34 = .ok (.putfield 22, 3) := by decide +kernel
theorem dX4_init_37 : decode cX4_init 37 = .ok (.return_, 1) := by decide +kernel
theorem dX4_at_0 : decode cX4_at 0 = .ok (.iload_n 1, 1) := by decide +kernel
theorem dX4_at_1 : decode cX4_at 1 = .ok (.ifCond .lt 27, 3) := by decide +kernel
theorem dX4_at_4 : decode cX4_at 4 = .ok (.iload_n 1, 1) := by decide +kernel
theorem dX4_at_5 : decode cX4_at 5 = .ok (.aload_n 0, 1) := by decide +kernel
theorem dX4_at_6 : decode cX4_at 6 = .ok (.getfield 13, 3) := by decide +kernel
theorem dX4_at_9 : decode cX4_at 9 = .ok (.if_icmp .ge 19, 3) := by decide +kernel
theorem dX4_at_12 : decode cX4_at 12 = .ok (.iload_n 2, 1) := by decide +kernel
theorem dX4_at_13 : decode cX4_at 13 = .ok (.ifCond .lt 15, 3) := by decide +kernel
theorem dX4_at_16 : decode cX4_at 16 = .ok (.iload_n 2, 1) := by decide +kernel
theorem dX4_at_17 : decode cX4_at 17 = .ok (.aload_n 0, 1) := by decide +kernel
theorem dX4_at_18 : decode cX4_at 18 = .ok (.getfield 19, 3) := by decide +kernel
theorem dX4_at_21 : decode cX4_at 21 = .ok (.if_icmp .ge 7, 3) := by decide +kernel
theorem dX4_at_24 : decode cX4_at 24 = .ok (.iconst 1, 1) := by decide +kernel
theorem dX4_at_25 : decode cX4_at 25 = .ok (.goto 4, 3) := by decide +kernel
theorem dX4_at_28 : decode cX4_at 28 = .ok (.iconst 0, 1) := by decide +kernel
theorem dX4_at_29 : decode cX4_at 29 = .ok (.istore_n 3, 1) := by decide +kernel
theorem dX4_at_30 : decode cX4_at 30 = .ok (.iload_n 3, 1) := by decide +kernel
theorem dX4_at_31 : decode cX4_at 31 = .ok (.ifCond .eq 19, 3) := by decide +kernel
theorem dX4_at_34 : decode cX4_at 34 = .ok (.aload_n 0, 1) := by decide +kernel
theorem dX4_at_35 : decode cX4_at 35 = .ok (.getfield 22, 3) := by decide +kernel
theorem dX4_at_38 : decode cX4_at 38 = .ok (.iload_n 1, 1) := by decide +kernel
theorem dX4_at_39 : decode cX4_at 39 = .ok (.aload_n 0, 1) := by decide +kernel
theorem dX4_at_40 : decode cX4_at 40 = .ok (.getfield 19, 3) := by decide +kernel
theorem dX4_at_43 : decode cX4_at 43 = .ok (.imul, 1) := by decide +kernel
theorem dX4_at_44 : decode cX4_at 44 = .ok (.iload_n 2, 1) := by decide +kernel
theorem dX4_at_45 : decode cX4_at 45 = .ok (.iadd, 1) := by decide +kernel
theorem dX4_at_46 : decode cX4_at 46 = .ok (.iaload, 1) := by decide +kernel
theorem dX4_at_47 : decode cX4_at 47 = .ok (.goto 4, 3) := by decide +kernel
theorem dX4_at_50 : decode cX4_at 50 = .ok (.iconst 0, 1) := by decide +kernel
theorem dX4_at_51 : decode cX4_at 51 = .ok (.ireturn, 1) := by decide +kernel
theorem dX4_replace_0 : decode cX4_replace 0 = .ok (.aload_n 0, 1) := by decide +kernel
theorem dX4_replace_1 : decode cX4_replace 1 = .ok (.iload_n 1, 1) := by decide +kernel
theorem dX4_replace_2 : decode cX4_replace 2 = .ok (.iload_n 2, 1) := by decide +kernel
theorem dX4_replace_3 : decode cX4_replace 3 = .ok (.invokevirtual 26, 3) := by decide +kernel
theorem dX4_replace_6 : decode cX4_replace 6 = .ok (.istore 4, 2) := by decide +kernel
theorem dX4_replace_8 : decode cX4_replace 8 = .ok (.iload_n 1, 1) := by decide +kernel
theorem dX4_replace_9 : decode cX4_replace 9 = .ok (.ifCond .lt 37, 3) := by decide +kernel
theorem dX4_replace_12 : decode cX4_replace 12 = .ok (.iload_n 1, 1) := by decide +kernel
theorem dX4_replace_13 : decode cX4_replace 13 = .ok (.aload_n 0, 1) := by decide +kernel
theorem dX4_replace_14 : decode cX4_replace 14 = .ok (.getfield 13, 3) := by decide +kernel
theorem dX4_replace_17 : decode cX4_replace 17 = .ok (.if_icmp .ge 29, 3) := by decide +kernel
theorem dX4_replace_20 : decode cX4_replace 20 = .ok (.iload_n 2, 1) := by decide +kernel
theorem dX4_replace_21 : decode cX4_replace 21 = .ok (.ifCond .lt 25, 3) := by decide +kernel
theorem dX4_replace_24 : decode cX4_replace 24 = .ok (.iload_n 2, 1) := by decide +kernel
theorem dX4_replace_25 : decode cX4_replace 25 = .ok (.aload_n 0, 1) := by decide +kernel
theorem dX4_replace_26 : decode cX4_replace 26 = .ok (.getfield 19, 3) := by decide +kernel
theorem dX4_replace_29 : decode cX4_replace 29 = .ok (.if_icmp .ge 17, 3) := by decide +kernel
theorem dX4_replace_32 : decode cX4_replace 32 = .ok (.aload_n 0, 1) := by decide +kernel
theorem dX4_replace_33 : decode cX4_replace 33 = .ok (.getfield 22, 3) := by decide +kernel
theorem dX4_replace_36 : decode cX4_replace 36 = .ok (.iload_n 1, 1) := by decide +kernel
theorem dX4_replace_37 : decode cX4_replace 37 = .ok (.aload_n 0, 1) := by decide +kernel
theorem dX4_replace_38 : decode cX4_replace 38 = .ok (.getfield 19, 3) := by decide +kernel
theorem dX4_replace_41 : decode cX4_replace 41 = .ok (.imul, 1) := by decide +kernel
theorem dX4_replace_42 : decode cX4_replace 42 = .ok (.iload_n 2, 1) := by decide +kernel
theorem dX4_replace_43 : decode cX4_replace 43 = .ok (.iadd, 1) := by decide +kernel
theorem dX4_replace_44 : decode cX4_replace 44 = .ok (.iload_n 3, 1) := by decide +kernel
theorem dX4_replace_45 : decode cX4_replace 45 = .ok (.iastore, 1) := by decide +kernel
theorem dX4_replace_46 : decode cX4_replace 46 = .ok (.iload 4, 2) := by decide +kernel
theorem dX4_replace_48 : decode cX4_replace 48 = .ok (.ireturn, 1) := by decide +kernel
theorem dX5_init_0 : decode cX5_init 0 = .ok (.aload_n 0, 1) := by decide +kernel
theorem dX5_init_1 : decode cX5_init 1 = .ok (.iload_n 1, 1) := by decide +kernel
theorem dX5_init_2 : decode cX5_init 2 = .ok (.invokespecial 1, 3) := by decide +kernel
theorem dX5_init_5 : decode cX5_init 5 = .ok (.aload_n 0, 1) := by decide +kernel
theorem dX5_init_6 : decode cX5_init 6 = .ok (.aload_n 2, 1) := by decide +kernel
theorem dX5_init_7 : decode cX5_init 7 = .ok (.putfield 7, 3) := by decide +kernel
theorem dX5_init_10 : decode cX5_init 10 = .ok (.aload_n 0, 1) := by decide +kernel
theorem dX5_init_11 : decode cX5_init 11 = .ok (.iload_n 3, 1) := by decide +kernel
theorem dX5_init_12 : decode cX5_init 12 = .ok (.putfield 13, 3) := by decide +kernel
theorem dX5_init_15 : decode cX5_init 15 = .ok (.aload_n 0, 1) := by decide +kernel
theorem dX5_init_16 : decode cX5_init 16 = .ok (.iload 4, 2) := by decide +kernel
theorem dX5_init_18 : decode cX5_init 18 = .ok (.putfield 17, 3) := by decide +kernel
theorem dX5_init_21 : decode cX5_init 21 = .ok (.aload_n 0, 1) := by decide +kernel
theorem dX5_init_22 : decode cX5_init 22 = .ok (.iload 5, 2) := by decide +kernel
theorem dX5_init_24 : decode cX5_init 24 = .ok (.putfield 20, 3) := by decide +kernel
theorem dX5_init_27 : decode cX5_init 27 = .ok (.aload_n 0, 1) := by decide +kernel
theorem dX5_init_28 : decode cX5_init 28 = .ok (.iload 6, 2) := by decide +kernel
theorem dX5_init_30 : decode cX5_init 30 = .ok (.putfield 23, 3) := by decide +kernel
theorem dX5_init_33 : decode cX5_init 33 = .ok (.return_, 1) := by decide +kernel
theorem dX6_init_0 : decode cX6_init 0 = .ok (.aload_n 0, 1) := by decide +kernel
theorem dX6_init_1 : decode cX6_init 1 = .ok (.invokespecial 1, 3) := by decide +kernel
theorem dX6_init_4 : decode cX6_init 4 = .ok (.aload_n 0, 1) := by decide +kernel
theorem dX6_init_5 : decode cX6_init 5 = .ok (.new 7, 3) := by decide +kernel
theorem dX6_init_8 : decode cX6_init 8 = .ok (.dup, 1) := by decide +kernel
theorem dX6_init_9 : decode cX6_init 9 = .ok (.invokespecial 9, 3) := by decide +kernel
theorem dX6_init_12 : decode cX6_init 12 = .ok (.putfield 10, 3) := by decide +kernel
theorem dX6_init_15 : decode cX6_init 15 = .ok (.aload_n 0, 1) := by decide +kernel
theorem dX6_init_16 : decode cX6_init 16 = .ok (.new 7, 3) := by decide +kernel
theorem dX6_init_19 : decode cX6_init 19 = .ok (.dup, 1) := by decide +kernel
theorem dX6_init_20 : decode cX6_init 20 = .ok (.invokespecial 9, 3) := by decide +kernel
theorem dX6_init_23 : decode cX6_init 23 = .ok (.putfield 16, 3) := by decide +kernel
theorem dX6_init_26 : decode cX6_init 26 = .ok (.aload_n 0, 1) := by decide +kernel
theorem dX6_init_27 : decode cX6_init 27 = .ok (.new 7, 3) := by decide +kernel
theorem dX6_init_30 : decode cX6_init 30 = .ok (.dup, 1) := by decide +kernel
theorem dX6_init_31 : decode cX6_init 31 = .ok (.invokespecial 9, 3) := by decide +kernel
theorem dX6_init_34 : decode cX6_init 34 = .ok (.putfield 19, 3) := by decide +kernel
theorem dX6_init_37 : decode cX6_init 37 = .ok (.aload_n 0, 1) := by decide +kernel
theorem dX6_init_38 : decode cX6_init 38 = .ok (.new 7, 3) := by decide +kernel
theorem dX6_init_41 : decode cX6_init 41 = .ok (.dup, 1) := by decide +kernel
theorem dX6_init_42 : decode cX6_init 42 = .ok (.invokespecial 9, 3) := by decide +kernel
theorem dX6_init_45 : decode cX6_init 45 = .ok (.putfield 22, 3) := by decide +kernel
theorem dX6_init_48 : decode cX6_init 48 = .ok (.aload_n 0, 1) := by decide +kernel
theorem dX6_init_49 : decode cX6_init 49 = .ok (.new 25, 3) := by decide +kernel
theorem dX6_init_52 : decode cX6_init 52 = .ok (.dup, 1) := by decide +kernel
theorem dX6_init_53 : decode cX6_init 53 = .ok (.bipush 8, 2) := by decide +kernel
theorem dX6_init_55 : decode cX6_init 55 = .ok (.iconst 4, 1) := by decide +kernel
theorem dX6_init_56 : decode cX6_init 56 = .ok (.invokespecial 27, 3) := by decide +kernel
theorem dX6_init_59 : decode cX6_init 59 = .ok (.putfield 30, 3) := by decide +kernel
theorem dX6_init_62 : decode cX6_init 62 = .ok (.aload_n 0, 1) := by decide +kernel
theorem dX6_init_63 : decode cX6_init 63 = .ok (.new 25, 3) := by decide +kernel
theorem dX6_init_66 : decode cX6_init 66 = .ok (.dup, 1) := by decide +kernel
theorem dX6_init_67 : decode cX6_init 67 = .ok (.iconst 4, 1) := by decide +kernel
theorem dX6_init_68 : decode cX6_init 68 = .ok (.iconst 4, 1) := by decide +kernel
theorem dX6_init_69 : decode cX6_init 69 = .ok (.invokespecial 27, 3) := by decide +kernel
theorem dX6_init_72 : decode cX6_init 72 = .ok (.putfield 34, 3) := by decide +kernel
theorem dX6_init_75 : decode cX6_init 75 = .ok (.aload_n 0, 1) := by decide +kernel
theorem dX6_init_76 : decode cX6_init 76 = .ok (.new 25, 3) := by decide +kernel
theorem dX6_init_79 : decode cX6_init 79 = .ok (.dup, 1) := by decide +kernel
theorem dX6_init_80 : decode cX6_init 80 = .ok (.iconst 4, 1) := by decide +kernel
theorem dX6_init_81 : decode cX6_init 81 = .ok (.iconst 1, 1) := by decide +kernel
theorem dX6_init_82 : decode cX6_init 82 = .ok (.invokespecial 27, 3) := by decide +kernel
theorem dX6_init_85 : decode cX6_init 85 = .ok (.putfield 37, 3) := by decide +kernel
theorem dX6_init_88 : decode cX6_init 88 = .ok (.aload_n 0, 1) := by decide +kernel
theorem dX6_init_89 : decode cX6_init 89 = .ok (.new 25, 3) := by decide +kernel
theorem dX6_init_92 : decode cX6_init 92 = .ok (.dup, 1) := by decide +kernel
theorem dX6_init_93 : decode cX6_init 93 = .ok (.iconst 3, 1) := by decide +kernel
theorem dX6_init_94 : decode cX6_init 94 = .ok (.iconst 4, 1) := by decide +kernel
theorem dX6_init_95 : decode cX6_init 95 = .ok (.invokespecial 27, 3) := by decide +kernel
theorem dX6_init_98 : decode cX6_init 98 = .ok (.putfield 40, 3) := by decide +kernel
theorem dX6_init_101 : decode cX6_init 101 = .ok (.aload_n 0, 1) := by decide +kernel
theorem dX6_init_102 : decode cX6_init 102 = .ok (.iconst 0, 1) := by decide +kernel
theorem dX6_init_103 : decode cX6_init 103 = .ok (.putfield 43, 3) := by decide +kernel
theorem dX6_init_106 : decode cX6_init 106 = .ok (.return_, 1) := by decide +kernel
theorem dX6_person_0 : decode cX6_person 0 = .ok (.iload_n 1, 1) := by decide +kernel
theorem dX6_person_1 : decode cX6_person 1 = .ok (.iconst (-1), 1) := by decide +kernel
theorem dX6_person_2 : decode cX6_person 2 = .ok (.if_icmp .ne 7, 3) := by decide +kernel
theorem dX6_person_5 : decode cX6_person 5 = .ok (.aconst_null, 1) := by decide +kernel
theorem dX6_person_6 : decode cX6_person 6 = .ok (.goto 8, 3) := by decide +kernel
theorem dX6_person_9 : decode cX6_person 9 = .ok (.aload_n 0, 1) := by decide +kernel
theorem dX6_person_10 : decode cX6_person 10 = .ok (.iload_n 1, 1) := by decide +kernel
theorem dX6_person_11 : decode cX6_person 11 = .ok (.invokevirtual 47, 3) := by decide +kernel
theorem dX6_person_14 : decode cX6_person 14 = .ok (.astore_n 2, 1) := by decide +kernel
theorem dX6_person_15 : decode cX6_person 15 = .ok (.aload_n 0, 1) := by decide +kernel
theorem dX6_person_16 : decode cX6_person 16 = .ok (.getfield 10, 3) := by decide +kernel
theorem dX6_person_19 : decode cX6_person 19 = .ok (.invokevirtual 51, 3) := by decide +kernel
theorem dX6_person_22 : decode cX6_person 22 = .ok (.bipush 8, 2) := by decide +kernel
theorem dX6_person_24 : decode cX6_person 24 = .ok (.if_icmp .lt 13, 3) := by decide +kernel
theorem dX6_person_27 : decode cX6_person 27 = .ok (.new 55, 3) := by decide +kernel
theorem dX6_person_30 : decode cX6_person 30 = .ok (.dup, 1) := by decide +kernel
theorem dX6_person_31 : decode cX6_person 31 = .ok (.ldc 57, 2) := by decide +kernel
theorem dX6_person_33 : decode cX6_person 33 = .ok (.invokespecial 59, 3) := by decide +kernel
theorem dX6_person_36 : decode cX6_person 36 = .ok (.athrow, 1) := by decide +kernel
theorem dX6_person_37 : decode cX6_person 37 = .ok (.new 62, 3) := by decide +kernel
theorem dX6_person_40 : decode cX6_person 40 = .ok (.dup, 1) := by decide +kernel
theorem dX6_person_41 : decode cX6_person 41 = .ok (.aload_n 0, 1) := by decide +kernel
theorem dX6_person_42 : decode cX6_person 42 = .ok (.getfield 10, 3) := by decide +kernel
theorem dX6_person_45 : decode cX6_person 45 = .ok (.invokevirtual 51, 3) := by decide +kernel
theorem dX6_person_48 : decode cX6_person 48 = .ok (.aload_n 2, 1) := by decide +kernel
theorem dX6_person_49 : decode cX6_person 49 = .ok (.invokespecial 64, 3) := by decide +kernel
theorem dX6_person_52 : decode cX6_person 52 = .ok (.astore_n 3, 1) := by decide +kernel
theorem dX6_person_53 : decode cX6_person 53 = .ok (.aload_n 0, 1) := by decide +kernel
theorem dX6_person_54 : decode cX6_person 54 = .ok (.getfield 10, 3) := by decide +kernel
theorem dX6_person_57 : decode cX6_person 57 = .ok (.aload_n 3, 1) := by decide +kernel
theorem dX6_person_58 : decode cX6_person 58 = .ok (.invokevirtual 67, 3) := by decide +kernel
theorem dX6_person_61 : decode cX6_person 61 = .ok (.pop, 1) := by decide +kernel
theorem dX6_person_62 : decode cX6_person 62 = .ok (.aload_n 3, 1) := by decide +kernel
theorem dX6_person_63 : decode cX6_person 63 = .ok (.getfield 71, 3) := by decide +kernel
theorem dX6_person_66 : decode cX6_person 66 = .ok (.ireturn, 1) := by decide +kernel
theorem dX6_limit_0 : decode cX6_limit 0 = .ok (.aload_n 0, 1) := by decide +kernel
theorem dX6_limit_1 : decode cX6_limit 1 = .ok (.iload_n 1, 1) := by decide +kernel
theorem dX6_limit_2 : decode cX6_limit 2 = .ok (.invokevirtual 47, 3) := by decide +kernel
theorem dX6_limit_5 : decode cX6_limit 5 = .ok (.astore 4, 2) := by decide +kernel
theorem dX6_limit_7 : decode cX6_limit 7 = .ok (.iload_n 2, 1) := by decide +kernel
theorem dX6_limit_8 : decode cX6_limit 8 = .ok (.invokestatic 74, 3) := by decide +kernel
theorem dX6_limit_11 : decode cX6_limit 11 = .ok (.iload_n 3, 1) := by decide +kernel
theorem dX6_limit_12 : decode cX6_limit 12 = .ok (.iconst 0, 1) := by decide +kernel
theorem dX6_limit_13 : decode cX6_limit 13 = .ok (.sipush 9999, 3) := by decide +kernel
theorem dX6_limit_16 : decode cX6_limit 16 = .ok (.invokestatic 78, 3) := by decide +kernel
theorem dX6_limit_19 : decode cX6_limit 19 = .ok (.aload_n 0, 1) := by decide +kernel
theorem dX6_limit_20 : decode cX6_limit 20 = .ok (.getfield 30, 3) := by decide +kernel
theorem dX6_limit_23 : decode cX6_limit 23 = .ok (.aload 4, 2) := by decide +kernel
theorem dX6_limit_25 : decode cX6_limit 25 = .ok (.getfield 71, 3) := by decide +kernel
theorem dX6_limit_28 : decode cX6_limit 28 = .ok (.iload_n 2, 1) := by decide +kernel
theorem dX6_limit_29 : decode cX6_limit 29 = .ok (.iload_n 3, 1) := by decide +kernel
theorem dX6_limit_30 : decode cX6_limit 30 = .ok (.invokevirtual 82, 3) := by decide +kernel
theorem dX6_limit_33 : decode cX6_limit 33 = .ok (.ireturn, 1) := by decide +kernel
theorem dX6_away_0 : decode cX6_away 0 = .ok (.aload_n 0, 1) := by decide +kernel
theorem dX6_away_1 : decode cX6_away 1 = .ok (.iload_n 1, 1) := by decide +kernel
theorem dX6_away_2 : decode cX6_away 2 = .ok (.invokevirtual 47, 3) := by decide +kernel
theorem dX6_away_5 : decode cX6_away 5 = .ok (.astore 4, 2) := by decide +kernel
theorem dX6_away_7 : decode cX6_away 7 = .ok (.aload_n 0, 1) := by decide +kernel
theorem dX6_away_8 : decode cX6_away 8 = .ok (.iload_n 3, 1) := by decide +kernel
theorem dX6_away_9 : decode cX6_away 9 = .ok (.invokevirtual 47, 3) := by decide +kernel
theorem dX6_away_12 : decode cX6_away 12 = .ok (.astore 5, 2) := by decide +kernel
theorem dX6_away_14 : decode cX6_away 14 = .ok (.iload_n 2, 1) := by decide +kernel
theorem dX6_away_15 : decode cX6_away 15 = .ok (.iconst 0, 1) := by decide +kernel
theorem dX6_away_16 : decode cX6_away 16 = .ok (.bipush 119, 2) := by decide +kernel
theorem dX6_away_18 : decode cX6_away 18 = .ok (.invokestatic 78, 3) := by decide +kernel
theorem dX6_away_21 : decode cX6_away 21 = .ok (.iload_n 3, 1) := by decide +kernel
theorem dX6_away_22 : decode cX6_away 22 = .ok (.iload_n 1, 1) := by decide +kernel
theorem dX6_away_23 : decode cX6_away 23 = .ok (.if_icmp .ne 13, 3) := by decide +kernel
theorem dX6_away_26 : decode cX6_away 26 = .ok (.new 86, 3) := by decide +kernel
theorem dX6_away_29 : decode cX6_away 29 = .ok (.dup, 1) := by decide +kernel
theorem dX6_away_30 : decode cX6_away 30 = .ok (.ldc 88, 2) := by decide +kernel
theorem dX6_away_32 : decode cX6_away 32 = .ok (.invokespecial 90, 3) := by decide +kernel
theorem dX6_away_35 : decode cX6_away 35 = .ok (.athrow, 1) := by decide +kernel
theorem dX6_away_36 : decode cX6_away 36 = .ok (.aload 4, 2) := by decide +kernel
theorem dX6_away_38 : decode cX6_away 38 = .ok (.aload_n 0, 1) := by decide +kernel
theorem dX6_away_39 : decode cX6_away 39 = .ok (.getfield 43, 3) := by decide +kernel
theorem dX6_away_42 : decode cX6_away 42 = .ok (.invokevirtual 91, 3) := by decide +kernel
theorem dX6_away_45 : decode cX6_away 45 = .ok (.istore 6, 2) := by decide +kernel
theorem dX6_away_47 : decode cX6_away 47 = .ok (.aload 4, 2) := by decide +kernel
theorem dX6_away_49 : decode cX6_away 49 = .ok (.iload_n 2, 1) := by decide +kernel
theorem dX6_away_50 : decode cX6_away 50 = .ok (.putfield 95, 3) := by decide +kernel
theorem dX6_away_53 : decode cX6_away 53 = .ok (.aload 4, 2) := by decide +kernel
theorem dX6_away_55 : decode cX6_away 55 = .ok (.aload 5, 2) := by decide +kernel
theorem dX6_away_57 : decode cX6_away 57 = .ok (.putfield 98, 3) := by decide +kernel
theorem dX6_away_60 : decode cX6_away 60 = .ok (.aload_n 0, 1) := by decide +kernel
theorem dX6_away_61 : decode cX6_away 61 = .ok (.invokevirtual 102, 3) := by decide +kernel
theorem dX6_away_64 : decode cX6_away 64 = .ok (.iload 6, 2) := by decide +kernel
theorem dX6_away_66 : decode cX6_away 66 = .ok (.ireturn, 1) := by decide +kernel
theorem dX6_trip_0 : decode cX6_trip 0 = .ok (.aload_n 0, 1) := by decide +kernel
theorem dX6_trip_1 : decode cX6_trip 1 = .ok (.iload_n 1, 1) := by decide +kernel
theorem dX6_trip_2 : decode cX6_trip 2 = .ok (.invokevirtual 47, 3) := by decide +kernel
theorem dX6_trip_5 : decode cX6_trip 5 = .ok (.astore 6, 2) := by decide +kernel
theorem dX6_trip_7 : decode cX6_trip 7 = .ok (.iload_n 2, 1) := by decide +kernel
theorem dX6_trip_8 : decode cX6_trip 8 = .ok (.invokestatic 105, 3) := by decide +kernel
theorem dX6_trip_11 : decode cX6_trip 11 = .ok (.iload_n 3, 1) := by decide +kernel
theorem dX6_trip_12 : decode cX6_trip 12 = .ok (.iconst 0, 1) := by decide +kernel
theorem dX6_trip_13 : decode cX6_trip 13 = .ok (.bipush 119, 2) := by decide +kernel
theorem dX6_trip_15 : decode cX6_trip 15 = .ok (.invokestatic 78, 3) := by decide +kernel
theorem dX6_trip_18 : decode cX6_trip 18 = .ok (.iload 4, 2) := by decide +kernel
theorem dX6_trip_20 : decode cX6_trip 20 = .ok (.iload_n 3, 1) := by decide +kernel
theorem dX6_trip_21 : decode cX6_trip 21 = .ok (.bipush 119, 2) := by decide +kernel
theorem dX6_trip_23 : decode cX6_trip 23 = .ok (.invokestatic 78, 3) := by decide +kernel
theorem dX6_trip_26 : decode cX6_trip 26 = .ok (.iload 5, 2) := by decide +kernel
theorem dX6_trip_28 : decode cX6_trip 28 = .ok (.iconst 0, 1) := by decide +kernel
theorem dX6_trip_29 : decode cX6_trip 29 = .ok (.sipush 9999, 3) := by decide +kernel
theorem dX6_trip_32 : decode cX6_trip 32 = .ok (.invokestatic 78, 3) := by decide +kernel
theorem dX6_trip_35 : decode cX6_trip 35 = .ok (.aload_n 0, 1) := by decide +kernel
theorem dX6_trip_36 : decode cX6_trip 36 = .ok (.getfield 16, 3) := by decide +kernel
theorem dX6_trip_39 : decode cX6_trip 39 = .ok (.invokevirtual 51, 3) := by decide +kernel
theorem dX6_trip_42 : decode cX6_trip 42 = .ok (.bipush 8, 2) := by decide +kernel
theorem dX6_trip_44 : decode cX6_trip 44 = .ok (.if_icmp .lt 13, 3) := by decide +kernel
theorem dX6_trip_47 : decode cX6_trip 47 = .ok (.new 55, 3) := by decide +kernel
theorem dX6_trip_50 : decode cX6_trip 50 = .ok (.dup, 1) := by decide +kernel
theorem dX6_trip_51 : decode cX6_trip 51 = .ok (.ldc 108, 2) := by decide +kernel
theorem dX6_trip_53 : decode cX6_trip 53 = .ok (.invokespecial 59, 3) := by decide +kernel
theorem dX6_trip_56 : decode cX6_trip 56 = .ok (.athrow, 1) := by decide +kernel
theorem dX6_trip_57 : decode cX6_trip 57 = .ok (.new 110, 3) := by decide +kernel
theorem dX6_trip_60 : decode cX6_trip 60 = .ok (.dup, 1) := by decide +kernel
theorem dX6_trip_61 : decode cX6_trip 61 = .ok (.aload_n 0, 1) := by decide +kernel
theorem dX6_trip_62 : decode cX6_trip 62 = .ok (.getfield 16, 3) := by decide +kernel
theorem dX6_trip_65 : decode cX6_trip 65 = .ok (.invokevirtual 51, 3) := by decide +kernel
theorem dX6_trip_68 : decode cX6_trip 68 = .ok (.aload 6, 2) := by decide +kernel
theorem dX6_trip_70 : decode cX6_trip 70 = .ok (.iload_n 2, 1) := by decide +kernel
theorem dX6_trip_71 : decode cX6_trip 71 = .ok (.iload_n 3, 1) := by decide +kernel
theorem dX6_trip_72 : decode cX6_trip 72 = .ok (.iload 4, 2) := by decide +kernel
theorem dX6_trip_74 : decode cX6_trip 74 = .ok (.iload 5, 2) := by decide +kernel
theorem dX6_trip_76 : decode cX6_trip 76 = .ok (.invokespecial 112, 3) := by decide +kernel
theorem dX6_trip_79 : decode cX6_trip 79 = .ok (.astore 7, 2) := by decide +kernel
theorem dX6_trip_81 : decode cX6_trip 81 = .ok (.aload_n 0, 1) := by decide +kernel
theorem dX6_trip_82 : decode cX6_trip 82 = .ok (.getfield 16, 3) := by decide +kernel
theorem dX6_trip_85 : decode cX6_trip 85 = .ok (.aload 7, 2) := by decide +kernel
theorem dX6_trip_87 : decode cX6_trip 87 = .ok (.invokevirtual 67, 3) := by decide +kernel
theorem dX6_trip_90 : decode cX6_trip 90 = .ok (.pop, 1) := by decide +kernel
theorem dX6_trip_91 : decode cX6_trip 91 = .ok (.aload 7, 2) := by decide +kernel
theorem dX6_trip_93 : decode cX6_trip 93 = .ok (.getfield 115, 3) := by decide +kernel
theorem dX6_trip_96 : decode cX6_trip 96 = .ok (.ireturn, 1) := by decide +kernel
theorem dX6_ofPerson_0 : decode cX6_ofPerson 0 = .ok (.aload_n 0, 1) := by decide +kernel
theorem dX6_ofPerson_1 : decode cX6_ofPerson 1 = .ok (.iload_n 1, 1) := by decide +kernel
theorem dX6_ofPerson_2 : decode cX6_ofPerson 2 = .ok (.invokevirtual 47, 3) := by decide +kernel
theorem dX6_ofPerson_5 : decode cX6_ofPerson 5 = .ok (.astore_n 3, 1) := by decide +kernel
theorem dX6_ofPerson_6 : decode cX6_ofPerson 6 = .ok (.iload_n 2, 1) := by decide +kernel
theorem dX6_ofPerson_7 : decode cX6_ofPerson 7 = .ok (.iconst 0, 1) := by decide +kernel
theorem dX6_ofPerson_8 : decode cX6_ofPerson 8 = .ok (.bipush 6, 2) := by decide +kernel
theorem dX6_ofPerson_10 : decode cX6_ofPerson 10 = .ok (.invokestatic 78, 3) := by decide +kernel
theorem dX6_ofPerson_13 : decode cX6_ofPerson 13 = .ok (.iload_n 2, 1) := by decide +kernel
theorem dX6_ofPerson_14 : decode cX6_ofPerson 14 = .ok (.tableswitch 85 0 5 #[38, 46, 51, 56, 73, 79], 38) := by decide +kernel
theorem dX6_ofPerson_52 : decode cX6_ofPerson 52 = .ok (.aload_n 3, 1) := by decide +kernel
theorem dX6_ofPerson_53 : decode cX6_ofPerson 53 = .ok (.getfield 116, 3) := by decide +kernel
theorem dX6_ofPerson_56 : decode cX6_ofPerson 56 = .ok (.invokestatic 119, 3) := by decide +kernel
theorem dX6_ofPerson_59 : decode cX6_ofPerson 59 = .ok (.ireturn, 1) := by decide +kernel
theorem dX6_ofPerson_60 : decode cX6_ofPerson 60 = .ok (.aload_n 3, 1) := by decide +kernel
theorem dX6_ofPerson_61 : decode cX6_ofPerson 61 = .ok (.getfield 123, 3) := by decide +kernel
theorem dX6_ofPerson_64 : decode cX6_ofPerson 64 = .ok (.ireturn, 1) := by decide +kernel
theorem dX6_ofPerson_65 : decode cX6_ofPerson 65 = .ok (.aload_n 3, 1) := by decide +kernel
theorem dX6_ofPerson_66 : decode cX6_ofPerson 66 = .ok (.getfield 126, 3) := by decide +kernel
theorem dX6_ofPerson_69 : decode cX6_ofPerson 69 = .ok (.ireturn, 1) := by decide +kernel
theorem dX6_ofPerson_70 : decode cX6_ofPerson 70 = .ok (.aload_n 3, 1) := by decide +kernel
theorem dX6_ofPerson_71 : decode cX6_ofPerson 71 = .ok (.aload_n 0, 1) := by decide +kernel
theorem dX6_ofPerson_72 : decode cX6_ofPerson 72 = .ok (.getfield 43, 3) := by decide +kernel
theorem dX6_ofPerson_75 : decode cX6_ofPerson 75 = .ok (.invokevirtual 91, 3) := by decide +kernel
theorem dX6_ofPerson_78 : decode cX6_ofPerson 78 = .ok (.ifCond .eq 7, 3) := by decide +kernel
theorem dX6_ofPerson_81 : decode cX6_ofPerson 81 = .ok (.iconst 1, 1) := by decide +kernel
theorem dX6_ofPerson_82 : decode cX6_ofPerson 82 = .ok (.goto 4, 3) := by decide +kernel
theorem dX6_ofPerson_85 : decode cX6_ofPerson 85 = .ok (.iconst 0, 1) := by decide +kernel
theorem dX6_ofPerson_86 : decode cX6_ofPerson 86 = .ok (.ireturn, 1) := by decide +kernel
theorem dX6_ofPerson_87 : decode cX6_ofPerson 87 = .ok (.aload_n 0, 1) := by decide +kernel
theorem dX6_ofPerson_88 : decode cX6_ofPerson 88 = .ok (.aload_n 3, 1) := by decide +kernel
theorem dX6_ofPerson_89 : decode cX6_ofPerson 89 = .ok (.invokevirtual 129, 3) := by decide +kernel
theorem dX6_ofPerson_92 : decode cX6_ofPerson 92 = .ok (.ireturn, 1) := by decide +kernel
theorem dX6_ofPerson_93 : decode cX6_ofPerson 93 = .ok (.aload_n 0, 1) := by decide +kernel
theorem dX6_ofPerson_94 : decode cX6_ofPerson 94 = .ok (.aload_n 3, 1) := by decide +kernel
theorem dX6_ofPerson_95 : decode cX6_ofPerson 95 = .ok (.invokevirtual 133, 3) := by decide +kernel
theorem dX6_ofPerson_98 : decode cX6_ofPerson 98 = .ok (.ireturn, 1) := by decide +kernel
theorem dX6_ofPerson_99 : decode cX6_ofPerson 99 = .ok (.aload_n 0, 1) := by decide +kernel
theorem dX6_ofPerson_100 : decode cX6_ofPerson 100 = .ok (.aload_n 3, 1) := by decide +kernel
theorem dX6_ofPerson_101 : decode cX6_ofPerson 101 = .ok (.invokevirtual 136, 3) := by decide +kernel
theorem dX6_ofPerson_104 : decode cX6_ofPerson 104 = .ok (.ireturn, 1) := by decide +kernel
theorem dX6_maySpend_0 : decode cX6_maySpend 0 = .ok (.aload_n 0, 1) := by decide +kernel
theorem dX6_maySpend_1 : decode cX6_maySpend 1 = .ok (.iload_n 1, 1) := by decide +kernel
theorem dX6_maySpend_2 : decode cX6_maySpend 2 = .ok (.invokevirtual 47, 3) := by decide +kernel
theorem dX6_maySpend_5 : decode cX6_maySpend 5 = .ok (.astore 4, 2) := by decide +kernel
theorem dX6_maySpend_7 : decode cX6_maySpend 7 = .ok (.iload_n 2, 1) := by decide +kernel
theorem dX6_maySpend_8 : decode cX6_maySpend 8 = .ok (.invokestatic 74, 3) := by decide +kernel
theorem dX6_maySpend_11 : decode cX6_maySpend 11 = .ok (.iload_n 3, 1) := by decide +kernel
theorem dX6_maySpend_12 : decode cX6_maySpend 12 = .ok (.invokestatic 105, 3) := by decide +kernel
theorem dX6_maySpend_15 : decode cX6_maySpend 15 = .ok (.aload_n 0, 1) := by decide +kernel
theorem dX6_maySpend_16 : decode cX6_maySpend 16 = .ok (.aload 4, 2) := by decide +kernel
theorem dX6_maySpend_18 : decode cX6_maySpend 18 = .ok (.iload_n 2, 1) := by decide +kernel
theorem dX6_maySpend_19 : decode cX6_maySpend 19 = .ok (.iload_n 3, 1) := by decide +kernel
theorem dX6_maySpend_20 : decode cX6_maySpend 20 = .ok (.invokevirtual 139, 3) := by decide +kernel
theorem dX6_maySpend_23 : decode cX6_maySpend 23 = .ok (.ireturn, 1) := by decide +kernel
theorem dX6_plan_0 : decode cX6_plan 0 = .ok (.iload_n 1, 1) := by decide +kernel
theorem dX6_plan_1 : decode cX6_plan 1 = .ok (.invokestatic 74, 3) := by decide +kernel
theorem dX6_plan_4 : decode cX6_plan 4 = .ok (.iload_n 2, 1) := by decide +kernel
theorem dX6_plan_5 : decode cX6_plan 5 = .ok (.invokestatic 143, 3) := by decide +kernel
theorem dX6_plan_8 : decode cX6_plan 8 = .ok (.iload_n 3, 1) := by decide +kernel
theorem dX6_plan_9 : decode cX6_plan 9 = .ok (.iconst 0, 1) := by decide +kernel
theorem dX6_plan_10 : decode cX6_plan 10 = .ok (.ldc 146, 2) := by decide +kernel
theorem dX6_plan_12 : decode cX6_plan 12 = .ok (.invokestatic 78, 3) := by decide +kernel
theorem dX6_plan_15 : decode cX6_plan 15 = .ok (.aload_n 0, 1) := by decide +kernel
theorem dX6_plan_16 : decode cX6_plan 16 = .ok (.getfield 34, 3) := by decide +kernel
theorem dX6_plan_19 : decode cX6_plan 19 = .ok (.iload_n 1, 1) := by decide +kernel
theorem dX6_plan_20 : decode cX6_plan 20 = .ok (.iload_n 2, 1) := by decide +kernel
theorem dX6_plan_21 : decode cX6_plan 21 = .ok (.iload_n 3, 1) := by decide +kernel
theorem dX6_plan_22 : decode cX6_plan 22 = .ok (.invokevirtual 82, 3) := by decide +kernel
theorem dX6_plan_25 : decode cX6_plan 25 = .ok (.ireturn, 1) := by decide +kernel
theorem dX6_carry_0 : decode cX6_carry 0 = .ok (.iload_n 1, 1) := by decide +kernel
theorem dX6_carry_1 : decode cX6_carry 1 = .ok (.invokestatic 74, 3) := by decide +kernel
theorem dX6_carry_4 : decode cX6_carry 4 = .ok (.iload_n 2, 1) := by decide +kernel
theorem dX6_carry_5 : decode cX6_carry 5 = .ok (.iconst 0, 1) := by decide +kernel
theorem dX6_carry_6 : decode cX6_carry 6 = .ok (.bipush 100, 2) := by decide +kernel
theorem dX6_carry_8 : decode cX6_carry 8 = .ok (.invokestatic 78, 3) := by decide +kernel
theorem dX6_carry_11 : decode cX6_carry 11 = .ok (.aload_n 0, 1) := by decide +kernel
theorem dX6_carry_12 : decode cX6_carry 12 = .ok (.getfield 37, 3) := by decide +kernel
theorem dX6_carry_15 : decode cX6_carry 15 = .ok (.iload_n 1, 1) := by decide +kernel
theorem dX6_carry_16 : decode cX6_carry 16 = .ok (.iconst 0, 1) := by decide +kernel
theorem dX6_carry_17 : decode cX6_carry 17 = .ok (.iload_n 2, 1) := by decide +kernel
theorem dX6_carry_18 : decode cX6_carry 18 = .ok (.invokevirtual 82, 3) := by decide +kernel
theorem dX6_carry_21 : decode cX6_carry 21 = .ok (.ireturn, 1) := by decide +kernel
theorem dX6_rate_0 : decode cX6_rate 0 = .ok (.iload_n 1, 1) := by decide +kernel
theorem dX6_rate_1 : decode cX6_rate 1 = .ok (.invokestatic 105, 3) := by decide +kernel
theorem dX6_rate_4 : decode cX6_rate 4 = .ok (.iload_n 2, 1) := by decide +kernel
theorem dX6_rate_5 : decode cX6_rate 5 = .ok (.invokestatic 74, 3) := by decide +kernel
theorem dX6_rate_8 : decode cX6_rate 8 = .ok (.iload_n 3, 1) := by decide +kernel
theorem dX6_rate_9 : decode cX6_rate 9 = .ok (.iconst 0, 1) := by decide +kernel
theorem dX6_rate_10 : decode cX6_rate 10 = .ok (.bipush 30, 2) := by decide +kernel
theorem dX6_rate_12 : decode cX6_rate 12 = .ok (.invokestatic 78, 3) := by decide +kernel
theorem dX6_rate_15 : decode cX6_rate 15 = .ok (.aload_n 0, 1) := by decide +kernel
theorem dX6_rate_16 : decode cX6_rate 16 = .ok (.getfield 40, 3) := by decide +kernel
theorem dX6_rate_19 : decode cX6_rate 19 = .ok (.iload_n 1, 1) := by decide +kernel
theorem dX6_rate_20 : decode cX6_rate 20 = .ok (.iload_n 2, 1) := by decide +kernel
theorem dX6_rate_21 : decode cX6_rate 21 = .ok (.iload_n 3, 1) := by decide +kernel
theorem dX6_rate_22 : decode cX6_rate 22 = .ok (.invokevirtual 82, 3) := by decide +kernel
theorem dX6_rate_25 : decode cX6_rate 25 = .ok (.ireturn, 1) := by decide +kernel
theorem dX6_left_0 : decode cX6_left 0 = .ok (.iload_n 1, 1) := by decide +kernel
theorem dX6_left_1 : decode cX6_left 1 = .ok (.invokestatic 74, 3) := by decide +kernel
theorem dX6_left_4 : decode cX6_left 4 = .ok (.iload_n 2, 1) := by decide +kernel
theorem dX6_left_5 : decode cX6_left 5 = .ok (.invokestatic 143, 3) := by decide +kernel
theorem dX6_left_8 : decode cX6_left 8 = .ok (.aload_n 0, 1) := by decide +kernel
theorem dX6_left_9 : decode cX6_left 9 = .ok (.iload_n 1, 1) := by decide +kernel
theorem dX6_left_10 : decode cX6_left 10 = .ok (.iload_n 2, 1) := by decide +kernel
theorem dX6_left_11 : decode cX6_left 11 = .ok (.iconst 0, 1) := by decide +kernel
theorem dX6_left_12 : decode cX6_left 12 = .ok (.invokevirtual 147, 3) := by decide +kernel
theorem dX6_left_15 : decode cX6_left 15 = .ok (.ireturn, 1) := by decide +kernel
theorem dX6_charge_0 : decode cX6_charge 0 = .ok (.aload_n 0, 1) := by decide +kernel
theorem dX6_charge_1 : decode cX6_charge 1 = .ok (.iload_n 1, 1) := by decide +kernel
theorem dX6_charge_2 : decode cX6_charge 2 = .ok (.invokevirtual 47, 3) := by decide +kernel
theorem dX6_charge_5 : decode cX6_charge 5 = .ok (.astore 6, 2) := by decide +kernel
theorem dX6_charge_7 : decode cX6_charge 7 = .ok (.iload_n 2, 1) := by decide +kernel
theorem dX6_charge_8 : decode cX6_charge 8 = .ok (.invokestatic 74, 3) := by decide +kernel
theorem dX6_charge_11 : decode cX6_charge 11 = .ok (.iload_n 3, 1) := by decide +kernel
theorem dX6_charge_12 : decode cX6_charge 12 = .ok (.invokestatic 105, 3) := by decide +kernel
theorem dX6_charge_15 : decode cX6_charge 15 = .ok (.iload 4, 2) := by decide +kernel
theorem dX6_charge_17 : decode cX6_charge 17 = .ok (.iconst 1, 1) := by decide +kernel
theorem dX6_charge_18 : decode cX6_charge 18 = .ok (.sipush 9999, 3) := by decide +kernel
theorem dX6_charge_21 : decode cX6_charge 21 = .ok (.invokestatic 78, 3) := by decide +kernel
theorem dX6_charge_24 : decode cX6_charge 24 = .ok (.iload 5, 2) := by decide +kernel
theorem dX6_charge_26 : decode cX6_charge 26 = .ok (.iconst 0, 1) := by decide +kernel
theorem dX6_charge_27 : decode cX6_charge 27 = .ok (.bipush 9, 2) := by decide +kernel
theorem dX6_charge_29 : decode cX6_charge 29 = .ok (.invokestatic 78, 3) := by decide +kernel
theorem dX6_charge_32 : decode cX6_charge 32 = .ok (.aload_n 0, 1) := by decide +kernel
theorem dX6_charge_33 : decode cX6_charge 33 = .ok (.getfield 19, 3) := by decide +kernel
theorem dX6_charge_36 : decode cX6_charge 36 = .ok (.invokevirtual 51, 3) := by decide +kernel
theorem dX6_charge_39 : decode cX6_charge 39 = .ok (.bipush 30, 2) := by decide +kernel
theorem dX6_charge_41 : decode cX6_charge 41 = .ok (.if_icmp .lt 13, 3) := by decide +kernel
theorem dX6_charge_44 : decode cX6_charge 44 = .ok (.new 55, 3) := by decide +kernel
theorem dX6_charge_47 : decode cX6_charge 47 = .ok (.dup, 1) := by decide +kernel
theorem dX6_charge_48 : decode cX6_charge 48 = .ok (.ldc 151, 2) := by decide +kernel
theorem dX6_charge_50 : decode cX6_charge 50 = .ok (.invokespecial 59, 3) := by decide +kernel
theorem dX6_charge_53 : decode cX6_charge 53 = .ok (.athrow, 1) := by decide +kernel
theorem dX6_charge_54 : decode cX6_charge 54 = .ok (.iload 4, 2) := by decide +kernel
theorem dX6_charge_56 : decode cX6_charge 56 = .ok (.aload_n 0, 1) := by decide +kernel
theorem dX6_charge_57 : decode cX6_charge 57 = .ok (.aload 6, 2) := by decide +kernel
theorem dX6_charge_59 : decode cX6_charge 59 = .ok (.iload_n 2, 1) := by decide +kernel
theorem dX6_charge_60 : decode cX6_charge 60 = .ok (.iload_n 3, 1) := by decide +kernel
theorem dX6_charge_61 : decode cX6_charge 61 = .ok (.invokevirtual 139, 3) := by decide +kernel
theorem dX6_charge_64 : decode cX6_charge 64 = .ok (.if_icmp .gt 21, 3) := by decide +kernel
theorem dX6_charge_67 : decode cX6_charge 67 = .ok (.iload 4, 2) := by decide +kernel
theorem dX6_charge_69 : decode cX6_charge 69 = .ok (.aload_n 0, 1) := by decide +kernel
theorem dX6_charge_70 : decode cX6_charge 70 = .ok (.iload_n 2, 1) := by decide +kernel
theorem dX6_charge_71 : decode cX6_charge 71 = .ok (.aload_n 0, 1) := by decide +kernel
theorem dX6_charge_72 : decode cX6_charge 72 = .ok (.getfield 43, 3) := by decide +kernel
theorem dX6_charge_75 : decode cX6_charge 75 = .ok (.bipush 30, 2) := by decide +kernel
theorem dX6_charge_77 : decode cX6_charge 77 = .ok (.idiv, 1) := by decide +kernel
theorem dX6_charge_78 : decode cX6_charge 78 = .ok (.iconst 0, 1) := by decide +kernel
theorem dX6_charge_79 : decode cX6_charge 79 = .ok (.invokevirtual 147, 3) := by decide +kernel
theorem dX6_charge_82 : decode cX6_charge 82 = .ok (.if_icmp .le 13, 3) := by decide +kernel
theorem dX6_charge_85 : decode cX6_charge 85 = .ok (.new 55, 3) := by decide +kernel
theorem dX6_charge_88 : decode cX6_charge 88 = .ok (.dup, 1) := by decide +kernel
theorem dX6_charge_89 : decode cX6_charge 89 = .ok (.ldc 153, 2) := by decide +kernel
theorem dX6_charge_91 : decode cX6_charge 91 = .ok (.invokespecial 59, 3) := by decide +kernel
theorem dX6_charge_94 : decode cX6_charge 94 = .ok (.athrow, 1) := by decide +kernel
theorem dX6_charge_95 : decode cX6_charge 95 = .ok (.new 155, 3) := by decide +kernel
theorem dX6_charge_98 : decode cX6_charge 98 = .ok (.dup, 1) := by decide +kernel
theorem dX6_charge_99 : decode cX6_charge 99 = .ok (.aload_n 0, 1) := by decide +kernel
theorem dX6_charge_100 : decode cX6_charge 100 = .ok (.getfield 19, 3) := by decide +kernel
theorem dX6_charge_103 : decode cX6_charge 103 = .ok (.invokevirtual 51, 3) := by decide +kernel
theorem dX6_charge_106 : decode cX6_charge 106 = .ok (.aload 6, 2) := by decide +kernel
theorem dX6_charge_108 : decode cX6_charge 108 = .ok (.iload_n 2, 1) := by decide +kernel
theorem dX6_charge_109 : decode cX6_charge 109 = .ok (.iload_n 3, 1) := by decide +kernel
theorem dX6_charge_110 : decode cX6_charge 110 = .ok (.iload 4, 2) := by decide +kernel
theorem dX6_charge_112 : decode cX6_charge 112 = .ok (.iload 5, 2) := by decide +kernel
theorem dX6_charge_114 : decode cX6_charge 114 = .ok (.aload_n 0, 1) := by decide +kernel
theorem dX6_charge_115 : decode cX6_charge 115 = .ok (.getfield 43, 3) := by decide +kernel
theorem dX6_charge_118 : decode cX6_charge 118 = .ok (.invokespecial 157, 3) := by decide +kernel
theorem dX6_charge_121 : decode cX6_charge 121 = .ok (.astore 7, 2) := by decide +kernel
theorem dX6_charge_123 : decode cX6_charge 123 = .ok (.aload 7, 2) := by decide +kernel
theorem dX6_charge_125 : decode cX6_charge 125 = .ok (.aload_n 0, 1) := by decide +kernel
theorem dX6_charge_126 : decode cX6_charge 126 = .ok (.aload 6, 2) := by decide +kernel
theorem dX6_charge_128 : decode cX6_charge 128 = .ok (.iload_n 3, 1) := by decide +kernel
theorem dX6_charge_129 : decode cX6_charge 129 = .ok (.invokevirtual 160, 3) := by decide +kernel
theorem dX6_charge_132 : decode cX6_charge 132 = .ok (.putfield 164, 3) := by decide +kernel
theorem dX6_charge_135 : decode cX6_charge 135 = .ok (.aload_n 0, 1) := by decide +kernel
theorem dX6_charge_136 : decode cX6_charge 136 = .ok (.getfield 19, 3) := by decide +kernel
theorem dX6_charge_139 : decode cX6_charge 139 = .ok (.aload 7, 2) := by decide +kernel
theorem dX6_charge_141 : decode cX6_charge 141 = .ok (.invokevirtual 67, 3) := by decide +kernel
theorem dX6_charge_144 : decode cX6_charge 144 = .ok (.pop, 1) := by decide +kernel
theorem dX6_charge_145 : decode cX6_charge 145 = .ok (.aload_n 0, 1) := by decide +kernel
theorem dX6_charge_146 : decode cX6_charge 146 = .ok (.invokevirtual 168, 3) := by decide +kernel
theorem dX6_charge_149 : decode cX6_charge 149 = .ok (.aload_n 0, 1) := by decide +kernel
theorem dX6_charge_150 : decode cX6_charge 150 = .ok (.invokevirtual 102, 3) := by decide +kernel
theorem dX6_charge_153 : decode cX6_charge 153 = .ok (.aload 7, 2) := by decide +kernel
theorem dX6_charge_155 : decode cX6_charge 155 = .ok (.getfield 171, 3) := by decide +kernel
theorem dX6_charge_158 : decode cX6_charge 158 = .ok (.ireturn, 1) := by decide +kernel
theorem dX6_receipt_0 : decode cX6_receipt 0 = .ok (.iload_n 1, 1) := by decide +kernel
theorem dX6_receipt_1 : decode cX6_receipt 1 = .ok (.iload_n 2, 1) := by decide +kernel
theorem dX6_receipt_2 : decode cX6_receipt 2 = .ok (.iload_n 3, 1) := by decide +kernel
theorem dX6_receipt_3 : decode cX6_receipt 3 = .ok (.invokestatic 172, 3) := by decide +kernel
theorem dX6_receipt_6 : decode cX6_receipt 6 = .ok (.aload_n 0, 1) := by decide +kernel
theorem dX6_receipt_7 : decode cX6_receipt 7 = .ok (.getfield 22, 3) := by decide +kernel
theorem dX6_receipt_10 : decode cX6_receipt 10 = .ok (.invokevirtual 51, 3) := by decide +kernel
theorem dX6_receipt_13 : decode cX6_receipt 13 = .ok (.bipush 30, 2) := by decide +kernel
theorem dX6_receipt_15 : decode cX6_receipt 15 = .ok (.if_icmp .lt 13, 3) := by decide +kernel
theorem dX6_receipt_18 : decode cX6_receipt 18 = .ok (.new 55, 3) := by decide +kernel
theorem dX6_receipt_21 : decode cX6_receipt 21 = .ok (.dup, 1) := by decide +kernel
theorem dX6_receipt_22 : decode cX6_receipt 22 = .ok (.ldc 175, 2) := by decide +kernel
theorem dX6_receipt_24 : decode cX6_receipt 24 = .ok (.invokespecial 59, 3) := by decide +kernel
theorem dX6_receipt_27 : decode cX6_receipt 27 = .ok (.athrow, 1) := by decide +kernel
theorem dX6_receipt_28 : decode cX6_receipt 28 = .ok (.new 177, 3) := by decide +kernel
theorem dX6_receipt_31 : decode cX6_receipt 31 = .ok (.dup, 1) := by decide +kernel
theorem dX6_receipt_32 : decode cX6_receipt 32 = .ok (.aload_n 0, 1) := by decide +kernel
theorem dX6_receipt_33 : decode cX6_receipt 33 = .ok (.getfield 22, 3) := by decide +kernel
theorem dX6_receipt_36 : decode cX6_receipt 36 = .ok (.invokevirtual 51, 3) := by decide +kernel
theorem dX6_receipt_39 : decode cX6_receipt 39 = .ok (.iload_n 1, 1) := by decide +kernel
theorem dX6_receipt_40 : decode cX6_receipt 40 = .ok (.iload_n 2, 1) := by decide +kernel
theorem dX6_receipt_41 : decode cX6_receipt 41 = .ok (.iload_n 3, 1) := by decide +kernel
theorem dX6_receipt_42 : decode cX6_receipt 42 = .ok (.invokespecial 179, 3) := by decide +kernel
theorem dX6_receipt_45 : decode cX6_receipt 45 = .ok (.astore 4, 2) := by decide +kernel
theorem dX6_receipt_47 : decode cX6_receipt 47 = .ok (.aload_n 0, 1) := by decide +kernel
theorem dX6_receipt_48 : decode cX6_receipt 48 = .ok (.getfield 22, 3) := by decide +kernel
theorem dX6_receipt_51 : decode cX6_receipt 51 = .ok (.aload 4, 2) := by decide +kernel
theorem dX6_receipt_53 : decode cX6_receipt 53 = .ok (.invokevirtual 67, 3) := by decide +kernel
theorem dX6_receipt_56 : decode cX6_receipt 56 = .ok (.pop, 1) := by decide +kernel
theorem dX6_receipt_57 : decode cX6_receipt 57 = .ok (.aload_n 0, 1) := by decide +kernel
theorem dX6_receipt_58 : decode cX6_receipt 58 = .ok (.invokevirtual 168, 3) := by decide +kernel
theorem dX6_receipt_61 : decode cX6_receipt 61 = .ok (.aload_n 0, 1) := by decide +kernel
theorem dX6_receipt_62 : decode cX6_receipt 62 = .ok (.invokevirtual 102, 3) := by decide +kernel
theorem dX6_receipt_65 : decode cX6_receipt 65 = .ok (.aload 4, 2) := by decide +kernel
theorem dX6_receipt_67 : decode cX6_receipt 67 = .ok (.getfield 182, 3) := by decide +kernel
theorem dX6_receipt_70 : decode cX6_receipt 70 = .ok (.invokestatic 119, 3) := by decide +kernel
theorem dX6_receipt_73 : decode cX6_receipt 73 = .ok (.ireturn, 1) := by decide +kernel
theorem dX6_split_0 : decode cX6_split 0 = .ok (.aload_n 0, 1) := by decide +kernel
theorem dX6_split_1 : decode cX6_split 1 = .ok (.iload_n 1, 1) := by decide +kernel
theorem dX6_split_2 : decode cX6_split 2 = .ok (.invokevirtual 186, 3) := by decide +kernel
theorem dX6_split_5 : decode cX6_split 5 = .ok (.astore_n 2, 1) := by decide +kernel
theorem dX6_split_6 : decode cX6_split 6 = .ok (.aload_n 2, 1) := by decide +kernel
theorem dX6_split_7 : decode cX6_split 7 = .ok (.iconst 1, 1) := by decide +kernel
theorem dX6_split_8 : decode cX6_split 8 = .ok (.invokestatic 190, 3) := by decide +kernel
theorem dX6_split_11 : decode cX6_split 11 = .ok (.aload_n 2, 1) := by decide +kernel
theorem dX6_split_12 : decode cX6_split 12 = .ok (.invokevirtual 194, 3) := by decide +kernel
theorem dX6_split_15 : decode cX6_split 15 = .ok (.aload_n 0, 1) := by decide +kernel
theorem dX6_split_16 : decode cX6_split 16 = .ok (.invokevirtual 168, 3) := by decide +kernel
theorem dX6_split_19 : decode cX6_split 19 = .ok (.aload_n 0, 1) := by decide +kernel
theorem dX6_split_20 : decode cX6_split 20 = .ok (.invokevirtual 102, 3) := by decide +kernel
theorem dX6_split_23 : decode cX6_split 23 = .ok (.aload_n 2, 1) := by decide +kernel
theorem dX6_split_24 : decode cX6_split 24 = .ok (.getfield 197, 3) := by decide +kernel
theorem dX6_split_27 : decode cX6_split 27 = .ok (.ireturn, 1) := by decide +kernel
theorem dX6_approve_0 : decode cX6_approve 0 = .ok (.aload_n 0, 1) := by decide +kernel
theorem dX6_approve_1 : decode cX6_approve 1 = .ok (.iload_n 1, 1) := by decide +kernel
theorem dX6_approve_2 : decode cX6_approve 2 = .ok (.invokevirtual 186, 3) := by decide +kernel
theorem dX6_approve_5 : decode cX6_approve 5 = .ok (.astore_n 3, 1) := by decide +kernel
theorem dX6_approve_6 : decode cX6_approve 6 = .ok (.aload_n 0, 1) := by decide +kernel
theorem dX6_approve_7 : decode cX6_approve 7 = .ok (.iload_n 2, 1) := by decide +kernel
theorem dX6_approve_8 : decode cX6_approve 8 = .ok (.invokevirtual 47, 3) := by decide +kernel
theorem dX6_approve_11 : decode cX6_approve 11 = .ok (.astore 4, 2) := by decide +kernel
theorem dX6_approve_13 : decode cX6_approve 13 = .ok (.aload_n 0, 1) := by decide +kernel
theorem dX6_approve_14 : decode cX6_approve 14 = .ok (.aload_n 3, 1) := by decide +kernel
theorem dX6_approve_15 : decode cX6_approve 15 = .ok (.aload 4, 2) := by decide +kernel
theorem dX6_approve_17 : decode cX6_approve 17 = .ok (.invokevirtual 200, 3) := by decide +kernel
theorem dX6_approve_20 : decode cX6_approve 20 = .ok (.aload_n 3, 1) := by decide +kernel
theorem dX6_approve_21 : decode cX6_approve 21 = .ok (.dup, 1) := by decide +kernel
theorem dX6_approve_22 : decode cX6_approve 22 = .ok (.getfield 204, 3) := by decide +kernel
theorem dX6_approve_25 : decode cX6_approve 25 = .ok (.iconst 1, 1) := by decide +kernel
theorem dX6_approve_26 : decode cX6_approve 26 = .ok (.iadd, 1) := by decide +kernel
theorem dX6_approve_27 : decode cX6_approve 27 = .ok (.putfield 204, 3) := by decide +kernel
theorem dX6_approve_30 : decode cX6_approve 30 = .ok (.aload_n 0, 1) := by decide +kernel
theorem dX6_approve_31 : decode cX6_approve 31 = .ok (.invokevirtual 102, 3) := by decide +kernel
theorem dX6_approve_34 : decode cX6_approve 34 = .ok (.aload_n 3, 1) := by decide +kernel
theorem dX6_approve_35 : decode cX6_approve 35 = .ok (.getfield 197, 3) := by decide +kernel
theorem dX6_approve_38 : decode cX6_approve 38 = .ok (.ireturn, 1) := by decide +kernel
theorem dX6_refuse_0 : decode cX6_refuse 0 = .ok (.aload_n 0, 1) := by decide +kernel
theorem dX6_refuse_1 : decode cX6_refuse 1 = .ok (.iload_n 1, 1) := by decide +kernel
theorem dX6_refuse_2 : decode cX6_refuse 2 = .ok (.invokevirtual 186, 3) := by decide +kernel
theorem dX6_refuse_5 : decode cX6_refuse 5 = .ok (.astore_n 3, 1) := by decide +kernel
theorem dX6_refuse_6 : decode cX6_refuse 6 = .ok (.aload_n 0, 1) := by decide +kernel
theorem dX6_refuse_7 : decode cX6_refuse 7 = .ok (.iload_n 2, 1) := by decide +kernel
theorem dX6_refuse_8 : decode cX6_refuse 8 = .ok (.invokevirtual 47, 3) := by decide +kernel
theorem dX6_refuse_11 : decode cX6_refuse 11 = .ok (.astore 4, 2) := by decide +kernel
theorem dX6_refuse_13 : decode cX6_refuse 13 = .ok (.aload_n 0, 1) := by decide +kernel
theorem dX6_refuse_14 : decode cX6_refuse 14 = .ok (.aload_n 3, 1) := by decide +kernel
theorem dX6_refuse_15 : decode cX6_refuse 15 = .ok (.aload 4, 2) := by decide +kernel
theorem dX6_refuse_17 : decode cX6_refuse 17 = .ok (.invokevirtual 200, 3) := by decide +kernel
theorem dX6_refuse_20 : decode cX6_refuse 20 = .ok (.aload_n 3, 1) := by decide +kernel
theorem dX6_refuse_21 : decode cX6_refuse 21 = .ok (.iconst 4, 1) := by decide +kernel
theorem dX6_refuse_22 : decode cX6_refuse 22 = .ok (.putfield 197, 3) := by decide +kernel
theorem dX6_refuse_25 : decode cX6_refuse 25 = .ok (.aload_n 0, 1) := by decide +kernel
theorem dX6_refuse_26 : decode cX6_refuse 26 = .ok (.invokevirtual 102, 3) := by decide +kernel
theorem dX6_refuse_29 : decode cX6_refuse 29 = .ok (.aload_n 0, 1) := by decide +kernel
theorem dX6_refuse_30 : decode cX6_refuse 30 = .ok (.iconst 4, 1) := by decide +kernel
theorem dX6_refuse_31 : decode cX6_refuse 31 = .ok (.invokevirtual 207, 3) := by decide +kernel
theorem dX6_refuse_34 : decode cX6_refuse 34 = .ok (.ireturn, 1) := by decide +kernel
theorem dX6_settle_0 : decode cX6_settle 0 = .ok (.aload_n 0, 1) := by decide +kernel
theorem dX6_settle_1 : decode cX6_settle 1 = .ok (.iload_n 1, 1) := by decide +kernel
theorem dX6_settle_2 : decode cX6_settle 2 = .ok (.invokevirtual 186, 3) := by decide +kernel
theorem dX6_settle_5 : decode cX6_settle 5 = .ok (.astore_n 3, 1) := by decide +kernel
theorem dX6_settle_6 : decode cX6_settle 6 = .ok (.aload_n 3, 1) := by decide +kernel
theorem dX6_settle_7 : decode cX6_settle 7 = .ok (.iconst 4, 1) := by decide +kernel
theorem dX6_settle_8 : decode cX6_settle 8 = .ok (.invokestatic 190, 3) := by decide +kernel
theorem dX6_settle_11 : decode cX6_settle 11 = .ok (.iload_n 2, 1) := by decide +kernel
theorem dX6_settle_12 : decode cX6_settle 12 = .ok (.ifCond .eq 11, 3) := by decide +kernel
theorem dX6_settle_15 : decode cX6_settle 15 = .ok (.aload_n 3, 1) := by decide +kernel
theorem dX6_settle_16 : decode cX6_settle 16 = .ok (.iconst 3, 1) := by decide +kernel
theorem dX6_settle_17 : decode cX6_settle 17 = .ok (.putfield 197, 3) := by decide +kernel
theorem dX6_settle_20 : decode cX6_settle 20 = .ok (.goto 13, 3) := by decide +kernel
theorem dX6_settle_23 : decode cX6_settle 23 = .ok (.aload_n 3, 1) := by decide +kernel
theorem dX6_settle_24 : decode cX6_settle 24 = .ok (.iconst 1, 1) := by decide +kernel
theorem dX6_settle_25 : decode cX6_settle 25 = .ok (.putfield 197, 3) := by decide +kernel
theorem dX6_settle_28 : decode cX6_settle 28 = .ok (.aload_n 3, 1) := by decide +kernel
theorem dX6_settle_29 : decode cX6_settle 29 = .ok (.iconst 0, 1) := by decide +kernel
theorem dX6_settle_30 : decode cX6_settle 30 = .ok (.putfield 204, 3) := by decide +kernel
theorem dX6_settle_33 : decode cX6_settle 33 = .ok (.aload_n 0, 1) := by decide +kernel
theorem dX6_settle_34 : decode cX6_settle 34 = .ok (.invokevirtual 102, 3) := by decide +kernel
theorem dX6_settle_37 : decode cX6_settle 37 = .ok (.aload_n 3, 1) := by decide +kernel
theorem dX6_settle_38 : decode cX6_settle 38 = .ok (.getfield 197, 3) := by decide +kernel
theorem dX6_settle_41 : decode cX6_settle 41 = .ok (.ireturn, 1) := by decide +kernel
theorem dX6_ofCharge_0 : decode cX6_ofCharge 0 = .ok (.aload_n 0, 1) := by decide +kernel
theorem dX6_ofCharge_1 : decode cX6_ofCharge 1 = .ok (.iload_n 1, 1) := by decide +kernel
theorem dX6_ofCharge_2 : decode cX6_ofCharge 2 = .ok (.invokevirtual 186, 3) := by decide +kernel
theorem dX6_ofCharge_5 : decode cX6_ofCharge 5 = .ok (.astore_n 3, 1) := by decide +kernel
theorem dX6_ofCharge_6 : decode cX6_ofCharge 6 = .ok (.iload_n 2, 1) := by decide +kernel
theorem dX6_ofCharge_7 : decode cX6_ofCharge 7 = .ok (.iconst 0, 1) := by decide +kernel
theorem dX6_ofCharge_8 : decode cX6_ofCharge 8 = .ok (.bipush 11, 2) := by decide +kernel
theorem dX6_ofCharge_10 : decode cX6_ofCharge 10 = .ok (.invokestatic 78, 3) := by decide +kernel
theorem dX6_ofCharge_13 : decode cX6_ofCharge 13 = .ok (.iload_n 2, 1) := by decide +kernel
theorem dX6_ofCharge_14 : decode cX6_ofCharge 14 = .ok (.tableswitch 129 0 10 #[58, 66, 71, 76, 81, 86, 94, 102, 108, 115, 120], 58) := by decide +kernel
theorem dX6_ofCharge_72 : decode cX6_ofCharge 72 = .ok (.aload_n 3, 1) := by decide +kernel
theorem dX6_ofCharge_73 : decode cX6_ofCharge 73 = .ok (.getfield 211, 3) := by decide +kernel
theorem dX6_ofCharge_76 : decode cX6_ofCharge 76 = .ok (.getfield 71, 3) := by decide +kernel
theorem dX6_ofCharge_79 : decode cX6_ofCharge 79 = .ok (.ireturn, 1) := by decide +kernel
theorem dX6_ofCharge_80 : decode cX6_ofCharge 80 = .ok (.aload_n 3, 1) := by decide +kernel
theorem dX6_ofCharge_81 : decode cX6_ofCharge 81 = .ok (.getfield 214, 3) := by decide +kernel
theorem dX6_ofCharge_84 : decode cX6_ofCharge 84 = .ok (.ireturn, 1) := by decide +kernel
theorem dX6_ofCharge_85 : decode cX6_ofCharge 85 = .ok (.aload_n 3, 1) := by decide +kernel
theorem dX6_ofCharge_86 : decode cX6_ofCharge 86 = .ok (.getfield 217, 3) := by decide +kernel
theorem dX6_ofCharge_89 : decode cX6_ofCharge 89 = .ok (.ireturn, 1) := by decide +kernel
theorem dX6_ofCharge_90 : decode cX6_ofCharge 90 = .ok (.aload_n 3, 1) := by decide +kernel
theorem dX6_ofCharge_91 : decode cX6_ofCharge 91 = .ok (.getfield 220, 3) := by decide +kernel
theorem dX6_ofCharge_94 : decode cX6_ofCharge 94 = .ok (.ireturn, 1) := by decide +kernel
theorem dX6_ofCharge_95 : decode cX6_ofCharge 95 = .ok (.aload_n 3, 1) := by decide +kernel
theorem dX6_ofCharge_96 : decode cX6_ofCharge 96 = .ok (.getfield 197, 3) := by decide +kernel
theorem dX6_ofCharge_99 : decode cX6_ofCharge 99 = .ok (.ireturn, 1) := by decide +kernel
theorem dX6_ofCharge_100 : decode cX6_ofCharge 100 = .ok (.aload_n 3, 1) := by decide +kernel
theorem dX6_ofCharge_101 : decode cX6_ofCharge 101 = .ok (.getfield 223, 3) := by decide +kernel
theorem dX6_ofCharge_104 : decode cX6_ofCharge 104 = .ok (.invokestatic 119, 3) := by decide +kernel
theorem dX6_ofCharge_107 : decode cX6_ofCharge 107 = .ok (.ireturn, 1) := by decide +kernel
theorem dX6_ofCharge_108 : decode cX6_ofCharge 108 = .ok (.aload_n 3, 1) := by decide +kernel
theorem dX6_ofCharge_109 : decode cX6_ofCharge 109 = .ok (.getfield 164, 3) := by decide +kernel
theorem dX6_ofCharge_112 : decode cX6_ofCharge 112 = .ok (.invokestatic 119, 3) := by decide +kernel
theorem dX6_ofCharge_115 : decode cX6_ofCharge 115 = .ok (.ireturn, 1) := by decide +kernel
theorem dX6_ofCharge_116 : decode cX6_ofCharge 116 = .ok (.aload_n 0, 1) := by decide +kernel
theorem dX6_ofCharge_117 : decode cX6_ofCharge 117 = .ok (.aload_n 3, 1) := by decide +kernel
theorem dX6_ofCharge_118 : decode cX6_ofCharge 118 = .ok (.invokevirtual 227, 3) := by decide +kernel
theorem dX6_ofCharge_121 : decode cX6_ofCharge 121 = .ok (.ireturn, 1) := by decide +kernel
theorem dX6_ofCharge_122 : decode cX6_ofCharge 122 = .ok (.aload_n 0, 1) := by decide +kernel
theorem dX6_ofCharge_123 : decode cX6_ofCharge 123 = .ok (.aload_n 3, 1) := by decide +kernel
theorem dX6_ofCharge_124 : decode cX6_ofCharge 124 = .ok (.iconst 0, 1) := by decide +kernel
theorem dX6_ofCharge_125 : decode cX6_ofCharge 125 = .ok (.invokevirtual 231, 3) := by decide +kernel
theorem dX6_ofCharge_128 : decode cX6_ofCharge 128 = .ok (.ireturn, 1) := by decide +kernel
theorem dX6_ofCharge_129 : decode cX6_ofCharge 129 = .ok (.aload_n 3, 1) := by decide +kernel
theorem dX6_ofCharge_130 : decode cX6_ofCharge 130 = .ok (.getfield 204, 3) := by decide +kernel
theorem dX6_ofCharge_133 : decode cX6_ofCharge 133 = .ok (.ireturn, 1) := by decide +kernel
theorem dX6_ofCharge_134 : decode cX6_ofCharge 134 = .ok (.aload_n 0, 1) := by decide +kernel
theorem dX6_ofCharge_135 : decode cX6_ofCharge 135 = .ok (.aload_n 3, 1) := by decide +kernel
theorem dX6_ofCharge_136 : decode cX6_ofCharge 136 = .ok (.invokevirtual 235, 3) := by decide +kernel
theorem dX6_ofCharge_139 : decode cX6_ofCharge 139 = .ok (.invokestatic 119, 3) := by decide +kernel
theorem dX6_ofCharge_142 : decode cX6_ofCharge 142 = .ok (.ireturn, 1) := by decide +kernel
theorem dX6_ofCharge_143 : decode cX6_ofCharge 143 = .ok (.aload_n 3, 1) := by decide +kernel
theorem dX6_ofCharge_144 : decode cX6_ofCharge 144 = .ok (.getfield 239, 3) := by decide +kernel
theorem dX6_ofCharge_147 : decode cX6_ofCharge 147 = .ok (.ifCond .eq 7, 3) := by decide +kernel
theorem dX6_ofCharge_150 : decode cX6_ofCharge 150 = .ok (.iconst 1, 1) := by decide +kernel
theorem dX6_ofCharge_151 : decode cX6_ofCharge 151 = .ok (.goto 4, 3) := by decide +kernel
theorem dX6_ofCharge_154 : decode cX6_ofCharge 154 = .ok (.iconst 0, 1) := by decide +kernel
theorem dX6_ofCharge_155 : decode cX6_ofCharge 155 = .ok (.ireturn, 1) := by decide +kernel
theorem dX6_ofReceipt_0 : decode cX6_ofReceipt 0 = .ok (.aload_n 0, 1) := by decide +kernel
theorem dX6_ofReceipt_1 : decode cX6_ofReceipt 1 = .ok (.iload_n 1, 1) := by decide +kernel
theorem dX6_ofReceipt_2 : decode cX6_ofReceipt 2 = .ok (.invokevirtual 243, 3) := by decide +kernel
theorem dX6_ofReceipt_5 : decode cX6_ofReceipt 5 = .ok (.getfield 182, 3) := by decide +kernel
theorem dX6_ofReceipt_8 : decode cX6_ofReceipt 8 = .ok (.invokestatic 119, 3) := by decide +kernel
theorem dX6_ofReceipt_11 : decode cX6_ofReceipt 11 = .ok (.ireturn, 1) := by decide +kernel
theorem dX6_score_0 : decode cX6_score 0 = .ok (.aload_n 0, 1) := by decide +kernel
theorem dX6_score_1 : decode cX6_score 1 = .ok (.iload_n 1, 1) := by decide +kernel
theorem dX6_score_2 : decode cX6_score 2 = .ok (.invokevirtual 186, 3) := by decide +kernel
theorem dX6_score_5 : decode cX6_score 5 = .ok (.aload_n 0, 1) := by decide +kernel
theorem dX6_score_6 : decode cX6_score 6 = .ok (.iload_n 2, 1) := by decide +kernel
theorem dX6_score_7 : decode cX6_score 7 = .ok (.invokevirtual 243, 3) := by decide +kernel
theorem dX6_score_10 : decode cX6_score 10 = .ok (.invokestatic 247, 3) := by decide +kernel
theorem dX6_score_13 : decode cX6_score 13 = .ok (.ireturn, 1) := by decide +kernel
theorem dX6_day_0 : decode cX6_day 0 = .ok (.aload_n 0, 1) := by decide +kernel
theorem dX6_day_1 : decode cX6_day 1 = .ok (.getfield 43, 3) := by decide +kernel
theorem dX6_day_4 : decode cX6_day 4 = .ok (.bipush 119, 2) := by decide +kernel
theorem dX6_day_6 : decode cX6_day 6 = .ok (.if_icmp .lt 13, 3) := by decide +kernel
theorem dX6_day_9 : decode cX6_day 9 = .ok (.new 55, 3) := by decide +kernel
theorem dX6_day_12 : decode cX6_day 12 = .ok (.dup, 1) := by decide +kernel
theorem dX6_day_13 : decode cX6_day 13 = .ok (.ldc 251, 2) := by decide +kernel
theorem dX6_day_15 : decode cX6_day 15 = .ok (.invokespecial 59, 3) := by decide +kernel
theorem dX6_day_18 : decode cX6_day 18 = .ok (.athrow, 1) := by decide +kernel
theorem dX6_day_19 : decode cX6_day 19 = .ok (.aload_n 0, 1) := by decide +kernel
theorem dX6_day_20 : decode cX6_day 20 = .ok (.dup, 1) := by decide +kernel
theorem dX6_day_21 : decode cX6_day 21 = .ok (.getfield 43, 3) := by decide +kernel
theorem dX6_day_24 : decode cX6_day 24 = .ok (.iconst 1, 1) := by decide +kernel
theorem dX6_day_25 : decode cX6_day 25 = .ok (.iadd, 1) := by decide +kernel
theorem dX6_day_26 : decode cX6_day 26 = .ok (.putfield 43, 3) := by decide +kernel
theorem dX6_day_29 : decode cX6_day 29 = .ok (.iconst 0, 1) := by decide +kernel
theorem dX6_day_30 : decode cX6_day 30 = .ok (.istore_n 1, 1) := by decide +kernel
theorem dX6_day_31 : decode cX6_day 31 = .ok (.iconst 0, 1) := by decide +kernel
theorem dX6_day_32 : decode cX6_day 32 = .ok (.istore_n 2, 1) := by decide +kernel
theorem dX6_day_33 : decode cX6_day 33 = .ok (.iload_n 2, 1) := by decide +kernel
theorem dX6_day_34 : decode cX6_day 34 = .ok (.aload_n 0, 1) := by decide +kernel
theorem dX6_day_35 : decode cX6_day 35 = .ok (.getfield 19, 3) := by decide +kernel
theorem dX6_day_38 : decode cX6_day 38 = .ok (.invokevirtual 51, 3) := by decide +kernel
theorem dX6_day_41 : decode cX6_day 41 = .ok (.if_icmp .ge 37, 3) := by decide +kernel
theorem dX6_day_44 : decode cX6_day 44 = .ok (.aload_n 0, 1) := by decide +kernel
theorem dX6_day_45 : decode cX6_day 45 = .ok (.getfield 19, 3) := by decide +kernel
theorem dX6_day_48 : decode cX6_day 48 = .ok (.iload_n 2, 1) := by decide +kernel
theorem dX6_day_49 : decode cX6_day 49 = .ok (.invokevirtual 253, 3) := by decide +kernel
theorem dX6_day_52 : decode cX6_day 52 = .ok (.checkcast 155, 3) := by decide +kernel
theorem dX6_day_55 : decode cX6_day 55 = .ok (.astore_n 3, 1) := by decide +kernel
theorem dX6_day_56 : decode cX6_day 56 = .ok (.aload_n 0, 1) := by decide +kernel
theorem dX6_day_57 : decode cX6_day 57 = .ok (.aload_n 3, 1) := by decide +kernel
theorem dX6_day_58 : decode cX6_day 58 = .ok (.invokevirtual 257, 3) := by decide +kernel
theorem dX6_day_61 : decode cX6_day 61 = .ok (.ifCond .eq 11, 3) := by decide +kernel
theorem dX6_day_64 : decode cX6_day 64 = .ok (.aload_n 0, 1) := by decide +kernel
theorem dX6_day_65 : decode cX6_day 65 = .ok (.aload_n 3, 1) := by decide +kernel
theorem dX6_day_66 : decode cX6_day 66 = .ok (.invokevirtual 261, 3) := by decide +kernel
theorem dX6_day_69 : decode cX6_day 69 = .ok (.iinc 1 1, 3) := by decide +kernel
theorem dX6_day_72 : decode cX6_day 72 = .ok (.iinc 2 1, 3) := by decide +kernel
theorem dX6_day_75 : decode cX6_day 75 = .ok (.goto (-42), 3) := by decide +kernel
theorem dX6_day_78 : decode cX6_day 78 = .ok (.aload_n 0, 1) := by decide +kernel
theorem dX6_day_79 : decode cX6_day 79 = .ok (.invokevirtual 102, 3) := by decide +kernel
theorem dX6_day_82 : decode cX6_day 82 = .ok (.iload_n 1, 1) := by decide +kernel
theorem dX6_day_83 : decode cX6_day 83 = .ok (.ireturn, 1) := by decide +kernel
theorem dX6_many_0 : decode cX6_many 0 = .ok (.iload_n 1, 1) := by decide +kernel
theorem dX6_many_1 : decode cX6_many 1 = .ok (.iconst 0, 1) := by decide +kernel
theorem dX6_many_2 : decode cX6_many 2 = .ok (.bipush 12, 2) := by decide +kernel
theorem dX6_many_4 : decode cX6_many 4 = .ok (.invokestatic 78, 3) := by decide +kernel
theorem dX6_many_7 : decode cX6_many 7 = .ok (.iload_n 1, 1) := by decide +kernel
theorem dX6_many_8 : decode cX6_many 8 = .ok (.tableswitch 120 0 12 #[68, 76, 84, 120, 120, 120, 120, 120, 92, 100, 105, 110, 115], 68) := by decide +kernel
theorem dX6_many_76 : decode cX6_many 76 = .ok (.aload_n 0, 1) := by decide +kernel
theorem dX6_many_77 : decode cX6_many 77 = .ok (.getfield 10, 3) := by decide +kernel
theorem dX6_many_80 : decode cX6_many 80 = .ok (.invokevirtual 51, 3) := by decide +kernel
theorem dX6_many_83 : decode cX6_many 83 = .ok (.ireturn, 1) := by decide +kernel
theorem dX6_many_84 : decode cX6_many 84 = .ok (.aload_n 0, 1) := by decide +kernel
theorem dX6_many_85 : decode cX6_many 85 = .ok (.getfield 16, 3) := by decide +kernel
theorem dX6_many_88 : decode cX6_many 88 = .ok (.invokevirtual 51, 3) := by decide +kernel
theorem dX6_many_91 : decode cX6_many 91 = .ok (.ireturn, 1) := by decide +kernel
theorem dX6_many_92 : decode cX6_many 92 = .ok (.aload_n 0, 1) := by decide +kernel
theorem dX6_many_93 : decode cX6_many 93 = .ok (.getfield 19, 3) := by decide +kernel
theorem dX6_many_96 : decode cX6_many 96 = .ok (.invokevirtual 51, 3) := by decide +kernel
theorem dX6_many_99 : decode cX6_many 99 = .ok (.ireturn, 1) := by decide +kernel
theorem dX6_many_100 : decode cX6_many 100 = .ok (.aload_n 0, 1) := by decide +kernel
theorem dX6_many_101 : decode cX6_many 101 = .ok (.getfield 22, 3) := by decide +kernel
theorem dX6_many_104 : decode cX6_many 104 = .ok (.invokevirtual 51, 3) := by decide +kernel
theorem dX6_many_107 : decode cX6_many 107 = .ok (.ireturn, 1) := by decide +kernel
theorem dX6_many_108 : decode cX6_many 108 = .ok (.aload_n 0, 1) := by decide +kernel
theorem dX6_many_109 : decode cX6_many 109 = .ok (.invokevirtual 265, 3) := by decide +kernel
theorem dX6_many_112 : decode cX6_many 112 = .ok (.ireturn, 1) := by decide +kernel
theorem dX6_many_113 : decode cX6_many 113 = .ok (.aload_n 0, 1) := by decide +kernel
theorem dX6_many_114 : decode cX6_many 114 = .ok (.getfield 43, 3) := by decide +kernel
theorem dX6_many_117 : decode cX6_many 117 = .ok (.ireturn, 1) := by decide +kernel
theorem dX6_many_118 : decode cX6_many 118 = .ok (.aload_n 0, 1) := by decide +kernel
theorem dX6_many_119 : decode cX6_many 119 = .ok (.invokevirtual 268, 3) := by decide +kernel
theorem dX6_many_122 : decode cX6_many 122 = .ok (.ireturn, 1) := by decide +kernel
theorem dX6_many_123 : decode cX6_many 123 = .ok (.aload_n 0, 1) := by decide +kernel
theorem dX6_many_124 : decode cX6_many 124 = .ok (.invokevirtual 271, 3) := by decide +kernel
theorem dX6_many_127 : decode cX6_many 127 = .ok (.ireturn, 1) := by decide +kernel
theorem dX6_many_128 : decode cX6_many 128 = .ok (.aload_n 0, 1) := by decide +kernel
theorem dX6_many_129 : decode cX6_many 129 = .ok (.iload_n 1, 1) := by decide +kernel
theorem dX6_many_130 : decode cX6_many 130 = .ok (.iconst 3, 1) := by decide +kernel
theorem dX6_many_131 : decode cX6_many 131 = .ok (.isub, 1) := by decide +kernel
theorem dX6_many_132 : decode cX6_many 132 = .ok (.invokevirtual 207, 3) := by decide +kernel
theorem dX6_many_135 : decode cX6_many 135 = .ok (.ireturn, 1) := by decide +kernel
theorem dX6_meanTrust_0 : decode cX6_meanTrust 0 = .ok (.iconst 0, 1) := by decide +kernel
theorem dX6_meanTrust_1 : decode cX6_meanTrust 1 = .ok (.istore_n 1, 1) := by decide +kernel
theorem dX6_meanTrust_2 : decode cX6_meanTrust 2 = .ok (.iconst 0, 1) := by decide +kernel
theorem dX6_meanTrust_3 : decode cX6_meanTrust 3 = .ok (.istore_n 2, 1) := by decide +kernel
theorem dX6_meanTrust_4 : decode cX6_meanTrust 4 = .ok (.iload_n 2, 1) := by decide +kernel
theorem dX6_meanTrust_5 : decode cX6_meanTrust 5 = .ok (.aload_n 0, 1) := by decide +kernel
theorem dX6_meanTrust_6 : decode cX6_meanTrust 6 = .ok (.getfield 10, 3) := by decide +kernel
theorem dX6_meanTrust_9 : decode cX6_meanTrust 9 = .ok (.invokevirtual 51, 3) := by decide +kernel
theorem dX6_meanTrust_12 : decode cX6_meanTrust 12 = .ok (.if_icmp .ge 26, 3) := by decide +kernel
theorem dX6_meanTrust_15 : decode cX6_meanTrust 15 = .ok (.iload_n 1, 1) := by decide +kernel
theorem dX6_meanTrust_16 : decode cX6_meanTrust 16 = .ok (.aload_n 0, 1) := by decide +kernel
theorem dX6_meanTrust_17 : decode cX6_meanTrust 17 = .ok (.getfield 10, 3) := by decide +kernel
theorem dX6_meanTrust_20 : decode cX6_meanTrust 20 = .ok (.iload_n 2, 1) := by decide +kernel
theorem dX6_meanTrust_21 : decode cX6_meanTrust 21 = .ok (.invokevirtual 253, 3) := by decide +kernel
theorem dX6_meanTrust_24 : decode cX6_meanTrust 24 = .ok (.checkcast 62, 3) := by decide +kernel
theorem dX6_meanTrust_27 : decode cX6_meanTrust 27 = .ok (.getfield 123, 3) := by decide +kernel
theorem dX6_meanTrust_30 : decode cX6_meanTrust 30 = .ok (.iadd, 1) := by decide +kernel
theorem dX6_meanTrust_31 : decode cX6_meanTrust 31 = .ok (.istore_n 1, 1) := by decide +kernel
theorem dX6_meanTrust_32 : decode cX6_meanTrust 32 = .ok (.iinc 2 1, 3) := by decide +kernel
theorem dX6_meanTrust_35 : decode cX6_meanTrust 35 = .ok (.goto (-31), 3) := by decide +kernel
theorem dX6_meanTrust_38 : decode cX6_meanTrust 38 = .ok (.aload_n 0, 1) := by decide +kernel
theorem dX6_meanTrust_39 : decode cX6_meanTrust 39 = .ok (.getfield 10, 3) := by decide +kernel
theorem dX6_meanTrust_42 : decode cX6_meanTrust 42 = .ok (.invokevirtual 274, 3) := by decide +kernel
theorem dX6_meanTrust_45 : decode cX6_meanTrust 45 = .ok (.ifCond .eq 7, 3) := by decide +kernel
theorem dX6_meanTrust_48 : decode cX6_meanTrust 48 = .ok (.dconst 0, 1) := by decide +kernel
theorem dX6_meanTrust_49 : decode cX6_meanTrust 49 = .ok (.goto 14, 3) := by decide +kernel
theorem dX6_meanTrust_52 : decode cX6_meanTrust 52 = .ok (.iload_n 1, 1) := by decide +kernel
theorem dX6_meanTrust_53 : decode cX6_meanTrust 53 = .ok (.i2d, 1) := by decide +kernel
theorem dX6_meanTrust_54 : decode cX6_meanTrust 54 = .ok (.aload_n 0, 1) := by decide +kernel
theorem dX6_meanTrust_55 : decode cX6_meanTrust 55 = .ok (.getfield 10, 3) := by decide +kernel
theorem dX6_meanTrust_58 : decode cX6_meanTrust 58 = .ok (.invokevirtual 51, 3) := by decide +kernel
theorem dX6_meanTrust_61 : decode cX6_meanTrust 61 = .ok (.i2d, 1) := by decide +kernel
theorem dX6_meanTrust_62 : decode cX6_meanTrust 62 = .ok (.ddiv, 1) := by decide +kernel
theorem dX6_meanTrust_63 : decode cX6_meanTrust 63 = .ok (.dreturn, 1) := by decide +kernel
theorem dX6_wouldMatch_0 : decode cX6_wouldMatch 0 = .ok (.iload_n 1, 1) := by decide +kernel
theorem dX6_wouldMatch_1 : decode cX6_wouldMatch 1 = .ok (.iload_n 2, 1) := by decide +kernel
theorem dX6_wouldMatch_2 : decode cX6_wouldMatch 2 = .ok (.iload_n 3, 1) := by decide +kernel
theorem dX6_wouldMatch_3 : decode cX6_wouldMatch 3 = .ok (.invokestatic 172, 3) := by decide +kernel
theorem dX6_wouldMatch_6 : decode cX6_wouldMatch 6 = .ok (.new 177, 3) := by decide +kernel
theorem dX6_wouldMatch_9 : decode cX6_wouldMatch 9 = .ok (.dup, 1) := by decide +kernel
theorem dX6_wouldMatch_10 : decode cX6_wouldMatch 10 = .ok (.aload_n 0, 1) := by decide +kernel
theorem dX6_wouldMatch_11 : decode cX6_wouldMatch 11 = .ok (.getfield 22, 3) := by decide +kernel
theorem dX6_wouldMatch_14 : decode cX6_wouldMatch 14 = .ok (.invokevirtual 51, 3) := by decide +kernel
theorem dX6_wouldMatch_17 : decode cX6_wouldMatch 17 = .ok (.iload_n 1, 1) := by decide +kernel
theorem dX6_wouldMatch_18 : decode cX6_wouldMatch 18 = .ok (.iload_n 2, 1) := by decide +kernel
theorem dX6_wouldMatch_19 : decode cX6_wouldMatch 19 = .ok (.iload_n 3, 1) := by decide +kernel
theorem dX6_wouldMatch_20 : decode cX6_wouldMatch 20 = .ok (.invokespecial 179, 3) := by decide +kernel
theorem dX6_wouldMatch_23 : decode cX6_wouldMatch 23 = .ok (.astore 4, 2) := by decide +kernel
theorem dX6_wouldMatch_25 : decode cX6_wouldMatch 25 = .ok (.aconst_null, 1) := by decide +kernel
theorem dX6_wouldMatch_26 : decode cX6_wouldMatch 26 = .ok (.astore 5, 2) := by decide +kernel
theorem dX6_wouldMatch_28 : decode cX6_wouldMatch 28 = .ok (.iconst (-1), 1) := by decide +kernel
theorem dX6_wouldMatch_29 : decode cX6_wouldMatch 29 = .ok (.istore 6, 2) := by decide +kernel
theorem dX6_wouldMatch_31 : decode cX6_wouldMatch 31 = .ok (.iconst 0, 1) := by decide +kernel
theorem dX6_wouldMatch_32 : decode cX6_wouldMatch 32 = .ok (.istore 7, 2) := by decide +kernel
theorem dX6_wouldMatch_34 : decode cX6_wouldMatch 34 = .ok (.iload 7, 2) := by decide +kernel
theorem dX6_wouldMatch_36 : decode cX6_wouldMatch 36 = .ok (.aload_n 0, 1) := by decide +kernel
theorem dX6_wouldMatch_37 : decode cX6_wouldMatch 37 = .ok (.getfield 19, 3) := by decide +kernel
theorem dX6_wouldMatch_40 : decode cX6_wouldMatch 40 = .ok (.invokevirtual 51, 3) := by decide +kernel
theorem dX6_wouldMatch_43 : decode cX6_wouldMatch 43 = .ok (.if_icmp .ge 58, 3) := by decide +kernel
theorem dX6_wouldMatch_46 : decode cX6_wouldMatch 46 = .ok (.aload_n 0, 1) := by decide +kernel
theorem dX6_wouldMatch_47 : decode cX6_wouldMatch 47 = .ok (.getfield 19, 3) := by decide +kernel
theorem dX6_wouldMatch_50 : decode cX6_wouldMatch 50 = .ok (.iload 7, 2) := by decide +kernel
theorem dX6_wouldMatch_52 : decode cX6_wouldMatch 52 = .ok (.invokevirtual 253, 3) := by decide +kernel
theorem dX6_wouldMatch_55 : decode cX6_wouldMatch 55 = .ok (.checkcast 155, 3) := by decide +kernel
theorem dX6_wouldMatch_58 : decode cX6_wouldMatch 58 = .ok (.astore 8, 2) := by decide +kernel
theorem dX6_wouldMatch_60 : decode cX6_wouldMatch 60 = .ok (.aload 8, 2) := by decide +kernel
theorem dX6_wouldMatch_62 : decode cX6_wouldMatch 62 = .ok (.aload 4, 2) := by decide +kernel
theorem dX6_wouldMatch_64 : decode cX6_wouldMatch 64 = .ok (.invokestatic 278, 3) := by decide +kernel
theorem dX6_wouldMatch_67 : decode cX6_wouldMatch 67 = .ok (.ifCond .eq 28, 3) := by decide +kernel
theorem dX6_wouldMatch_70 : decode cX6_wouldMatch 70 = .ok (.aload 8, 2) := by decide +kernel
theorem dX6_wouldMatch_72 : decode cX6_wouldMatch 72 = .ok (.aload 4, 2) := by decide +kernel
theorem dX6_wouldMatch_74 : decode cX6_wouldMatch 74 = .ok (.invokestatic 247, 3) := by decide +kernel
theorem dX6_wouldMatch_77 : decode cX6_wouldMatch 77 = .ok (.iload 6, 2) := by decide +kernel
theorem dX6_wouldMatch_79 : decode cX6_wouldMatch 79 = .ok (.if_icmp .le 16, 3) := by decide +kernel
theorem dX6_wouldMatch_82 : decode cX6_wouldMatch 82 = .ok (.aload 8, 2) := by decide +kernel
theorem dX6_wouldMatch_84 : decode cX6_wouldMatch 84 = .ok (.astore 5, 2) := by decide +kernel
theorem dX6_wouldMatch_86 : decode cX6_wouldMatch 86 = .ok (.aload 8, 2) := by decide +kernel
theorem dX6_wouldMatch_88 : decode cX6_wouldMatch 88 = .ok (.aload 4, 2) := by decide +kernel
theorem dX6_wouldMatch_90 : decode cX6_wouldMatch 90 = .ok (.invokestatic 247, 3) := by decide +kernel
theorem dX6_wouldMatch_93 : decode cX6_wouldMatch 93 = .ok (.istore 6, 2) := by decide +kernel
theorem dX6_wouldMatch_95 : decode cX6_wouldMatch 95 = .ok (.iinc 7 1, 3) := by decide +kernel
theorem dX6_wouldMatch_98 : decode cX6_wouldMatch 98 = .ok (.goto (-64), 3) := by decide +kernel
theorem dX6_wouldMatch_101 : decode cX6_wouldMatch 101 = .ok (.aload 5, 2) := by decide +kernel
theorem dX6_wouldMatch_103 : decode cX6_wouldMatch 103 = .ok (.invokestatic 119, 3) := by decide +kernel
theorem dX6_wouldMatch_106 : decode cX6_wouldMatch 106 = .ok (.ireturn, 1) := by decide +kernel
theorem dX6_trustBehind_0 : decode cX6_trustBehind 0 = .ok (.aload_n 0, 1) := by decide +kernel
theorem dX6_trustBehind_1 : decode cX6_trustBehind 1 = .ok (.iload_n 1, 1) := by decide +kernel
theorem dX6_trustBehind_2 : decode cX6_trustBehind 2 = .ok (.invokevirtual 47, 3) := by decide +kernel
theorem dX6_trustBehind_5 : decode cX6_trustBehind 5 = .ok (.astore_n 3, 1) := by decide +kernel
theorem dX6_trustBehind_6 : decode cX6_trustBehind 6 = .ok (.iload_n 2, 1) := by decide +kernel
theorem dX6_trustBehind_7 : decode cX6_trustBehind 7 = .ok (.iconst 0, 1) := by decide +kernel
theorem dX6_trustBehind_8 : decode cX6_trustBehind 8 = .ok (.bipush 30, 2) := by decide +kernel
theorem dX6_trustBehind_10 : decode cX6_trustBehind 10 = .ok (.invokestatic 78, 3) := by decide +kernel
theorem dX6_trustBehind_13 : decode cX6_trustBehind 13 = .ok (.aload_n 0, 1) := by decide +kernel
theorem dX6_trustBehind_14 : decode cX6_trustBehind 14 = .ok (.getfield 43, 3) := by decide +kernel
theorem dX6_trustBehind_17 : decode cX6_trustBehind 17 = .ok (.iload_n 2, 1) := by decide +kernel
theorem dX6_trustBehind_18 : decode cX6_trustBehind 18 = .ok (.iadd, 1) := by decide +kernel
theorem dX6_trustBehind_19 : decode cX6_trustBehind 19 = .ok (.bipush 119, 2) := by decide +kernel
theorem dX6_trustBehind_21 : decode cX6_trustBehind 21 = .ok (.invokestatic 282, 3) := by decide +kernel
theorem dX6_trustBehind_24 : decode cX6_trustBehind 24 = .ok (.istore 4, 2) := by decide +kernel
theorem dX6_trustBehind_26 : decode cX6_trustBehind 26 = .ok (.iconst 0, 1) := by decide +kernel
theorem dX6_trustBehind_27 : decode cX6_trustBehind 27 = .ok (.istore 5, 2) := by decide +kernel
theorem dX6_trustBehind_29 : decode cX6_trustBehind 29 = .ok (.iconst 0, 1) := by decide +kernel
theorem dX6_trustBehind_30 : decode cX6_trustBehind 30 = .ok (.istore 6, 2) := by decide +kernel
theorem dX6_trustBehind_32 : decode cX6_trustBehind 32 = .ok (.iload 6, 2) := by decide +kernel
theorem dX6_trustBehind_34 : decode cX6_trustBehind 34 = .ok (.aload_n 0, 1) := by decide +kernel
theorem dX6_trustBehind_35 : decode cX6_trustBehind 35 = .ok (.getfield 19, 3) := by decide +kernel
theorem dX6_trustBehind_38 : decode cX6_trustBehind 38 = .ok (.invokevirtual 51, 3) := by decide +kernel
theorem dX6_trustBehind_41 : decode cX6_trustBehind 41 = .ok (.if_icmp .ge 53, 3) := by decide +kernel
theorem dX6_trustBehind_44 : decode cX6_trustBehind 44 = .ok (.aload_n 0, 1) := by decide +kernel
theorem dX6_trustBehind_45 : decode cX6_trustBehind 45 = .ok (.getfield 19, 3) := by decide +kernel
theorem dX6_trustBehind_48 : decode cX6_trustBehind 48 = .ok (.iload 6, 2) := by decide +kernel
theorem dX6_trustBehind_50 : decode cX6_trustBehind 50 = .ok (.invokevirtual 253, 3) := by decide +kernel
theorem dX6_trustBehind_53 : decode cX6_trustBehind 53 = .ok (.checkcast 155, 3) := by decide +kernel
theorem dX6_trustBehind_56 : decode cX6_trustBehind 56 = .ok (.astore 7, 2) := by decide +kernel
theorem dX6_trustBehind_58 : decode cX6_trustBehind 58 = .ok (.aload 7, 2) := by decide +kernel
theorem dX6_trustBehind_60 : decode cX6_trustBehind 60 = .ok (.getfield 211, 3) := by decide +kernel
theorem dX6_trustBehind_63 : decode cX6_trustBehind 63 = .ok (.aload_n 3, 1) := by decide +kernel
theorem dX6_trustBehind_64 : decode cX6_trustBehind 64 = .ok (.if_acmp .ne 24, 3) := by decide +kernel
theorem dX6_trustBehind_67 : decode cX6_trustBehind 67 = .ok (.aload 7, 2) := by decide +kernel
theorem dX6_trustBehind_69 : decode cX6_trustBehind 69 = .ok (.getfield 197, 3) := by decide +kernel
theorem dX6_trustBehind_72 : decode cX6_trustBehind 72 = .ok (.ifCond .ne 16, 3) := by decide +kernel
theorem dX6_trustBehind_75 : decode cX6_trustBehind 75 = .ok (.iload 5, 2) := by decide +kernel
theorem dX6_trustBehind_77 : decode cX6_trustBehind 77 = .ok (.aload_n 0, 1) := by decide +kernel
theorem dX6_trustBehind_78 : decode cX6_trustBehind 78 = .ok (.aload 7, 2) := by decide +kernel
theorem dX6_trustBehind_80 : decode cX6_trustBehind 80 = .ok (.iload 4, 2) := by decide +kernel
theorem dX6_trustBehind_82 : decode cX6_trustBehind 82 = .ok (.invokevirtual 288, 3) := by decide +kernel
theorem dX6_trustBehind_85 : decode cX6_trustBehind 85 = .ok (.iadd, 1) := by decide +kernel
theorem dX6_trustBehind_86 : decode cX6_trustBehind 86 = .ok (.istore 5, 2) := by decide +kernel
theorem dX6_trustBehind_88 : decode cX6_trustBehind 88 = .ok (.iinc 6 1, 3) := by decide +kernel
theorem dX6_trustBehind_91 : decode cX6_trustBehind 91 = .ok (.goto (-59), 3) := by decide +kernel
theorem dX6_trustBehind_94 : decode cX6_trustBehind 94 = .ok (.aload_n 3, 1) := by decide +kernel
theorem dX6_trustBehind_95 : decode cX6_trustBehind 95 = .ok (.getfield 123, 3) := by decide +kernel
theorem dX6_trustBehind_98 : decode cX6_trustBehind 98 = .ok (.iload 5, 2) := by decide +kernel
theorem dX6_trustBehind_100 : decode cX6_trustBehind 100 = .ok (.isub, 1) := by decide +kernel
theorem dX6_trustBehind_101 : decode cX6_trustBehind 101 = .ok (.iconst 0, 1) := by decide +kernel
theorem dX6_trustBehind_102 : decode cX6_trustBehind 102 = .ok (.invokestatic 292, 3) := by decide +kernel
theorem dX6_trustBehind_105 : decode cX6_trustBehind 105 = .ok (.ireturn, 1) := by decide +kernel
theorem dX6_leftWith_0 : decode cX6_leftWith 0 = .ok (.iload_n 1, 1) := by decide +kernel
theorem dX6_leftWith_1 : decode cX6_leftWith 1 = .ok (.invokestatic 74, 3) := by decide +kernel
theorem dX6_leftWith_4 : decode cX6_leftWith 4 = .ok (.iload_n 2, 1) := by decide +kernel
theorem dX6_leftWith_5 : decode cX6_leftWith 5 = .ok (.invokestatic 143, 3) := by decide +kernel
theorem dX6_leftWith_8 : decode cX6_leftWith 8 = .ok (.aload_n 0, 1) := by decide +kernel
theorem dX6_leftWith_9 : decode cX6_leftWith 9 = .ok (.iload_n 1, 1) := by decide +kernel
theorem dX6_leftWith_10 : decode cX6_leftWith 10 = .ok (.iload_n 2, 1) := by decide +kernel
theorem dX6_leftWith_11 : decode cX6_leftWith 11 = .ok (.iconst 1, 1) := by decide +kernel
theorem dX6_leftWith_12 : decode cX6_leftWith 12 = .ok (.invokevirtual 147, 3) := by decide +kernel
theorem dX6_leftWith_15 : decode cX6_leftWith 15 = .ok (.ireturn, 1) := by decide +kernel
theorem dX6_digest_0 : decode cX6_digest 0 = .ok (.ldc2_w 295, 3) := by decide +kernel
theorem dX6_digest_3 : decode cX6_digest 3 = .ok (.lstore_n 1, 1) := by decide +kernel
theorem dX6_digest_4 : decode cX6_digest 4 = .ok (.iconst 0, 1) := by decide +kernel
theorem dX6_digest_5 : decode cX6_digest 5 = .ok (.istore_n 3, 1) := by decide +kernel
theorem dX6_digest_6 : decode cX6_digest 6 = .ok (.iload_n 3, 1) := by decide +kernel
theorem dX6_digest_7 : decode cX6_digest 7 = .ok (.bipush 12, 2) := by decide +kernel
theorem dX6_digest_9 : decode cX6_digest 9 = .ok (.if_icmp .gt 19, 3) := by decide +kernel
theorem dX6_digest_12 : decode cX6_digest 12 = .ok (.lload_n 1, 1) := by decide +kernel
theorem dX6_digest_13 : decode cX6_digest 13 = .ok (.aload_n 0, 1) := by decide +kernel
theorem dX6_digest_14 : decode cX6_digest 14 = .ok (.iload_n 3, 1) := by decide +kernel
theorem dX6_digest_15 : decode cX6_digest 15 = .ok (.invokevirtual 297, 3) := by decide +kernel
theorem dX6_digest_18 : decode cX6_digest 18 = .ok (.invokestatic 300, 3) := by decide +kernel
theorem dX6_digest_21 : decode cX6_digest 21 = .ok (.lstore_n 1, 1) := by decide +kernel
theorem dX6_digest_22 : decode cX6_digest 22 = .ok (.iinc 3 1, 3) := by decide +kernel
theorem dX6_digest_25 : decode cX6_digest 25 = .ok (.goto (-19), 3) := by decide +kernel
theorem dX6_digest_28 : decode cX6_digest 28 = .ok (.aload_n 0, 1) := by decide +kernel
theorem dX6_digest_29 : decode cX6_digest 29 = .ok (.lload_n 1, 1) := by decide +kernel
theorem dX6_digest_30 : decode cX6_digest 30 = .ok (.invokevirtual 304, 3) := by decide +kernel
theorem dX6_digest_33 : decode cX6_digest 33 = .ok (.lstore_n 1, 1) := by decide +kernel
theorem dX6_digest_34 : decode cX6_digest 34 = .ok (.aload_n 0, 1) := by decide +kernel
theorem dX6_digest_35 : decode cX6_digest 35 = .ok (.lload_n 1, 1) := by decide +kernel
theorem dX6_digest_36 : decode cX6_digest 36 = .ok (.invokevirtual 308, 3) := by decide +kernel
theorem dX6_digest_39 : decode cX6_digest 39 = .ok (.lstore_n 1, 1) := by decide +kernel
theorem dX6_digest_40 : decode cX6_digest 40 = .ok (.aload_n 0, 1) := by decide +kernel
theorem dX6_digest_41 : decode cX6_digest 41 = .ok (.lload_n 1, 1) := by decide +kernel
theorem dX6_digest_42 : decode cX6_digest 42 = .ok (.invokevirtual 311, 3) := by decide +kernel
theorem dX6_digest_45 : decode cX6_digest 45 = .ok (.lstore_n 1, 1) := by decide +kernel
theorem dX6_digest_46 : decode cX6_digest 46 = .ok (.iconst 0, 1) := by decide +kernel
theorem dX6_digest_47 : decode cX6_digest 47 = .ok (.istore_n 3, 1) := by decide +kernel
theorem dX6_digest_48 : decode cX6_digest 48 = .ok (.iload_n 3, 1) := by decide +kernel
theorem dX6_digest_49 : decode cX6_digest 49 = .ok (.aload_n 0, 1) := by decide +kernel
theorem dX6_digest_50 : decode cX6_digest 50 = .ok (.getfield 22, 3) := by decide +kernel
theorem dX6_digest_53 : decode cX6_digest 53 = .ok (.invokevirtual 51, 3) := by decide +kernel
theorem dX6_digest_56 : decode cX6_digest 56 = .ok (.if_icmp .ge 19, 3) := by decide +kernel
theorem dX6_digest_59 : decode cX6_digest 59 = .ok (.lload_n 1, 1) := by decide +kernel
theorem dX6_digest_60 : decode cX6_digest 60 = .ok (.aload_n 0, 1) := by decide +kernel
theorem dX6_digest_61 : decode cX6_digest 61 = .ok (.iload_n 3, 1) := by decide +kernel
theorem dX6_digest_62 : decode cX6_digest 62 = .ok (.invokevirtual 314, 3) := by decide +kernel
theorem dX6_digest_65 : decode cX6_digest 65 = .ok (.invokestatic 300, 3) := by decide +kernel
theorem dX6_digest_68 : decode cX6_digest 68 = .ok (.lstore_n 1, 1) := by decide +kernel
theorem dX6_digest_69 : decode cX6_digest 69 = .ok (.iinc 3 1, 3) := by decide +kernel
theorem dX6_digest_72 : decode cX6_digest 72 = .ok (.goto (-24), 3) := by decide +kernel
theorem dX6_digest_75 : decode cX6_digest 75 = .ok (.iconst 0, 1) := by decide +kernel
theorem dX6_digest_76 : decode cX6_digest 76 = .ok (.istore_n 3, 1) := by decide +kernel
theorem dX6_digest_77 : decode cX6_digest 77 = .ok (.iload_n 3, 1) := by decide +kernel
theorem dX6_digest_78 : decode cX6_digest 78 = .ok (.aload_n 0, 1) := by decide +kernel
theorem dX6_digest_79 : decode cX6_digest 79 = .ok (.getfield 10, 3) := by decide +kernel
theorem dX6_digest_82 : decode cX6_digest 82 = .ok (.invokevirtual 51, 3) := by decide +kernel
theorem dX6_digest_85 : decode cX6_digest 85 = .ok (.if_icmp .ge 21, 3) := by decide +kernel
theorem dX6_digest_88 : decode cX6_digest 88 = .ok (.lload_n 1, 1) := by decide +kernel
theorem dX6_digest_89 : decode cX6_digest 89 = .ok (.aload_n 0, 1) := by decide +kernel
theorem dX6_digest_90 : decode cX6_digest 90 = .ok (.iload_n 3, 1) := by decide +kernel
theorem dX6_digest_91 : decode cX6_digest 91 = .ok (.bipush 20, 2) := by decide +kernel
theorem dX6_digest_93 : decode cX6_digest 93 = .ok (.invokevirtual 317, 3) := by decide +kernel
theorem dX6_digest_96 : decode cX6_digest 96 = .ok (.invokestatic 300, 3) := by decide +kernel
theorem dX6_digest_99 : decode cX6_digest 99 = .ok (.lstore_n 1, 1) := by decide +kernel
theorem dX6_digest_100 : decode cX6_digest 100 = .ok (.iinc 3 1, 3) := by decide +kernel
theorem dX6_digest_103 : decode cX6_digest 103 = .ok (.goto (-26), 3) := by decide +kernel
theorem dX6_digest_106 : decode cX6_digest 106 = .ok (.lload_n 1, 1) := by decide +kernel
theorem dX6_digest_107 : decode cX6_digest 107 = .ok (.lreturn, 1) := by decide +kernel
theorem dX6_personAt_0 : decode cX6_personAt 0 = .ok (.iload_n 1, 1) := by decide +kernel
theorem dX6_personAt_1 : decode cX6_personAt 1 = .ok (.ifCond .lt 14, 3) := by decide +kernel
theorem dX6_personAt_4 : decode cX6_personAt 4 = .ok (.iload_n 1, 1) := by decide +kernel
theorem dX6_personAt_5 : decode cX6_personAt 5 = .ok (.aload_n 0, 1) := by decide +kernel
theorem dX6_personAt_6 : decode cX6_personAt 6 = .ok (.getfield 10, 3) := by decide +kernel
theorem dX6_personAt_9 : decode cX6_personAt 9 = .ok (.invokevirtual 51, 3) := by decide +kernel
theorem dX6_personAt_12 : decode cX6_personAt 12 = .ok (.if_icmp .lt 14, 3) := by decide +kernel
theorem dX6_personAt_15 : decode cX6_personAt 15 = .ok (.new 320, 3) := by decide +kernel
theorem dX6_personAt_18 : decode cX6_personAt 18 = .ok (.dup, 1) := by decide +kernel
theorem dX6_personAt_19 : decode cX6_personAt 19 = .ok (.ldc_w 322, 3) := by decide +kernel
theorem dX6_personAt_22 : decode cX6_personAt 22 = .ok (.invokespecial 324, 3) := by decide +kernel
theorem dX6_personAt_25 : decode cX6_personAt 25 = .ok (.athrow, 1) := by decide +kernel
theorem dX6_personAt_26 : decode cX6_personAt 26 = .ok (.aload_n 0, 1) := by decide +kernel
theorem dX6_personAt_27 : decode cX6_personAt 27 = .ok (.getfield 10, 3) := by decide +kernel
theorem dX6_personAt_30 : decode cX6_personAt 30 = .ok (.iload_n 1, 1) := by decide +kernel
theorem dX6_personAt_31 : decode cX6_personAt 31 = .ok (.invokevirtual 253, 3) := by decide +kernel
theorem dX6_personAt_34 : decode cX6_personAt 34 = .ok (.checkcast 62, 3) := by decide +kernel
theorem dX6_personAt_37 : decode cX6_personAt 37 = .ok (.areturn, 1) := by decide +kernel
theorem dX6_chargeAt_0 : decode cX6_chargeAt 0 = .ok (.iload_n 1, 1) := by decide +kernel
theorem dX6_chargeAt_1 : decode cX6_chargeAt 1 = .ok (.ifCond .lt 14, 3) := by decide +kernel
theorem dX6_chargeAt_4 : decode cX6_chargeAt 4 = .ok (.iload_n 1, 1) := by decide +kernel
theorem dX6_chargeAt_5 : decode cX6_chargeAt 5 = .ok (.aload_n 0, 1) := by decide +kernel
theorem dX6_chargeAt_6 : decode cX6_chargeAt 6 = .ok (.getfield 19, 3) := by decide +kernel
theorem dX6_chargeAt_9 : decode cX6_chargeAt 9 = .ok (.invokevirtual 51, 3) := by decide +kernel
theorem dX6_chargeAt_12 : decode cX6_chargeAt 12 = .ok (.if_icmp .lt 14, 3) := by decide +kernel
theorem dX6_chargeAt_15 : decode cX6_chargeAt 15 = .ok (.new 320, 3) := by decide +kernel
theorem dX6_chargeAt_18 : decode cX6_chargeAt 18 = .ok (.dup, 1) := by decide +kernel
theorem dX6_chargeAt_19 : decode cX6_chargeAt 19 = .ok (.ldc_w 325, 3) := by decide +kernel
theorem dX6_chargeAt_22 : decode cX6_chargeAt 22 = .ok (.invokespecial 324, 3) := by decide +kernel
theorem dX6_chargeAt_25 : decode cX6_chargeAt 25 = .ok (.athrow, 1) := by decide +kernel
theorem dX6_chargeAt_26 : decode cX6_chargeAt 26 = .ok (.aload_n 0, 1) := by decide +kernel
theorem dX6_chargeAt_27 : decode cX6_chargeAt 27 = .ok (.getfield 19, 3) := by decide +kernel
theorem dX6_chargeAt_30 : decode cX6_chargeAt 30 = .ok (.iload_n 1, 1) := by decide +kernel
theorem dX6_chargeAt_31 : decode cX6_chargeAt 31 = .ok (.invokevirtual 253, 3) := by decide +kernel
theorem dX6_chargeAt_34 : decode cX6_chargeAt 34 = .ok (.checkcast 155, 3) := by decide +kernel
theorem dX6_chargeAt_37 : decode cX6_chargeAt 37 = .ok (.areturn, 1) := by decide +kernel
theorem dX6_receiptAt_0 : decode cX6_receiptAt 0 = .ok (.iload_n 1, 1) := by decide +kernel
theorem dX6_receiptAt_1 : decode cX6_receiptAt 1 = .ok (.ifCond .lt 14, 3) := by decide +kernel
theorem dX6_receiptAt_4 : decode cX6_receiptAt 4 = .ok (.iload_n 1, 1) := by decide +kernel
theorem dX6_receiptAt_5 : decode cX6_receiptAt 5 = .ok (.aload_n 0, 1) := by decide +kernel
theorem dX6_receiptAt_6 : decode cX6_receiptAt 6 = .ok (.getfield 22, 3) := by decide +kernel
theorem dX6_receiptAt_9 : decode cX6_receiptAt 9 = .ok (.invokevirtual 51, 3) := by decide +kernel
theorem dX6_receiptAt_12 : decode cX6_receiptAt 12 = .ok (.if_icmp .lt 14, 3) := by decide +kernel
theorem dX6_receiptAt_15 : decode cX6_receiptAt 15 = .ok (.new 320, 3) := by decide +kernel
theorem dX6_receiptAt_18 : decode cX6_receiptAt 18 = .ok (.dup, 1) := by decide +kernel
theorem dX6_receiptAt_19 : decode cX6_receiptAt 19 = .ok (.ldc_w 327, 3) := by decide +kernel
theorem dX6_receiptAt_22 : decode cX6_receiptAt 22 = .ok (.invokespecial 324, 3) := by decide +kernel
theorem dX6_receiptAt_25 : decode cX6_receiptAt 25 = .ok (.athrow, 1) := by decide +kernel
theorem dX6_receiptAt_26 : decode cX6_receiptAt 26 = .ok (.aload_n 0, 1) := by decide +kernel
theorem dX6_receiptAt_27 : decode cX6_receiptAt 27 = .ok (.getfield 22, 3) := by decide +kernel
theorem dX6_receiptAt_30 : decode cX6_receiptAt 30 = .ok (.iload_n 1, 1) := by decide +kernel
theorem dX6_receiptAt_31 : decode cX6_receiptAt 31 = .ok (.invokevirtual 253, 3) := by decide +kernel
theorem dX6_receiptAt_34 : decode cX6_receiptAt 34 = .ok (.checkcast 177, 3) := by decide +kernel
theorem dX6_receiptAt_37 : decode cX6_receiptAt 37 = .ok (.areturn, 1) := by decide +kernel
theorem dX6_checkKind_0 : decode cX6_checkKind 0 = .ok (.iload_n 0, 1) := by decide +kernel
theorem dX6_checkKind_1 : decode cX6_checkKind 1 = .ok (.ifCond .lt 8, 3) := by decide +kernel
theorem dX6_checkKind_4 : decode cX6_checkKind 4 = .ok (.iload_n 0, 1) := by decide +kernel
theorem dX6_checkKind_5 : decode cX6_checkKind 5 = .ok (.iconst 4, 1) := by decide +kernel
theorem dX6_checkKind_6 : decode cX6_checkKind 6 = .ok (.if_icmp .lt 14, 3) := by decide +kernel
theorem dX6_checkKind_9 : decode cX6_checkKind 9 = .ok (.new 320, 3) := by decide +kernel
theorem dX6_checkKind_12 : decode cX6_checkKind 12 = .ok (.dup, 1) := by decide +kernel
theorem dX6_checkKind_13 : decode cX6_checkKind 13 = .ok (.ldc_w 329, 3) := by decide +kernel
theorem dX6_checkKind_16 : decode cX6_checkKind 16 = .ok (.invokespecial 324, 3) := by decide +kernel
theorem dX6_checkKind_19 : decode cX6_checkKind 19 = .ok (.athrow, 1) := by decide +kernel
theorem dX6_checkKind_20 : decode cX6_checkKind 20 = .ok (.return_, 1) := by decide +kernel
theorem dX6_checkLand_0 : decode cX6_checkLand 0 = .ok (.iload_n 0, 1) := by decide +kernel
theorem dX6_checkLand_1 : decode cX6_checkLand 1 = .ok (.ifCond .lt 8, 3) := by decide +kernel
theorem dX6_checkLand_4 : decode cX6_checkLand 4 = .ok (.iload_n 0, 1) := by decide +kernel
theorem dX6_checkLand_5 : decode cX6_checkLand 5 = .ok (.iconst 3, 1) := by decide +kernel
theorem dX6_checkLand_6 : decode cX6_checkLand 6 = .ok (.if_icmp .lt 14, 3) := by decide +kernel
theorem dX6_checkLand_9 : decode cX6_checkLand 9 = .ok (.new 320, 3) := by decide +kernel
theorem dX6_checkLand_12 : decode cX6_checkLand 12 = .ok (.dup, 1) := by decide +kernel
theorem dX6_checkLand_13 : decode cX6_checkLand 13 = .ok (.ldc_w 331, 3) := by decide +kernel
theorem dX6_checkLand_16 : decode cX6_checkLand 16 = .ok (.invokespecial 324, 3) := by decide +kernel
theorem dX6_checkLand_19 : decode cX6_checkLand 19 = .ok (.athrow, 1) := by decide +kernel
theorem dX6_checkLand_20 : decode cX6_checkLand 20 = .ok (.return_, 1) := by decide +kernel
theorem dX6_checkPeriod_0 : decode cX6_checkPeriod 0 = .ok (.iload_n 0, 1) := by decide +kernel
theorem dX6_checkPeriod_1 : decode cX6_checkPeriod 1 = .ok (.ifCond .lt 8, 3) := by decide +kernel
theorem dX6_checkPeriod_4 : decode cX6_checkPeriod 4 = .ok (.iload_n 0, 1) := by decide +kernel
theorem dX6_checkPeriod_5 : decode cX6_checkPeriod 5 = .ok (.iconst 4, 1) := by decide +kernel
theorem dX6_checkPeriod_6 : decode cX6_checkPeriod 6 = .ok (.if_icmp .lt 14, 3) := by decide +kernel
theorem dX6_checkPeriod_9 : decode cX6_checkPeriod 9 = .ok (.new 320, 3) := by decide +kernel
theorem dX6_checkPeriod_12 : decode cX6_checkPeriod 12 = .ok (.dup, 1) := by decide +kernel
theorem dX6_checkPeriod_13 : decode cX6_checkPeriod 13 = .ok (.ldc_w 333, 3) := by decide +kernel
theorem dX6_checkPeriod_16 : decode cX6_checkPeriod 16 = .ok (.invokespecial 324, 3) := by decide +kernel
theorem dX6_checkPeriod_19 : decode cX6_checkPeriod 19 = .ok (.athrow, 1) := by decide +kernel
theorem dX6_checkPeriod_20 : decode cX6_checkPeriod 20 = .ok (.return_, 1) := by decide +kernel
theorem dX6_checkRange_0 : decode cX6_checkRange 0 = .ok (.iload_n 0, 1) := by decide +kernel
theorem dX6_checkRange_1 : decode cX6_checkRange 1 = .ok (.iload_n 1, 1) := by decide +kernel
theorem dX6_checkRange_2 : decode cX6_checkRange 2 = .ok (.if_icmp .lt 8, 3) := by decide +kernel
theorem dX6_checkRange_5 : decode cX6_checkRange 5 = .ok (.iload_n 0, 1) := by decide +kernel
theorem dX6_checkRange_6 : decode cX6_checkRange 6 = .ok (.iload_n 2, 1) := by decide +kernel
theorem dX6_checkRange_7 : decode cX6_checkRange 7 = .ok (.if_icmp .le 14, 3) := by decide +kernel
theorem dX6_checkRange_10 : decode cX6_checkRange 10 = .ok (.new 86, 3) := by decide +kernel
theorem dX6_checkRange_13 : decode cX6_checkRange 13 = .ok (.dup, 1) := by decide +kernel
theorem dX6_checkRange_14 : decode cX6_checkRange 14 = .ok (.ldc_w 335, 3) := by decide +kernel
theorem dX6_checkRange_17 : decode cX6_checkRange 17 = .ok (.invokespecial 90, 3) := by decide +kernel
theorem dX6_checkRange_20 : decode cX6_checkRange 20 = .ok (.athrow, 1) := by decide +kernel
theorem dX6_checkRange_21 : decode cX6_checkRange 21 = .ok (.return_, 1) := by decide +kernel
theorem dX6_checkReceipt_0 : decode cX6_checkReceipt 0 = .ok (.iload_n 0, 1) := by decide +kernel
theorem dX6_checkReceipt_1 : decode cX6_checkReceipt 1 = .ok (.iconst 1, 1) := by decide +kernel
theorem dX6_checkReceipt_2 : decode cX6_checkReceipt 2 = .ok (.sipush 9999, 3) := by decide +kernel
theorem dX6_checkReceipt_5 : decode cX6_checkReceipt 5 = .ok (.invokestatic 78, 3) := by decide +kernel
theorem dX6_checkReceipt_8 : decode cX6_checkReceipt 8 = .ok (.iload_n 1, 1) := by decide +kernel
theorem dX6_checkReceipt_9 : decode cX6_checkReceipt 9 = .ok (.iconst 0, 1) := by decide +kernel
theorem dX6_checkReceipt_10 : decode cX6_checkReceipt 10 = .ok (.bipush 119, 2) := by decide +kernel
theorem dX6_checkReceipt_12 : decode cX6_checkReceipt 12 = .ok (.invokestatic 78, 3) := by decide +kernel
theorem dX6_checkReceipt_15 : decode cX6_checkReceipt 15 = .ok (.iload_n 2, 1) := by decide +kernel
theorem dX6_checkReceipt_16 : decode cX6_checkReceipt 16 = .ok (.iconst 0, 1) := by decide +kernel
theorem dX6_checkReceipt_17 : decode cX6_checkReceipt 17 = .ok (.bipush 9, 2) := by decide +kernel
theorem dX6_checkReceipt_19 : decode cX6_checkReceipt 19 = .ok (.invokestatic 78, 3) := by decide +kernel
theorem dX6_checkReceipt_22 : decode cX6_checkReceipt 22 = .ok (.return_, 1) := by decide +kernel
theorem dX6_checkState_0 : decode cX6_checkState 0 = .ok (.aload_n 0, 1) := by decide +kernel
theorem dX6_checkState_1 : decode cX6_checkState 1 = .ok (.getfield 197, 3) := by decide +kernel
theorem dX6_checkState_4 : decode cX6_checkState 4 = .ok (.iload_n 1, 1) := by decide +kernel
theorem dX6_checkState_5 : decode cX6_checkState 5 = .ok (.if_icmp .eq 14, 3) := by decide +kernel
theorem dX6_checkState_8 : decode cX6_checkState 8 = .ok (.new 55, 3) := by decide +kernel
theorem dX6_checkState_11 : decode cX6_checkState 11 = .ok (.dup, 1) := by decide +kernel
theorem dX6_checkState_12 : decode cX6_checkState 12 = .ok (.ldc_w 337, 3) := by decide +kernel
theorem dX6_checkState_15 : decode cX6_checkState 15 = .ok (.invokespecial 59, 3) := by decide +kernel
theorem dX6_checkState_18 : decode cX6_checkState 18 = .ok (.athrow, 1) := by decide +kernel
theorem dX6_checkState_19 : decode cX6_checkState 19 = .ok (.return_, 1) := by decide +kernel
theorem dX6_checkNextApprover_0 : decode cX6_checkNextApprover 0 = .ok (.aload_n 0, 1) := by decide +kernel
theorem dX6_checkNextApprover_1 : decode cX6_checkNextApprover 1 = .ok (.aload_n 1, 1) := by decide +kernel
theorem dX6_checkNextApprover_2 : decode cX6_checkNextApprover 2 = .ok (.invokevirtual 235, 3) := by decide +kernel
theorem dX6_checkNextApprover_5 : decode cX6_checkNextApprover 5 = .ok (.aload_n 2, 1) := by decide +kernel
theorem dX6_checkNextApprover_6 : decode cX6_checkNextApprover 6 = .ok (.if_acmp .eq 14, 3) := by decide +kernel
theorem dX6_checkNextApprover_9 : decode cX6_checkNextApprover 9 = .ok (.new 55, 3) := by decide +kernel
theorem dX6_checkNextApprover_12 : decode cX6_checkNextApprover 12 = .ok (.dup, 1) := by decide +kernel
theorem dX6_checkNextApprover_13 : decode cX6_checkNextApprover 13 = .ok (.ldc_w 339, 3) := by decide +kernel
theorem dX6_checkNextApprover_16 : decode cX6_checkNextApprover 16 = .ok (.invokespecial 59, 3) := by decide +kernel
theorem dX6_checkNextApprover_19 : decode cX6_checkNextApprover 19 = .ok (.athrow, 1) := by decide +kernel
theorem dX6_checkNextApprover_20 : decode cX6_checkNextApprover 20 = .ok (.return_, 1) := by decide +kernel
theorem dX6_numberOf_0 : decode cX6_numberOf 0 = .ok (.aload_n 0, 1) := by decide +kernel
theorem dX6_numberOf_1 : decode cX6_numberOf 1 = .ok (.ifnonnull 7, 3) := by decide +kernel
theorem dX6_numberOf_4 : decode cX6_numberOf 4 = .ok (.iconst (-1), 1) := by decide +kernel
theorem dX6_numberOf_5 : decode cX6_numberOf 5 = .ok (.goto 7, 3) := by decide +kernel
theorem dX6_numberOf_8 : decode cX6_numberOf 8 = .ok (.aload_n 0, 1) := by decide +kernel
theorem dX6_numberOf_9 : decode cX6_numberOf 9 = .ok (.getfield 341, 3) := by decide +kernel
theorem dX6_numberOf_12 : decode cX6_numberOf 12 = .ok (.ireturn, 1) := by decide +kernel
theorem dX6_tripToday_0 : decode cX6_tripToday 0 = .ok (.iconst 0, 1) := by decide +kernel
theorem dX6_tripToday_1 : decode cX6_tripToday 1 = .ok (.istore_n 3, 1) := by decide +kernel
theorem dX6_tripToday_2 : decode cX6_tripToday 2 = .ok (.iload_n 3, 1) := by decide +kernel
theorem dX6_tripToday_3 : decode cX6_tripToday 3 = .ok (.aload_n 0, 1) := by decide +kernel
theorem dX6_tripToday_4 : decode cX6_tripToday 4 = .ok (.getfield 16, 3) := by decide +kernel
theorem dX6_tripToday_7 : decode cX6_tripToday 7 = .ok (.invokevirtual 51, 3) := by decide +kernel
theorem dX6_tripToday_10 : decode cX6_tripToday 10 = .ok (.if_icmp .ge 67, 3) := by decide +kernel
theorem dX6_tripToday_13 : decode cX6_tripToday 13 = .ok (.aload_n 0, 1) := by decide +kernel
theorem dX6_tripToday_14 : decode cX6_tripToday 14 = .ok (.getfield 16, 3) := by decide +kernel
theorem dX6_tripToday_17 : decode cX6_tripToday 17 = .ok (.iload_n 3, 1) := by decide +kernel
theorem dX6_tripToday_18 : decode cX6_tripToday 18 = .ok (.invokevirtual 253, 3) := by decide +kernel
theorem dX6_tripToday_21 : decode cX6_tripToday 21 = .ok (.checkcast 110, 3) := by decide +kernel
theorem dX6_tripToday_24 : decode cX6_tripToday 24 = .ok (.astore 4, 2) := by decide +kernel
theorem dX6_tripToday_26 : decode cX6_tripToday 26 = .ok (.aload 4, 2) := by decide +kernel
theorem dX6_tripToday_28 : decode cX6_tripToday 28 = .ok (.getfield 344, 3) := by decide +kernel
theorem dX6_tripToday_31 : decode cX6_tripToday 31 = .ok (.aload_n 1, 1) := by decide +kernel
theorem dX6_tripToday_32 : decode cX6_tripToday 32 = .ok (.if_acmp .ne 39, 3) := by decide +kernel
theorem dX6_tripToday_35 : decode cX6_tripToday 35 = .ok (.aload 4, 2) := by decide +kernel
theorem dX6_tripToday_37 : decode cX6_tripToday 37 = .ok (.getfield 345, 3) := by decide +kernel
theorem dX6_tripToday_40 : decode cX6_tripToday 40 = .ok (.iload_n 2, 1) := by decide +kernel
theorem dX6_tripToday_41 : decode cX6_tripToday 41 = .ok (.if_icmp .ne 30, 3) := by decide +kernel
theorem dX6_tripToday_44 : decode cX6_tripToday 44 = .ok (.aload 4, 2) := by decide +kernel
theorem dX6_tripToday_46 : decode cX6_tripToday 46 = .ok (.getfield 348, 3) := by decide +kernel
theorem dX6_tripToday_49 : decode cX6_tripToday 49 = .ok (.aload_n 0, 1) := by decide +kernel
theorem dX6_tripToday_50 : decode cX6_tripToday 50 = .ok (.getfield 43, 3) := by decide +kernel
theorem dX6_tripToday_53 : decode cX6_tripToday 53 = .ok (.if_icmp .gt 18, 3) := by decide +kernel
theorem dX6_tripToday_56 : decode cX6_tripToday 56 = .ok (.aload_n 0, 1) := by decide +kernel
theorem dX6_tripToday_57 : decode cX6_tripToday 57 = .ok (.getfield 43, 3) := by decide +kernel
theorem dX6_tripToday_60 : decode cX6_tripToday 60 = .ok (.aload 4, 2) := by decide +kernel
theorem dX6_tripToday_62 : decode cX6_tripToday 62 = .ok (.getfield 351, 3) := by decide +kernel
theorem dX6_tripToday_65 : decode cX6_tripToday 65 = .ok (.if_icmp .gt 6, 3) := by decide +kernel
theorem dX6_tripToday_68 : decode cX6_tripToday 68 = .ok (.aload 4, 2) := by decide +kernel
theorem dX6_tripToday_70 : decode cX6_tripToday 70 = .ok (.areturn, 1) := by decide +kernel
theorem dX6_tripToday_71 : decode cX6_tripToday 71 = .ok (.iinc 3 1, 3) := by decide +kernel
theorem dX6_tripToday_74 : decode cX6_tripToday 74 = .ok (.goto (-72), 3) := by decide +kernel
theorem dX6_tripToday_77 : decode cX6_tripToday 77 = .ok (.aconst_null, 1) := by decide +kernel
theorem dX6_tripToday_78 : decode cX6_tripToday 78 = .ok (.areturn, 1) := by decide +kernel
theorem dX6_spendableBy_0 : decode cX6_spendableBy 0 = .ok (.aload_n 0, 1) := by decide +kernel
theorem dX6_spendableBy_1 : decode cX6_spendableBy 1 = .ok (.aload_n 1, 1) := by decide +kernel
theorem dX6_spendableBy_2 : decode cX6_spendableBy 2 = .ok (.iload_n 3, 1) := by decide +kernel
theorem dX6_spendableBy_3 : decode cX6_spendableBy 3 = .ok (.invokevirtual 160, 3) := by decide +kernel
theorem dX6_spendableBy_6 : decode cX6_spendableBy 6 = .ok (.astore 4, 2) := by decide +kernel
theorem dX6_spendableBy_8 : decode cX6_spendableBy 8 = .ok (.aload 4, 2) := by decide +kernel
theorem dX6_spendableBy_10 : decode cX6_spendableBy 10 = .ok (.ifnull 16, 3) := by decide +kernel
theorem dX6_spendableBy_13 : decode cX6_spendableBy 13 = .ok (.aload 4, 2) := by decide +kernel
theorem dX6_spendableBy_15 : decode cX6_spendableBy 15 = .ok (.getfield 354, 3) := by decide +kernel
theorem dX6_spendableBy_18 : decode cX6_spendableBy 18 = .ok (.aload_n 0, 1) := by decide +kernel
theorem dX6_spendableBy_19 : decode cX6_spendableBy 19 = .ok (.aload 4, 2) := by decide +kernel
theorem dX6_spendableBy_21 : decode cX6_spendableBy 21 = .ok (.invokevirtual 357, 3) := by decide +kernel
theorem dX6_spendableBy_24 : decode cX6_spendableBy 24 = .ok (.isub, 1) := by decide +kernel
theorem dX6_spendableBy_25 : decode cX6_spendableBy 25 = .ok (.ireturn, 1) := by decide +kernel
theorem dX6_spendableBy_26 : decode cX6_spendableBy 26 = .ok (.aload_n 0, 1) := by decide +kernel
theorem dX6_spendableBy_27 : decode cX6_spendableBy 27 = .ok (.getfield 30, 3) := by decide +kernel
theorem dX6_spendableBy_30 : decode cX6_spendableBy 30 = .ok (.aload_n 1, 1) := by decide +kernel
theorem dX6_spendableBy_31 : decode cX6_spendableBy 31 = .ok (.getfield 71, 3) := by decide +kernel
theorem dX6_spendableBy_34 : decode cX6_spendableBy 34 = .ok (.iload_n 2, 1) := by decide +kernel
theorem dX6_spendableBy_35 : decode cX6_spendableBy 35 = .ok (.invokevirtual 361, 3) := by decide +kernel
theorem dX6_spendableBy_38 : decode cX6_spendableBy 38 = .ok (.iconst 5, 1) := by decide +kernel
theorem dX6_spendableBy_39 : decode cX6_spendableBy 39 = .ok (.aload_n 1, 1) := by decide +kernel
theorem dX6_spendableBy_40 : decode cX6_spendableBy 40 = .ok (.getfield 123, 3) := by decide +kernel
theorem dX6_spendableBy_43 : decode cX6_spendableBy 43 = .ok (.iadd, 1) := by decide +kernel
theorem dX6_spendableBy_44 : decode cX6_spendableBy 44 = .ok (.imul, 1) := by decide +kernel
theorem dX6_spendableBy_45 : decode cX6_spendableBy 45 = .ok (.bipush 10, 2) := by decide +kernel
theorem dX6_spendableBy_47 : decode cX6_spendableBy 47 = .ok (.idiv, 1) := by decide +kernel
theorem dX6_spendableBy_48 : decode cX6_spendableBy 48 = .ok (.istore 5, 2) := by decide +kernel
theorem dX6_spendableBy_50 : decode cX6_spendableBy 50 = .ok (.iload 5, 2) := by decide +kernel
theorem dX6_spendableBy_52 : decode cX6_spendableBy 52 = .ok (.aload_n 0, 1) := by decide +kernel
theorem dX6_spendableBy_53 : decode cX6_spendableBy 53 = .ok (.aload_n 1, 1) := by decide +kernel
theorem dX6_spendableBy_54 : decode cX6_spendableBy 54 = .ok (.iload_n 2, 1) := by decide +kernel
theorem dX6_spendableBy_55 : decode cX6_spendableBy 55 = .ok (.invokevirtual 364, 3) := by decide +kernel
theorem dX6_spendableBy_58 : decode cX6_spendableBy 58 = .ok (.isub, 1) := by decide +kernel
theorem dX6_spendableBy_59 : decode cX6_spendableBy 59 = .ok (.ireturn, 1) := by decide +kernel
theorem dX6_spentOnTrip_0 : decode cX6_spentOnTrip 0 = .ok (.iconst 0, 1) := by decide +kernel
theorem dX6_spentOnTrip_1 : decode cX6_spentOnTrip 1 = .ok (.istore_n 2, 1) := by decide +kernel
theorem dX6_spentOnTrip_2 : decode cX6_spentOnTrip 2 = .ok (.iconst 0, 1) := by decide +kernel
theorem dX6_spentOnTrip_3 : decode cX6_spentOnTrip 3 = .ok (.istore_n 3, 1) := by decide +kernel
theorem dX6_spentOnTrip_4 : decode cX6_spentOnTrip 4 = .ok (.iload_n 3, 1) := by decide +kernel
theorem dX6_spentOnTrip_5 : decode cX6_spentOnTrip 5 = .ok (.aload_n 0, 1) := by decide +kernel
theorem dX6_spentOnTrip_6 : decode cX6_spentOnTrip 6 = .ok (.getfield 19, 3) := by decide +kernel
theorem dX6_spentOnTrip_9 : decode cX6_spentOnTrip 9 = .ok (.invokevirtual 51, 3) := by decide +kernel
theorem dX6_spentOnTrip_12 : decode cX6_spentOnTrip 12 = .ok (.if_icmp .ge 48, 3) := by decide +kernel
theorem dX6_spentOnTrip_15 : decode cX6_spentOnTrip 15 = .ok (.aload_n 0, 1) := by decide +kernel
theorem dX6_spentOnTrip_16 : decode cX6_spentOnTrip 16 = .ok (.getfield 19, 3) := by decide +kernel
theorem dX6_spentOnTrip_19 : decode cX6_spentOnTrip 19 = .ok (.iload_n 3, 1) := by decide +kernel
theorem dX6_spentOnTrip_20 : decode cX6_spentOnTrip 20 = .ok (.invokevirtual 253, 3) := by decide +kernel
theorem dX6_spentOnTrip_23 : decode cX6_spentOnTrip 23 = .ok (.checkcast 155, 3) := by decide +kernel
theorem dX6_spentOnTrip_26 : decode cX6_spentOnTrip 26 = .ok (.astore 4, 2) := by decide +kernel
theorem dX6_spentOnTrip_28 : decode cX6_spentOnTrip 28 = .ok (.aload 4, 2) := by decide +kernel
theorem dX6_spentOnTrip_30 : decode cX6_spentOnTrip 30 = .ok (.getfield 164, 3) := by decide +kernel
theorem dX6_spentOnTrip_33 : decode cX6_spentOnTrip 33 = .ok (.aload_n 1, 1) := by decide +kernel
theorem dX6_spentOnTrip_34 : decode cX6_spentOnTrip 34 = .ok (.if_acmp .ne 20, 3) := by decide +kernel
theorem dX6_spentOnTrip_37 : decode cX6_spentOnTrip 37 = .ok (.aload 4, 2) := by decide +kernel
theorem dX6_spentOnTrip_39 : decode cX6_spentOnTrip 39 = .ok (.getfield 197, 3) := by decide +kernel
theorem dX6_spentOnTrip_42 : decode cX6_spentOnTrip 42 = .ok (.iconst 3, 1) := by decide +kernel
theorem dX6_spentOnTrip_43 : decode cX6_spentOnTrip 43 = .ok (.if_icmp .eq 11, 3) := by decide +kernel
theorem dX6_spentOnTrip_46 : decode cX6_spentOnTrip 46 = .ok (.iload_n 2, 1) := by decide +kernel
theorem dX6_spentOnTrip_47 : decode cX6_spentOnTrip 47 = .ok (.aload 4, 2) := by decide +kernel
theorem dX6_spentOnTrip_49 : decode cX6_spentOnTrip 49 = .ok (.getfield 217, 3) := by decide +kernel
theorem dX6_spentOnTrip_52 : decode cX6_spentOnTrip 52 = .ok (.iadd, 1) := by decide +kernel
theorem dX6_spentOnTrip_53 : decode cX6_spentOnTrip 53 = .ok (.istore_n 2, 1) := by decide +kernel
theorem dX6_spentOnTrip_54 : decode cX6_spentOnTrip 54 = .ok (.iinc 3 1, 3) := by decide +kernel
theorem dX6_spentOnTrip_57 : decode cX6_spentOnTrip 57 = .ok (.goto (-53), 3) := by decide +kernel
theorem dX6_spentOnTrip_60 : decode cX6_spentOnTrip 60 = .ok (.iload_n 2, 1) := by decide +kernel
theorem dX6_spentOnTrip_61 : decode cX6_spentOnTrip 61 = .ok (.ireturn, 1) := by decide +kernel
theorem dX6_spentOffTrips_0 : decode cX6_spentOffTrips 0 = .ok (.iconst 0, 1) := by decide +kernel
theorem dX6_spentOffTrips_1 : decode cX6_spentOffTrips 1 = .ok (.istore_n 3, 1) := by decide +kernel
theorem dX6_spentOffTrips_2 : decode cX6_spentOffTrips 2 = .ok (.iconst 0, 1) := by decide +kernel
theorem dX6_spentOffTrips_3 : decode cX6_spentOffTrips 3 = .ok (.istore 4, 2) := by decide +kernel
theorem dX6_spentOffTrips_5 : decode cX6_spentOffTrips 5 = .ok (.iload 4, 2) := by decide +kernel
theorem dX6_spentOffTrips_7 : decode cX6_spentOffTrips 7 = .ok (.aload_n 0, 1) := by decide +kernel
theorem dX6_spentOffTrips_8 : decode cX6_spentOffTrips 8 = .ok (.getfield 19, 3) := by decide +kernel
theorem dX6_spentOffTrips_11 : decode cX6_spentOffTrips 11 = .ok (.invokevirtual 51, 3) := by decide +kernel
theorem dX6_spentOffTrips_14 : decode cX6_spentOffTrips 14 = .ok (.if_icmp .ge 93, 3) := by decide +kernel
theorem dX6_spentOffTrips_17 : decode cX6_spentOffTrips 17 = .ok (.aload_n 0, 1) := by decide +kernel
theorem dX6_spentOffTrips_18 : decode cX6_spentOffTrips 18 = .ok (.getfield 19, 3) := by decide +kernel
theorem dX6_spentOffTrips_21 : decode cX6_spentOffTrips 21 = .ok (.iload 4, 2) := by decide +kernel
theorem dX6_spentOffTrips_23 : decode cX6_spentOffTrips 23 = .ok (.invokevirtual 253, 3) := by decide +kernel
theorem dX6_spentOffTrips_26 : decode cX6_spentOffTrips 26 = .ok (.checkcast 155, 3) := by decide +kernel
theorem dX6_spentOffTrips_29 : decode cX6_spentOffTrips 29 = .ok (.astore 5, 2) := by decide +kernel
theorem dX6_spentOffTrips_31 : decode cX6_spentOffTrips 31 = .ok (.aload 5, 2) := by decide +kernel
theorem dX6_spentOffTrips_33 : decode cX6_spentOffTrips 33 = .ok (.getfield 164, 3) := by decide +kernel
theorem dX6_spentOffTrips_36 : decode cX6_spentOffTrips 36 = .ok (.ifnonnull 31, 3) := by decide +kernel
theorem dX6_spentOffTrips_39 : decode cX6_spentOffTrips 39 = .ok (.aload 5, 2) := by decide +kernel
theorem dX6_spentOffTrips_41 : decode cX6_spentOffTrips 41 = .ok (.getfield 197, 3) := by decide +kernel
theorem dX6_spentOffTrips_44 : decode cX6_spentOffTrips 44 = .ok (.iconst 3, 1) := by decide +kernel
theorem dX6_spentOffTrips_45 : decode cX6_spentOffTrips 45 = .ok (.if_icmp .eq 22, 3) := by decide +kernel
theorem dX6_spentOffTrips_48 : decode cX6_spentOffTrips 48 = .ok (.aload_n 0, 1) := by decide +kernel
theorem dX6_spentOffTrips_49 : decode cX6_spentOffTrips 49 = .ok (.getfield 43, 3) := by decide +kernel
theorem dX6_spentOffTrips_52 : decode cX6_spentOffTrips 52 = .ok (.aload 5, 2) := by decide +kernel
theorem dX6_spentOffTrips_54 : decode cX6_spentOffTrips 54 = .ok (.getfield 220, 3) := by decide +kernel
theorem dX6_spentOffTrips_57 : decode cX6_spentOffTrips 57 = .ok (.isub, 1) := by decide +kernel
theorem dX6_spentOffTrips_58 : decode cX6_spentOffTrips 58 = .ok (.bipush 10, 2) := by decide +kernel
theorem dX6_spentOffTrips_60 : decode cX6_spentOffTrips 60 = .ok (.if_icmp .ge 7, 3) := by decide +kernel
theorem dX6_spentOffTrips_63 : decode cX6_spentOffTrips 63 = .ok (.iconst 1, 1) := by decide +kernel
theorem dX6_spentOffTrips_64 : decode cX6_spentOffTrips 64 = .ok (.goto 4, 3) := by decide +kernel
theorem dX6_spentOffTrips_67 : decode cX6_spentOffTrips 67 = .ok (.iconst 0, 1) := by decide +kernel
theorem dX6_spentOffTrips_68 : decode cX6_spentOffTrips 68 = .ok (.istore 6, 2) := by decide +kernel
theorem dX6_spentOffTrips_70 : decode cX6_spentOffTrips 70 = .ok (.iload 6, 2) := by decide +kernel
theorem dX6_spentOffTrips_72 : decode cX6_spentOffTrips 72 = .ok (.ifCond .eq 29, 3) := by decide +kernel
theorem dX6_spentOffTrips_75 : decode cX6_spentOffTrips 75 = .ok (.aload 5, 2) := by decide +kernel
theorem dX6_spentOffTrips_77 : decode cX6_spentOffTrips 77 = .ok (.getfield 211, 3) := by decide +kernel
theorem dX6_spentOffTrips_80 : decode cX6_spentOffTrips 80 = .ok (.aload_n 1, 1) := by decide +kernel
theorem dX6_spentOffTrips_81 : decode cX6_spentOffTrips 81 = .ok (.if_acmp .ne 20, 3) := by decide +kernel
theorem dX6_spentOffTrips_84 : decode cX6_spentOffTrips 84 = .ok (.aload 5, 2) := by decide +kernel
theorem dX6_spentOffTrips_86 : decode cX6_spentOffTrips 86 = .ok (.getfield 214, 3) := by decide +kernel
theorem dX6_spentOffTrips_89 : decode cX6_spentOffTrips 89 = .ok (.iload_n 2, 1) := by decide +kernel
theorem dX6_spentOffTrips_90 : decode cX6_spentOffTrips 90 = .ok (.if_icmp .ne 11, 3) := by decide +kernel
theorem dX6_spentOffTrips_93 : decode cX6_spentOffTrips 93 = .ok (.iload_n 3, 1) := by decide +kernel
theorem dX6_spentOffTrips_94 : decode cX6_spentOffTrips 94 = .ok (.aload 5, 2) := by decide +kernel
theorem dX6_spentOffTrips_96 : decode cX6_spentOffTrips 96 = .ok (.getfield 217, 3) := by decide +kernel
theorem dX6_spentOffTrips_99 : decode cX6_spentOffTrips 99 = .ok (.iadd, 1) := by decide +kernel
theorem dX6_spentOffTrips_100 : decode cX6_spentOffTrips 100 = .ok (.istore_n 3, 1) := by decide +kernel
theorem dX6_spentOffTrips_101 : decode cX6_spentOffTrips 101 = .ok (.iinc 4 1, 3) := by decide +kernel
theorem dX6_spentOffTrips_104 : decode cX6_spentOffTrips 104 = .ok (.goto (-99), 3) := by decide +kernel
theorem dX6_spentOffTrips_107 : decode cX6_spentOffTrips 107 = .ok (.iload_n 3, 1) := by decide +kernel
theorem dX6_spentOffTrips_108 : decode cX6_spentOffTrips 108 = .ok (.ireturn, 1) := by decide +kernel
theorem dX6_leftOf_0 : decode cX6_leftOf 0 = .ok (.iconst 0, 1) := by decide +kernel
theorem dX6_leftOf_1 : decode cX6_leftOf 1 = .ok (.istore 4, 2) := by decide +kernel
theorem dX6_leftOf_3 : decode cX6_leftOf 3 = .ok (.iconst 0, 1) := by decide +kernel
theorem dX6_leftOf_4 : decode cX6_leftOf 4 = .ok (.istore 5, 2) := by decide +kernel
theorem dX6_leftOf_6 : decode cX6_leftOf 6 = .ok (.iload 5, 2) := by decide +kernel
theorem dX6_leftOf_8 : decode cX6_leftOf 8 = .ok (.iload_n 2, 1) := by decide +kernel
theorem dX6_leftOf_9 : decode cX6_leftOf 9 = .ok (.if_icmp .gt 54, 3) := by decide +kernel
theorem dX6_leftOf_12 : decode cX6_leftOf 12 = .ok (.iload 4, 2) := by decide +kernel
theorem dX6_leftOf_14 : decode cX6_leftOf 14 = .ok (.iconst 0, 1) := by decide +kernel
theorem dX6_leftOf_15 : decode cX6_leftOf 15 = .ok (.invokestatic 292, 3) := by decide +kernel
theorem dX6_leftOf_18 : decode cX6_leftOf 18 = .ok (.aload_n 0, 1) := by decide +kernel
theorem dX6_leftOf_19 : decode cX6_leftOf 19 = .ok (.getfield 37, 3) := by decide +kernel
theorem dX6_leftOf_22 : decode cX6_leftOf 22 = .ok (.iload_n 1, 1) := by decide +kernel
theorem dX6_leftOf_23 : decode cX6_leftOf 23 = .ok (.iconst 0, 1) := by decide +kernel
theorem dX6_leftOf_24 : decode cX6_leftOf 24 = .ok (.invokevirtual 361, 3) := by decide +kernel
theorem dX6_leftOf_27 : decode cX6_leftOf 27 = .ok (.imul, 1) := by decide +kernel
theorem dX6_leftOf_28 : decode cX6_leftOf 28 = .ok (.bipush 100, 2) := by decide +kernel
theorem dX6_leftOf_30 : decode cX6_leftOf 30 = .ok (.idiv, 1) := by decide +kernel
theorem dX6_leftOf_31 : decode cX6_leftOf 31 = .ok (.istore 6, 2) := by decide +kernel
theorem dX6_leftOf_33 : decode cX6_leftOf 33 = .ok (.aload_n 0, 1) := by decide +kernel
theorem dX6_leftOf_34 : decode cX6_leftOf 34 = .ok (.getfield 34, 3) := by decide +kernel
theorem dX6_leftOf_37 : decode cX6_leftOf 37 = .ok (.iload_n 1, 1) := by decide +kernel
theorem dX6_leftOf_38 : decode cX6_leftOf 38 = .ok (.iload 5, 2) := by decide +kernel
theorem dX6_leftOf_40 : decode cX6_leftOf 40 = .ok (.invokevirtual 361, 3) := by decide +kernel
theorem dX6_leftOf_43 : decode cX6_leftOf 43 = .ok (.iload 6, 2) := by decide +kernel
theorem dX6_leftOf_45 : decode cX6_leftOf 45 = .ok (.iadd, 1) := by decide +kernel
theorem dX6_leftOf_46 : decode cX6_leftOf 46 = .ok (.aload_n 0, 1) := by decide +kernel
theorem dX6_leftOf_47 : decode cX6_leftOf 47 = .ok (.iload_n 1, 1) := by decide +kernel
theorem dX6_leftOf_48 : decode cX6_leftOf 48 = .ok (.iload 5, 2) := by decide +kernel
theorem dX6_leftOf_50 : decode cX6_leftOf 50 = .ok (.iload_n 3, 1) := by decide +kernel
theorem dX6_leftOf_51 : decode cX6_leftOf 51 = .ok (.invokevirtual 368, 3) := by decide +kernel
theorem dX6_leftOf_54 : decode cX6_leftOf 54 = .ok (.isub, 1) := by decide +kernel
theorem dX6_leftOf_55 : decode cX6_leftOf 55 = .ok (.istore 4, 2) := by decide +kernel
theorem dX6_leftOf_57 : decode cX6_leftOf 57 = .ok (.iinc 5 1, 3) := by decide +kernel
theorem dX6_leftOf_60 : decode cX6_leftOf 60 = .ok (.goto (-54), 3) := by decide +kernel
theorem dX6_leftOf_63 : decode cX6_leftOf 63 = .ok (.iload 4, 2) := by decide +kernel
theorem dX6_leftOf_65 : decode cX6_leftOf 65 = .ok (.ireturn, 1) := by decide +kernel
theorem dX6_costIn_0 : decode cX6_costIn 0 = .ok (.iconst 0, 1) := by decide +kernel
theorem dX6_costIn_1 : decode cX6_costIn 1 = .ok (.istore 4, 2) := by decide +kernel
theorem dX6_costIn_3 : decode cX6_costIn 3 = .ok (.iconst 0, 1) := by decide +kernel
theorem dX6_costIn_4 : decode cX6_costIn 4 = .ok (.istore 5, 2) := by decide +kernel
theorem dX6_costIn_6 : decode cX6_costIn 6 = .ok (.iload 5, 2) := by decide +kernel
theorem dX6_costIn_8 : decode cX6_costIn 8 = .ok (.aload_n 0, 1) := by decide +kernel
theorem dX6_costIn_9 : decode cX6_costIn 9 = .ok (.getfield 19, 3) := by decide +kernel
theorem dX6_costIn_12 : decode cX6_costIn 12 = .ok (.invokevirtual 51, 3) := by decide +kernel
theorem dX6_costIn_15 : decode cX6_costIn 15 = .ok (.if_icmp .ge 56, 3) := by decide +kernel
theorem dX6_costIn_18 : decode cX6_costIn 18 = .ok (.aload_n 0, 1) := by decide +kernel
theorem dX6_costIn_19 : decode cX6_costIn 19 = .ok (.getfield 19, 3) := by decide +kernel
theorem dX6_costIn_22 : decode cX6_costIn 22 = .ok (.iload 5, 2) := by decide +kernel
theorem dX6_costIn_24 : decode cX6_costIn 24 = .ok (.invokevirtual 253, 3) := by decide +kernel
theorem dX6_costIn_27 : decode cX6_costIn 27 = .ok (.checkcast 155, 3) := by decide +kernel
theorem dX6_costIn_30 : decode cX6_costIn 30 = .ok (.astore 6, 2) := by decide +kernel
theorem dX6_costIn_32 : decode cX6_costIn 32 = .ok (.aload 6, 2) := by decide +kernel
theorem dX6_costIn_34 : decode cX6_costIn 34 = .ok (.getfield 214, 3) := by decide +kernel
theorem dX6_costIn_37 : decode cX6_costIn 37 = .ok (.iload_n 1, 1) := by decide +kernel
theorem dX6_costIn_38 : decode cX6_costIn 38 = .ok (.if_icmp .ne 27, 3) := by decide +kernel
theorem dX6_costIn_41 : decode cX6_costIn 41 = .ok (.aload 6, 2) := by decide +kernel
theorem dX6_costIn_43 : decode cX6_costIn 43 = .ok (.getfield 220, 3) := by decide +kernel
theorem dX6_costIn_46 : decode cX6_costIn 46 = .ok (.bipush 30, 2) := by decide +kernel
theorem dX6_costIn_48 : decode cX6_costIn 48 = .ok (.idiv, 1) := by decide +kernel
theorem dX6_costIn_49 : decode cX6_costIn 49 = .ok (.iload_n 2, 1) := by decide +kernel
theorem dX6_costIn_50 : decode cX6_costIn 50 = .ok (.if_icmp .ne 15, 3) := by decide +kernel
theorem dX6_costIn_53 : decode cX6_costIn 53 = .ok (.iload 4, 2) := by decide +kernel
theorem dX6_costIn_55 : decode cX6_costIn 55 = .ok (.aload_n 0, 1) := by decide +kernel
theorem dX6_costIn_56 : decode cX6_costIn 56 = .ok (.aload 6, 2) := by decide +kernel
theorem dX6_costIn_58 : decode cX6_costIn 58 = .ok (.iload_n 3, 1) := by decide +kernel
theorem dX6_costIn_59 : decode cX6_costIn 59 = .ok (.invokevirtual 231, 3) := by decide +kernel
theorem dX6_costIn_62 : decode cX6_costIn 62 = .ok (.iadd, 1) := by decide +kernel
theorem dX6_costIn_63 : decode cX6_costIn 63 = .ok (.istore 4, 2) := by decide +kernel
theorem dX6_costIn_65 : decode cX6_costIn 65 = .ok (.iinc 5 1, 3) := by decide +kernel
theorem dX6_costIn_68 : decode cX6_costIn 68 = .ok (.goto (-62), 3) := by decide +kernel
theorem dX6_costIn_71 : decode cX6_costIn 71 = .ok (.iload 4, 2) := by decide +kernel
theorem dX6_costIn_73 : decode cX6_costIn 73 = .ok (.ireturn, 1) := by decide +kernel
theorem dX6_costOf_0 : decode cX6_costOf 0 = .ok (.aload_n 1, 1) := by decide +kernel
theorem dX6_costOf_1 : decode cX6_costOf 1 = .ok (.getfield 197, 3) := by decide +kernel
theorem dX6_costOf_4 : decode cX6_costOf 4 = .ok (.tableswitch 67 0 3 #[45, 32, 32, 43], 32) := by decide +kernel
theorem dX6_costOf_36 : decode cX6_costOf 36 = .ok (.aload_n 1, 1) := by decide +kernel
theorem dX6_costOf_37 : decode cX6_costOf 37 = .ok (.getfield 217, 3) := by decide +kernel
theorem dX6_costOf_40 : decode cX6_costOf 40 = .ok (.aload_n 0, 1) := by decide +kernel
theorem dX6_costOf_41 : decode cX6_costOf 41 = .ok (.aload_n 1, 1) := by decide +kernel
theorem dX6_costOf_42 : decode cX6_costOf 42 = .ok (.invokevirtual 227, 3) := by decide +kernel
theorem dX6_costOf_45 : decode cX6_costOf 45 = .ok (.isub, 1) := by decide +kernel
theorem dX6_costOf_46 : decode cX6_costOf 46 = .ok (.ireturn, 1) := by decide +kernel
theorem dX6_costOf_47 : decode cX6_costOf 47 = .ok (.iconst 0, 1) := by decide +kernel
theorem dX6_costOf_48 : decode cX6_costOf 48 = .ok (.ireturn, 1) := by decide +kernel
theorem dX6_costOf_49 : decode cX6_costOf 49 = .ok (.iload_n 2, 1) := by decide +kernel
theorem dX6_costOf_50 : decode cX6_costOf 50 = .ok (.ifCond .eq 16, 3) := by decide +kernel
theorem dX6_costOf_53 : decode cX6_costOf 53 = .ok (.aload_n 1, 1) := by decide +kernel
theorem dX6_costOf_54 : decode cX6_costOf 54 = .ok (.getfield 217, 3) := by decide +kernel
theorem dX6_costOf_57 : decode cX6_costOf 57 = .ok (.aload_n 0, 1) := by decide +kernel
theorem dX6_costOf_58 : decode cX6_costOf 58 = .ok (.aload_n 1, 1) := by decide +kernel
theorem dX6_costOf_59 : decode cX6_costOf 59 = .ok (.invokevirtual 227, 3) := by decide +kernel
theorem dX6_costOf_62 : decode cX6_costOf 62 = .ok (.isub, 1) := by decide +kernel
theorem dX6_costOf_63 : decode cX6_costOf 63 = .ok (.goto 7, 3) := by decide +kernel
theorem dX6_costOf_66 : decode cX6_costOf 66 = .ok (.aload_n 1, 1) := by decide +kernel
theorem dX6_costOf_67 : decode cX6_costOf 67 = .ok (.getfield 217, 3) := by decide +kernel
theorem dX6_costOf_70 : decode cX6_costOf 70 = .ok (.ireturn, 1) := by decide +kernel
theorem dX6_costOf_71 : decode cX6_costOf 71 = .ok (.aload_n 1, 1) := by decide +kernel
theorem dX6_costOf_72 : decode cX6_costOf 72 = .ok (.getfield 217, 3) := by decide +kernel
theorem dX6_costOf_75 : decode cX6_costOf 75 = .ok (.ireturn, 1) := by decide +kernel
theorem dX6_taxOf_0 : decode cX6_taxOf 0 = .ok (.aload_n 0, 1) := by decide +kernel
theorem dX6_taxOf_1 : decode cX6_taxOf 1 = .ok (.getfield 40, 3) := by decide +kernel
theorem dX6_taxOf_4 : decode cX6_taxOf 4 = .ok (.aload_n 1, 1) := by decide +kernel
theorem dX6_taxOf_5 : decode cX6_taxOf 5 = .ok (.getfield 371, 3) := by decide +kernel
theorem dX6_taxOf_8 : decode cX6_taxOf 8 = .ok (.aload_n 1, 1) := by decide +kernel
theorem dX6_taxOf_9 : decode cX6_taxOf 9 = .ok (.getfield 214, 3) := by decide +kernel
theorem dX6_taxOf_12 : decode cX6_taxOf 12 = .ok (.invokevirtual 361, 3) := by decide +kernel
theorem dX6_taxOf_15 : decode cX6_taxOf 15 = .ok (.istore_n 2, 1) := by decide +kernel
theorem dX6_taxOf_16 : decode cX6_taxOf 16 = .ok (.bipush 100, 2) := by decide +kernel
theorem dX6_taxOf_18 : decode cX6_taxOf 18 = .ok (.iload_n 2, 1) := by decide +kernel
theorem dX6_taxOf_19 : decode cX6_taxOf 19 = .ok (.iadd, 1) := by decide +kernel
theorem dX6_taxOf_20 : decode cX6_taxOf 20 = .ok (.istore_n 3, 1) := by decide +kernel
theorem dX6_taxOf_21 : decode cX6_taxOf 21 = .ok (.iload_n 3, 1) := by decide +kernel
theorem dX6_taxOf_22 : decode cX6_taxOf 22 = .ok (.ifCond .le 14, 3) := by decide +kernel
theorem dX6_taxOf_25 : decode cX6_taxOf 25 = .ok (.aload_n 1, 1) := by decide +kernel
theorem dX6_taxOf_26 : decode cX6_taxOf 26 = .ok (.getfield 217, 3) := by decide +kernel
theorem dX6_taxOf_29 : decode cX6_taxOf 29 = .ok (.iload_n 2, 1) := by decide +kernel
theorem dX6_taxOf_30 : decode cX6_taxOf 30 = .ok (.imul, 1) := by decide +kernel
theorem dX6_taxOf_31 : decode cX6_taxOf 31 = .ok (.iload_n 3, 1) := by decide +kernel
theorem dX6_taxOf_32 : decode cX6_taxOf 32 = .ok (.idiv, 1) := by decide +kernel
theorem dX6_taxOf_33 : decode cX6_taxOf 33 = .ok (.goto 4, 3) := by decide +kernel
theorem dX6_taxOf_36 : decode cX6_taxOf 36 = .ok (.iconst 0, 1) := by decide +kernel
theorem dX6_taxOf_37 : decode cX6_taxOf 37 = .ok (.ireturn, 1) := by decide +kernel
theorem dX6_matchPairs_0 : decode cX6_matchPairs 0 = .ok (.iconst 1, 1) := by decide +kernel
theorem dX6_matchPairs_1 : decode cX6_matchPairs 1 = .ok (.istore_n 1, 1) := by decide +kernel
theorem dX6_matchPairs_2 : decode cX6_matchPairs 2 = .ok (.iconst 0, 1) := by decide +kernel
theorem dX6_matchPairs_3 : decode cX6_matchPairs 3 = .ok (.istore_n 2, 1) := by decide +kernel
theorem dX6_matchPairs_4 : decode cX6_matchPairs 4 = .ok (.iload_n 2, 1) := by decide +kernel
theorem dX6_matchPairs_5 : decode cX6_matchPairs 5 = .ok (.bipush 30, 2) := by decide +kernel
theorem dX6_matchPairs_7 : decode cX6_matchPairs 7 = .ok (.if_icmp .ge 18, 3) := by decide +kernel
theorem dX6_matchPairs_10 : decode cX6_matchPairs 10 = .ok (.iload_n 1, 1) := by decide +kernel
theorem dX6_matchPairs_11 : decode cX6_matchPairs 11 = .ok (.ifCond .eq 14, 3) := by decide +kernel
theorem dX6_matchPairs_14 : decode cX6_matchPairs 14 = .ok (.aload_n 0, 1) := by decide +kernel
theorem dX6_matchPairs_15 : decode cX6_matchPairs 15 = .ok (.invokevirtual 372, 3) := by decide +kernel
theorem dX6_matchPairs_18 : decode cX6_matchPairs 18 = .ok (.istore_n 1, 1) := by decide +kernel
theorem dX6_matchPairs_19 : decode cX6_matchPairs 19 = .ok (.iinc 2 1, 3) := by decide +kernel
theorem dX6_matchPairs_22 : decode cX6_matchPairs 22 = .ok (.goto (-18), 3) := by decide +kernel
theorem dX6_matchPairs_25 : decode cX6_matchPairs 25 = .ok (.return_, 1) := by decide +kernel
theorem dX6_matchBestPair_0 : decode cX6_matchBestPair 0 = .ok (.aconst_null, 1) := by decide +kernel
theorem dX6_matchBestPair_1 : decode cX6_matchBestPair 1 = .ok (.astore_n 1, 1) := by decide +kernel
theorem dX6_matchBestPair_2 : decode cX6_matchBestPair 2 = .ok (.aconst_null, 1) := by decide +kernel
theorem dX6_matchBestPair_3 : decode cX6_matchBestPair 3 = .ok (.astore_n 2, 1) := by decide +kernel
theorem dX6_matchBestPair_4 : decode cX6_matchBestPair 4 = .ok (.iconst (-1), 1) := by decide +kernel
theorem dX6_matchBestPair_5 : decode cX6_matchBestPair 5 = .ok (.istore_n 3, 1) := by decide +kernel
theorem dX6_matchBestPair_6 : decode cX6_matchBestPair 6 = .ok (.iconst 0, 1) := by decide +kernel
theorem dX6_matchBestPair_7 : decode cX6_matchBestPair 7 = .ok (.istore 4, 2) := by decide +kernel
theorem dX6_matchBestPair_9 : decode cX6_matchBestPair 9 = .ok (.iload 4, 2) := by decide +kernel
theorem dX6_matchBestPair_11 : decode cX6_matchBestPair 11 = .ok (.aload_n 0, 1) := by decide +kernel
theorem dX6_matchBestPair_12 : decode cX6_matchBestPair 12 = .ok (.getfield 19, 3) := by decide +kernel
theorem dX6_matchBestPair_15 : decode cX6_matchBestPair 15 = .ok (.invokevirtual 51, 3) := by decide +kernel
theorem dX6_matchBestPair_18 : decode cX6_matchBestPair 18 = .ok (.if_icmp .ge 61, 3) := by decide +kernel
theorem dX6_matchBestPair_21 : decode cX6_matchBestPair 21 = .ok (.aload_n 0, 1) := by decide +kernel
theorem dX6_matchBestPair_22 : decode cX6_matchBestPair 22 = .ok (.getfield 19, 3) := by decide +kernel
theorem dX6_matchBestPair_25 : decode cX6_matchBestPair 25 = .ok (.iload 4, 2) := by decide +kernel
theorem dX6_matchBestPair_27 : decode cX6_matchBestPair 27 = .ok (.invokevirtual 253, 3) := by decide +kernel
theorem dX6_matchBestPair_30 : decode cX6_matchBestPair 30 = .ok (.checkcast 155, 3) := by decide +kernel
theorem dX6_matchBestPair_33 : decode cX6_matchBestPair 33 = .ok (.astore 5, 2) := by decide +kernel
theorem dX6_matchBestPair_35 : decode cX6_matchBestPair 35 = .ok (.aload_n 0, 1) := by decide +kernel
theorem dX6_matchBestPair_36 : decode cX6_matchBestPair 36 = .ok (.aload 5, 2) := by decide +kernel
theorem dX6_matchBestPair_38 : decode cX6_matchBestPair 38 = .ok (.invokevirtual 375, 3) := by decide +kernel
theorem dX6_matchBestPair_41 : decode cX6_matchBestPair 41 = .ok (.astore 6, 2) := by decide +kernel
theorem dX6_matchBestPair_43 : decode cX6_matchBestPair 43 = .ok (.aload 6, 2) := by decide +kernel
theorem dX6_matchBestPair_45 : decode cX6_matchBestPair 45 = .ok (.ifnull 28, 3) := by decide +kernel
theorem dX6_matchBestPair_48 : decode cX6_matchBestPair 48 = .ok (.aload 5, 2) := by decide +kernel
theorem dX6_matchBestPair_50 : decode cX6_matchBestPair 50 = .ok (.aload 6, 2) := by decide +kernel
theorem dX6_matchBestPair_52 : decode cX6_matchBestPair 52 = .ok (.invokestatic 247, 3) := by decide +kernel
theorem dX6_matchBestPair_55 : decode cX6_matchBestPair 55 = .ok (.iload_n 3, 1) := by decide +kernel
theorem dX6_matchBestPair_56 : decode cX6_matchBestPair 56 = .ok (.if_icmp .le 17, 3) := by decide +kernel
theorem dX6_matchBestPair_59 : decode cX6_matchBestPair 59 = .ok (.aload 5, 2) := by decide +kernel
theorem dX6_matchBestPair_61 : decode cX6_matchBestPair 61 = .ok (.astore_n 1, 1) := by decide +kernel
theorem dX6_matchBestPair_62 : decode cX6_matchBestPair 62 = .ok (.aload 6, 2) := by decide +kernel
theorem dX6_matchBestPair_64 : decode cX6_matchBestPair 64 = .ok (.astore_n 2, 1) := by decide +kernel
theorem dX6_matchBestPair_65 : decode cX6_matchBestPair 65 = .ok (.aload 5, 2) := by decide +kernel
theorem dX6_matchBestPair_67 : decode cX6_matchBestPair 67 = .ok (.aload 6, 2) := by decide +kernel
theorem dX6_matchBestPair_69 : decode cX6_matchBestPair 69 = .ok (.invokestatic 247, 3) := by decide +kernel
theorem dX6_matchBestPair_72 : decode cX6_matchBestPair 72 = .ok (.istore_n 3, 1) := by decide +kernel
theorem dX6_matchBestPair_73 : decode cX6_matchBestPair 73 = .ok (.iinc 4 1, 3) := by decide +kernel
theorem dX6_matchBestPair_76 : decode cX6_matchBestPair 76 = .ok (.goto (-67), 3) := by decide +kernel
theorem dX6_matchBestPair_79 : decode cX6_matchBestPair 79 = .ok (.aload_n 1, 1) := by decide +kernel
theorem dX6_matchBestPair_80 : decode cX6_matchBestPair 80 = .ok (.ifnull 7, 3) := by decide +kernel
theorem dX6_matchBestPair_83 : decode cX6_matchBestPair 83 = .ok (.aload_n 2, 1) := by decide +kernel
theorem dX6_matchBestPair_84 : decode cX6_matchBestPair 84 = .ok (.ifnonnull 5, 3) := by decide +kernel
theorem dX6_matchBestPair_87 : decode cX6_matchBestPair 87 = .ok (.iconst 0, 1) := by decide +kernel
theorem dX6_matchBestPair_88 : decode cX6_matchBestPair 88 = .ok (.ireturn, 1) := by decide +kernel
theorem dX6_matchBestPair_89 : decode cX6_matchBestPair 89 = .ok (.aload_n 0, 1) := by decide +kernel
theorem dX6_matchBestPair_90 : decode cX6_matchBestPair 90 = .ok (.aload_n 1, 1) := by decide +kernel
theorem dX6_matchBestPair_91 : decode cX6_matchBestPair 91 = .ok (.aload_n 2, 1) := by decide +kernel
theorem dX6_matchBestPair_92 : decode cX6_matchBestPair 92 = .ok (.invokevirtual 379, 3) := by decide +kernel
theorem dX6_matchBestPair_95 : decode cX6_matchBestPair 95 = .ok (.iconst 1, 1) := by decide +kernel
theorem dX6_matchBestPair_96 : decode cX6_matchBestPair 96 = .ok (.ireturn, 1) := by decide +kernel
theorem dX6_bestReceiptFor_0 : decode cX6_bestReceiptFor 0 = .ok (.aconst_null, 1) := by decide +kernel
theorem dX6_bestReceiptFor_1 : decode cX6_bestReceiptFor 1 = .ok (.astore_n 2, 1) := by decide +kernel
theorem dX6_bestReceiptFor_2 : decode cX6_bestReceiptFor 2 = .ok (.iconst (-1), 1) := by decide +kernel
theorem dX6_bestReceiptFor_3 : decode cX6_bestReceiptFor 3 = .ok (.istore_n 3, 1) := by decide +kernel
theorem dX6_bestReceiptFor_4 : decode cX6_bestReceiptFor 4 = .ok (.iconst 0, 1) := by decide +kernel
theorem dX6_bestReceiptFor_5 : decode cX6_bestReceiptFor 5 = .ok (.istore 4, 2) := by decide +kernel
theorem dX6_bestReceiptFor_7 : decode cX6_bestReceiptFor 7 = .ok (.iload 4, 2) := by decide +kernel
theorem dX6_bestReceiptFor_9 : decode cX6_bestReceiptFor 9 = .ok (.aload_n 0, 1) := by decide +kernel
theorem dX6_bestReceiptFor_10 : decode cX6_bestReceiptFor 10 = .ok (.getfield 22, 3) := by decide +kernel
theorem dX6_bestReceiptFor_13 : decode cX6_bestReceiptFor 13 = .ok (.invokevirtual 51, 3) := by decide +kernel
theorem dX6_bestReceiptFor_16 : decode cX6_bestReceiptFor 16 = .ok (.if_icmp .ge 52, 3) := by decide +kernel
theorem dX6_bestReceiptFor_19 : decode cX6_bestReceiptFor 19 = .ok (.aload_n 0, 1) := by decide +kernel
theorem dX6_bestReceiptFor_20 : decode cX6_bestReceiptFor 20 = .ok (.getfield 22, 3) := by decide +kernel
theorem dX6_bestReceiptFor_23 : decode cX6_bestReceiptFor 23 = .ok (.iload 4, 2) := by decide +kernel
theorem dX6_bestReceiptFor_25 : decode cX6_bestReceiptFor 25 = .ok (.invokevirtual 253, 3) := by decide +kernel
theorem dX6_bestReceiptFor_28 : decode cX6_bestReceiptFor 28 = .ok (.checkcast 177, 3) := by decide +kernel
theorem dX6_bestReceiptFor_31 : decode cX6_bestReceiptFor 31 = .ok (.astore 5, 2) := by decide +kernel
theorem dX6_bestReceiptFor_33 : decode cX6_bestReceiptFor 33 = .ok (.aload_n 1, 1) := by decide +kernel
theorem dX6_bestReceiptFor_34 : decode cX6_bestReceiptFor 34 = .ok (.aload 5, 2) := by decide +kernel
theorem dX6_bestReceiptFor_36 : decode cX6_bestReceiptFor 36 = .ok (.invokestatic 278, 3) := by decide +kernel
theorem dX6_bestReceiptFor_39 : decode cX6_bestReceiptFor 39 = .ok (.ifCond .eq 23, 3) := by decide +kernel
theorem dX6_bestReceiptFor_42 : decode cX6_bestReceiptFor 42 = .ok (.aload_n 1, 1) := by decide +kernel
theorem dX6_bestReceiptFor_43 : decode cX6_bestReceiptFor 43 = .ok (.aload 5, 2) := by decide +kernel
theorem dX6_bestReceiptFor_45 : decode cX6_bestReceiptFor 45 = .ok (.invokestatic 247, 3) := by decide +kernel
theorem dX6_bestReceiptFor_48 : decode cX6_bestReceiptFor 48 = .ok (.iload_n 3, 1) := by decide +kernel
theorem dX6_bestReceiptFor_49 : decode cX6_bestReceiptFor 49 = .ok (.if_icmp .le 13, 3) := by decide +kernel
theorem dX6_bestReceiptFor_52 : decode cX6_bestReceiptFor 52 = .ok (.aload 5, 2) := by decide +kernel
theorem dX6_bestReceiptFor_54 : decode cX6_bestReceiptFor 54 = .ok (.astore_n 2, 1) := by decide +kernel
theorem dX6_bestReceiptFor_55 : decode cX6_bestReceiptFor 55 = .ok (.aload_n 1, 1) := by decide +kernel
theorem dX6_bestReceiptFor_56 : decode cX6_bestReceiptFor 56 = .ok (.aload 5, 2) := by decide +kernel
theorem dX6_bestReceiptFor_58 : decode cX6_bestReceiptFor 58 = .ok (.invokestatic 247, 3) := by decide +kernel
theorem dX6_bestReceiptFor_61 : decode cX6_bestReceiptFor 61 = .ok (.istore_n 3, 1) := by decide +kernel
theorem dX6_bestReceiptFor_62 : decode cX6_bestReceiptFor 62 = .ok (.iinc 4 1, 3) := by decide +kernel
theorem dX6_bestReceiptFor_65 : decode cX6_bestReceiptFor 65 = .ok (.goto (-58), 3) := by decide +kernel
theorem dX6_bestReceiptFor_68 : decode cX6_bestReceiptFor 68 = .ok (.aload_n 2, 1) := by decide +kernel
theorem dX6_bestReceiptFor_69 : decode cX6_bestReceiptFor 69 = .ok (.areturn, 1) := by decide +kernel
theorem dX6_match_0 : decode cX6_match 0 = .ok (.aload_n 1, 1) := by decide +kernel
theorem dX6_match_1 : decode cX6_match 1 = .ok (.iconst 1, 1) := by decide +kernel
theorem dX6_match_2 : decode cX6_match 2 = .ok (.putfield 197, 3) := by decide +kernel
theorem dX6_match_5 : decode cX6_match 5 = .ok (.aload_n 1, 1) := by decide +kernel
theorem dX6_match_6 : decode cX6_match 6 = .ok (.aload_n 2, 1) := by decide +kernel
theorem dX6_match_7 : decode cX6_match 7 = .ok (.putfield 223, 3) := by decide +kernel
theorem dX6_match_10 : decode cX6_match 10 = .ok (.aload_n 2, 1) := by decide +kernel
theorem dX6_match_11 : decode cX6_match 11 = .ok (.aload_n 1, 1) := by decide +kernel
theorem dX6_match_12 : decode cX6_match 12 = .ok (.putfield 182, 3) := by decide +kernel
theorem dX6_match_15 : decode cX6_match 15 = .ok (.aload_n 0, 1) := by decide +kernel
theorem dX6_match_16 : decode cX6_match 16 = .ok (.getfield 43, 3) := by decide +kernel
theorem dX6_match_19 : decode cX6_match 19 = .ok (.aload_n 1, 1) := by decide +kernel
theorem dX6_match_20 : decode cX6_match 20 = .ok (.getfield 220, 3) := by decide +kernel
theorem dX6_match_23 : decode cX6_match 23 = .ok (.isub, 1) := by decide +kernel
theorem dX6_match_24 : decode cX6_match 24 = .ok (.bipush 7, 2) := by decide +kernel
theorem dX6_match_26 : decode cX6_match 26 = .ok (.if_icmp .gt 10, 3) := by decide +kernel
theorem dX6_match_29 : decode cX6_match 29 = .ok (.aload_n 1, 1) := by decide +kernel
theorem dX6_match_30 : decode cX6_match 30 = .ok (.getfield 211, 3) := by decide +kernel
theorem dX6_match_33 : decode cX6_match 33 = .ok (.invokevirtual 383, 3) := by decide +kernel
theorem dX6_match_36 : decode cX6_match 36 = .ok (.return_, 1) := by decide +kernel
theorem dX6_goTogether_0 : decode cX6_goTogether 0 = .ok (.aload_n 0, 1) := by decide +kernel
theorem dX6_goTogether_1 : decode cX6_goTogether 1 = .ok (.getfield 197, 3) := by decide +kernel
theorem dX6_goTogether_4 : decode cX6_goTogether 4 = .ok (.ifCond .ne 31, 3) := by decide +kernel
theorem dX6_goTogether_7 : decode cX6_goTogether 7 = .ok (.aload_n 1, 1) := by decide +kernel
theorem dX6_goTogether_8 : decode cX6_goTogether 8 = .ok (.getfield 182, 3) := by decide +kernel
theorem dX6_goTogether_11 : decode cX6_goTogether 11 = .ok (.ifnonnull 24, 3) := by decide +kernel
theorem dX6_goTogether_14 : decode cX6_goTogether 14 = .ok (.aload_n 0, 1) := by decide +kernel
theorem dX6_goTogether_15 : decode cX6_goTogether 15 = .ok (.aload_n 1, 1) := by decide +kernel
theorem dX6_goTogether_16 : decode cX6_goTogether 16 = .ok (.invokevirtual 386, 3) := by decide +kernel
theorem dX6_goTogether_19 : decode cX6_goTogether 19 = .ok (.ifCond .ne 16, 3) := by decide +kernel
theorem dX6_goTogether_22 : decode cX6_goTogether 22 = .ok (.aload_n 0, 1) := by decide +kernel
theorem dX6_goTogether_23 : decode cX6_goTogether 23 = .ok (.aload_n 1, 1) := by decide +kernel
theorem dX6_goTogether_24 : decode cX6_goTogether 24 = .ok (.invokestatic 247, 3) := by decide +kernel
theorem dX6_goTogether_27 : decode cX6_goTogether 27 = .ok (.iconst (-1), 1) := by decide +kernel
theorem dX6_goTogether_28 : decode cX6_goTogether 28 = .ok (.if_icmp .eq 7, 3) := by decide +kernel
theorem dX6_goTogether_31 : decode cX6_goTogether 31 = .ok (.iconst 1, 1) := by decide +kernel
theorem dX6_goTogether_32 : decode cX6_goTogether 32 = .ok (.goto 4, 3) := by decide +kernel
theorem dX6_goTogether_35 : decode cX6_goTogether 35 = .ok (.iconst 0, 1) := by decide +kernel
theorem dX6_goTogether_36 : decode cX6_goTogether 36 = .ok (.ireturn, 1) := by decide +kernel
theorem dX6_scoreOf_0 : decode cX6_scoreOf 0 = .ok (.aload_n 0, 1) := by decide +kernel
theorem dX6_scoreOf_1 : decode cX6_scoreOf 1 = .ok (.getfield 217, 3) := by decide +kernel
theorem dX6_scoreOf_4 : decode cX6_scoreOf 4 = .ok (.aload_n 1, 1) := by decide +kernel
theorem dX6_scoreOf_5 : decode cX6_scoreOf 5 = .ok (.getfield 390, 3) := by decide +kernel
theorem dX6_scoreOf_8 : decode cX6_scoreOf 8 = .ok (.isub, 1) := by decide +kernel
theorem dX6_scoreOf_9 : decode cX6_scoreOf 9 = .ok (.invokestatic 391, 3) := by decide +kernel
theorem dX6_scoreOf_12 : decode cX6_scoreOf 12 = .ok (.istore_n 2, 1) := by decide +kernel
theorem dX6_scoreOf_13 : decode cX6_scoreOf 13 = .ok (.aload_n 0, 1) := by decide +kernel
theorem dX6_scoreOf_14 : decode cX6_scoreOf 14 = .ok (.getfield 220, 3) := by decide +kernel
theorem dX6_scoreOf_17 : decode cX6_scoreOf 17 = .ok (.aload_n 1, 1) := by decide +kernel
theorem dX6_scoreOf_18 : decode cX6_scoreOf 18 = .ok (.getfield 394, 3) := by decide +kernel
theorem dX6_scoreOf_21 : decode cX6_scoreOf 21 = .ok (.isub, 1) := by decide +kernel
theorem dX6_scoreOf_22 : decode cX6_scoreOf 22 = .ok (.invokestatic 391, 3) := by decide +kernel
theorem dX6_scoreOf_25 : decode cX6_scoreOf 25 = .ok (.istore_n 3, 1) := by decide +kernel
theorem dX6_scoreOf_26 : decode cX6_scoreOf 26 = .ok (.iload_n 2, 1) := by decide +kernel
theorem dX6_scoreOf_27 : decode cX6_scoreOf 27 = .ok (.bipush 10, 2) := by decide +kernel
theorem dX6_scoreOf_29 : decode cX6_scoreOf 29 = .ok (.if_icmp .gt 8, 3) := by decide +kernel
theorem dX6_scoreOf_32 : decode cX6_scoreOf 32 = .ok (.iload_n 3, 1) := by decide +kernel
theorem dX6_scoreOf_33 : decode cX6_scoreOf 33 = .ok (.iconst 3, 1) := by decide +kernel
theorem dX6_scoreOf_34 : decode cX6_scoreOf 34 = .ok (.if_icmp .le 5, 3) := by decide +kernel
theorem dX6_scoreOf_37 : decode cX6_scoreOf 37 = .ok (.iconst (-1), 1) := by decide +kernel
theorem dX6_scoreOf_38 : decode cX6_scoreOf 38 = .ok (.ireturn, 1) := by decide +kernel
theorem dX6_scoreOf_39 : decode cX6_scoreOf 39 = .ok (.bipush 40, 2) := by decide +kernel
theorem dX6_scoreOf_41 : decode cX6_scoreOf 41 = .ok (.iconst 2, 1) := by decide +kernel
theorem dX6_scoreOf_42 : decode cX6_scoreOf 42 = .ok (.iload_n 2, 1) := by decide +kernel
theorem dX6_scoreOf_43 : decode cX6_scoreOf 43 = .ok (.imul, 1) := by decide +kernel
theorem dX6_scoreOf_44 : decode cX6_scoreOf 44 = .ok (.isub, 1) := by decide +kernel
theorem dX6_scoreOf_45 : decode cX6_scoreOf 45 = .ok (.iconst 5, 1) := by decide +kernel
theorem dX6_scoreOf_46 : decode cX6_scoreOf 46 = .ok (.iload_n 3, 1) := by decide +kernel
theorem dX6_scoreOf_47 : decode cX6_scoreOf 47 = .ok (.imul, 1) := by decide +kernel
theorem dX6_scoreOf_48 : decode cX6_scoreOf 48 = .ok (.isub, 1) := by decide +kernel
theorem dX6_scoreOf_49 : decode cX6_scoreOf 49 = .ok (.istore 4, 2) := by decide +kernel
theorem dX6_scoreOf_51 : decode cX6_scoreOf 51 = .ok (.aload_n 0, 1) := by decide +kernel
theorem dX6_scoreOf_52 : decode cX6_scoreOf 52 = .ok (.getfield 395, 3) := by decide +kernel
theorem dX6_scoreOf_55 : decode cX6_scoreOf 55 = .ok (.aload_n 1, 1) := by decide +kernel
theorem dX6_scoreOf_56 : decode cX6_scoreOf 56 = .ok (.getfield 398, 3) := by decide +kernel
theorem dX6_scoreOf_59 : decode cX6_scoreOf 59 = .ok (.if_icmp .ne 11, 3) := by decide +kernel
theorem dX6_scoreOf_62 : decode cX6_scoreOf 62 = .ok (.iload 4, 2) := by decide +kernel
theorem dX6_scoreOf_64 : decode cX6_scoreOf 64 = .ok (.bipush 20, 2) := by decide +kernel
theorem dX6_scoreOf_66 : decode cX6_scoreOf 66 = .ok (.iadd, 1) := by decide +kernel
theorem dX6_scoreOf_67 : decode cX6_scoreOf 67 = .ok (.goto 5, 3) := by decide +kernel
theorem dX6_scoreOf_70 : decode cX6_scoreOf 70 = .ok (.iload 4, 2) := by decide +kernel
theorem dX6_scoreOf_72 : decode cX6_scoreOf 72 = .ok (.ireturn, 1) := by decide +kernel
theorem dX6_passSteps_0 : decode cX6_passSteps 0 = .ok (.iconst 0, 1) := by decide +kernel
theorem dX6_passSteps_1 : decode cX6_passSteps 1 = .ok (.istore_n 1, 1) := by decide +kernel
theorem dX6_passSteps_2 : decode cX6_passSteps 2 = .ok (.iload_n 1, 1) := by decide +kernel
theorem dX6_passSteps_3 : decode cX6_passSteps 3 = .ok (.aload_n 0, 1) := by decide +kernel
theorem dX6_passSteps_4 : decode cX6_passSteps 4 = .ok (.getfield 19, 3) := by decide +kernel
theorem dX6_passSteps_7 : decode cX6_passSteps 7 = .ok (.invokevirtual 51, 3) := by decide +kernel
theorem dX6_passSteps_10 : decode cX6_passSteps 10 = .ok (.if_icmp .ge 34, 3) := by decide +kernel
theorem dX6_passSteps_13 : decode cX6_passSteps 13 = .ok (.aload_n 0, 1) := by decide +kernel
theorem dX6_passSteps_14 : decode cX6_passSteps 14 = .ok (.getfield 19, 3) := by decide +kernel
theorem dX6_passSteps_17 : decode cX6_passSteps 17 = .ok (.iload_n 1, 1) := by decide +kernel
theorem dX6_passSteps_18 : decode cX6_passSteps 18 = .ok (.invokevirtual 253, 3) := by decide +kernel
theorem dX6_passSteps_21 : decode cX6_passSteps 21 = .ok (.checkcast 155, 3) := by decide +kernel
theorem dX6_passSteps_24 : decode cX6_passSteps 24 = .ok (.astore_n 2, 1) := by decide +kernel
theorem dX6_passSteps_25 : decode cX6_passSteps 25 = .ok (.aload_n 2, 1) := by decide +kernel
theorem dX6_passSteps_26 : decode cX6_passSteps 26 = .ok (.getfield 197, 3) := by decide +kernel
theorem dX6_passSteps_29 : decode cX6_passSteps 29 = .ok (.iconst 1, 1) := by decide +kernel
theorem dX6_passSteps_30 : decode cX6_passSteps 30 = .ok (.if_icmp .ne 8, 3) := by decide +kernel
theorem dX6_passSteps_33 : decode cX6_passSteps 33 = .ok (.aload_n 0, 1) := by decide +kernel
theorem dX6_passSteps_34 : decode cX6_passSteps 34 = .ok (.aload_n 2, 1) := by decide +kernel
theorem dX6_passSteps_35 : decode cX6_passSteps 35 = .ok (.invokevirtual 399, 3) := by decide +kernel
theorem dX6_passSteps_38 : decode cX6_passSteps 38 = .ok (.iinc 1 1, 3) := by decide +kernel
theorem dX6_passSteps_41 : decode cX6_passSteps 41 = .ok (.goto (-39), 3) := by decide +kernel
theorem dX6_passSteps_44 : decode cX6_passSteps 44 = .ok (.return_, 1) := by decide +kernel
theorem dX6_passStepsOf_0 : decode cX6_passStepsOf 0 = .ok (.aload_n 1, 1) := by decide +kernel
theorem dX6_passStepsOf_1 : decode cX6_passStepsOf 1 = .ok (.invokevirtual 402, 3) := by decide +kernel
theorem dX6_passStepsOf_4 : decode cX6_passStepsOf 4 = .ok (.istore_n 2, 1) := by decide +kernel
theorem dX6_passStepsOf_5 : decode cX6_passStepsOf 5 = .ok (.aload_n 1, 1) := by decide +kernel
theorem dX6_passStepsOf_6 : decode cX6_passStepsOf 6 = .ok (.getfield 204, 3) := by decide +kernel
theorem dX6_passStepsOf_9 : decode cX6_passStepsOf 9 = .ok (.iload_n 2, 1) := by decide +kernel
theorem dX6_passStepsOf_10 : decode cX6_passStepsOf 10 = .ok (.if_icmp .ge 24, 3) := by decide +kernel
theorem dX6_passStepsOf_13 : decode cX6_passStepsOf 13 = .ok (.aload_n 0, 1) := by decide +kernel
theorem dX6_passStepsOf_14 : decode cX6_passStepsOf 14 = .ok (.aload_n 1, 1) := by decide +kernel
theorem dX6_passStepsOf_15 : decode cX6_passStepsOf 15 = .ok (.invokevirtual 235, 3) := by decide +kernel
theorem dX6_passStepsOf_18 : decode cX6_passStepsOf 18 = .ok (.ifnonnull 16, 3) := by decide +kernel
theorem dX6_passStepsOf_21 : decode cX6_passStepsOf 21 = .ok (.aload_n 1, 1) := by decide +kernel
theorem dX6_passStepsOf_22 : decode cX6_passStepsOf 22 = .ok (.dup, 1) := by decide +kernel
theorem dX6_passStepsOf_23 : decode cX6_passStepsOf 23 = .ok (.getfield 204, 3) := by decide +kernel
theorem dX6_passStepsOf_26 : decode cX6_passStepsOf 26 = .ok (.iconst 1, 1) := by decide +kernel
theorem dX6_passStepsOf_27 : decode cX6_passStepsOf 27 = .ok (.iadd, 1) := by decide +kernel
theorem dX6_passStepsOf_28 : decode cX6_passStepsOf 28 = .ok (.putfield 204, 3) := by decide +kernel
theorem dX6_passStepsOf_31 : decode cX6_passStepsOf 31 = .ok (.goto (-26), 3) := by decide +kernel
theorem dX6_passStepsOf_34 : decode cX6_passStepsOf 34 = .ok (.aload_n 1, 1) := by decide +kernel
theorem dX6_passStepsOf_35 : decode cX6_passStepsOf 35 = .ok (.getfield 204, 3) := by decide +kernel
theorem dX6_passStepsOf_38 : decode cX6_passStepsOf 38 = .ok (.iload_n 2, 1) := by decide +kernel
theorem dX6_passStepsOf_39 : decode cX6_passStepsOf 39 = .ok (.if_icmp .lt 8, 3) := by decide +kernel
theorem dX6_passStepsOf_42 : decode cX6_passStepsOf 42 = .ok (.aload_n 1, 1) := by decide +kernel
theorem dX6_passStepsOf_43 : decode cX6_passStepsOf 43 = .ok (.iconst 2, 1) := by decide +kernel
theorem dX6_passStepsOf_44 : decode cX6_passStepsOf 44 = .ok (.putfield 197, 3) := by decide +kernel
theorem dX6_passStepsOf_47 : decode cX6_passStepsOf 47 = .ok (.return_, 1) := by decide +kernel
theorem dX6_nextApproverOf_0 : decode cX6_nextApproverOf 0 = .ok (.aload_n 1, 1) := by decide +kernel
theorem dX6_nextApproverOf_1 : decode cX6_nextApproverOf 1 = .ok (.getfield 197, 3) := by decide +kernel
theorem dX6_nextApproverOf_4 : decode cX6_nextApproverOf 4 = .ok (.iconst 1, 1) := by decide +kernel
theorem dX6_nextApproverOf_5 : decode cX6_nextApproverOf 5 = .ok (.if_icmp .ne 10, 3) := by decide +kernel
theorem dX6_nextApproverOf_8 : decode cX6_nextApproverOf 8 = .ok (.aload_n 1, 1) := by decide +kernel
theorem dX6_nextApproverOf_9 : decode cX6_nextApproverOf 9 = .ok (.invokevirtual 405, 3) := by decide +kernel
theorem dX6_nextApproverOf_12 : decode cX6_nextApproverOf 12 = .ok (.goto 4, 3) := by decide +kernel
theorem dX6_nextApproverOf_15 : decode cX6_nextApproverOf 15 = .ok (.aconst_null, 1) := by decide +kernel
theorem dX6_nextApproverOf_16 : decode cX6_nextApproverOf 16 = .ok (.astore_n 2, 1) := by decide +kernel
theorem dX6_nextApproverOf_17 : decode cX6_nextApproverOf 17 = .ok (.aload_n 2, 1) := by decide +kernel
theorem dX6_nextApproverOf_18 : decode cX6_nextApproverOf 18 = .ok (.ifnull 14, 3) := by decide +kernel
theorem dX6_nextApproverOf_21 : decode cX6_nextApproverOf 21 = .ok (.aload_n 2, 1) := by decide +kernel
theorem dX6_nextApproverOf_22 : decode cX6_nextApproverOf 22 = .ok (.aload_n 0, 1) := by decide +kernel
theorem dX6_nextApproverOf_23 : decode cX6_nextApproverOf 23 = .ok (.getfield 43, 3) := by decide +kernel
theorem dX6_nextApproverOf_26 : decode cX6_nextApproverOf 26 = .ok (.invokevirtual 91, 3) := by decide +kernel
theorem dX6_nextApproverOf_29 : decode cX6_nextApproverOf 29 = .ok (.ifCond .ne 5, 3) := by decide +kernel
theorem dX6_nextApproverOf_32 : decode cX6_nextApproverOf 32 = .ok (.aload_n 2, 1) := by decide +kernel
theorem dX6_nextApproverOf_33 : decode cX6_nextApproverOf 33 = .ok (.areturn, 1) := by decide +kernel
theorem dX6_nextApproverOf_34 : decode cX6_nextApproverOf 34 = .ok (.aload_n 2, 1) := by decide +kernel
theorem dX6_nextApproverOf_35 : decode cX6_nextApproverOf 35 = .ok (.getfield 98, 3) := by decide +kernel
theorem dX6_nextApproverOf_38 : decode cX6_nextApproverOf 38 = .ok (.astore_n 3, 1) := by decide +kernel
theorem dX6_nextApproverOf_39 : decode cX6_nextApproverOf 39 = .ok (.aload_n 3, 1) := by decide +kernel
theorem dX6_nextApproverOf_40 : decode cX6_nextApproverOf 40 = .ok (.ifnull 22, 3) := by decide +kernel
theorem dX6_nextApproverOf_43 : decode cX6_nextApproverOf 43 = .ok (.aload_n 3, 1) := by decide +kernel
theorem dX6_nextApproverOf_44 : decode cX6_nextApproverOf 44 = .ok (.aload_n 1, 1) := by decide +kernel
theorem dX6_nextApproverOf_45 : decode cX6_nextApproverOf 45 = .ok (.getfield 211, 3) := by decide +kernel
theorem dX6_nextApproverOf_48 : decode cX6_nextApproverOf 48 = .ok (.if_acmp .eq 14, 3) := by decide +kernel
theorem dX6_nextApproverOf_51 : decode cX6_nextApproverOf 51 = .ok (.aload_n 3, 1) := by decide +kernel
theorem dX6_nextApproverOf_52 : decode cX6_nextApproverOf 52 = .ok (.aload_n 0, 1) := by decide +kernel
theorem dX6_nextApproverOf_53 : decode cX6_nextApproverOf 53 = .ok (.getfield 43, 3) := by decide +kernel
theorem dX6_nextApproverOf_56 : decode cX6_nextApproverOf 56 = .ok (.invokevirtual 91, 3) := by decide +kernel
theorem dX6_nextApproverOf_59 : decode cX6_nextApproverOf 59 = .ok (.ifCond .eq 5, 3) := by decide +kernel
theorem dX6_nextApproverOf_62 : decode cX6_nextApproverOf 62 = .ok (.aconst_null, 1) := by decide +kernel
theorem dX6_nextApproverOf_63 : decode cX6_nextApproverOf 63 = .ok (.areturn, 1) := by decide +kernel
theorem dX6_nextApproverOf_64 : decode cX6_nextApproverOf 64 = .ok (.aload_n 3, 1) := by decide +kernel
theorem dX6_nextApproverOf_65 : decode cX6_nextApproverOf 65 = .ok (.areturn, 1) := by decide +kernel
theorem dX6_isOverdue_0 : decode cX6_isOverdue 0 = .ok (.aload_n 0, 1) := by decide +kernel
theorem dX6_isOverdue_1 : decode cX6_isOverdue 1 = .ok (.getfield 43, 3) := by decide +kernel
theorem dX6_isOverdue_4 : decode cX6_isOverdue 4 = .ok (.aload_n 1, 1) := by decide +kernel
theorem dX6_isOverdue_5 : decode cX6_isOverdue 5 = .ok (.getfield 220, 3) := by decide +kernel
theorem dX6_isOverdue_8 : decode cX6_isOverdue 8 = .ok (.isub, 1) := by decide +kernel
theorem dX6_isOverdue_9 : decode cX6_isOverdue 9 = .ok (.istore_n 2, 1) := by decide +kernel
theorem dX6_isOverdue_10 : decode cX6_isOverdue 10 = .ok (.aload_n 1, 1) := by decide +kernel
theorem dX6_isOverdue_11 : decode cX6_isOverdue 11 = .ok (.getfield 197, 3) := by decide +kernel
theorem dX6_isOverdue_14 : decode cX6_isOverdue 14 = .ok (.ifCond .ne 19, 3) := by decide +kernel
theorem dX6_isOverdue_17 : decode cX6_isOverdue 17 = .ok (.iload_n 2, 1) := by decide +kernel
theorem dX6_isOverdue_18 : decode cX6_isOverdue 18 = .ok (.bipush 8, 2) := by decide +kernel
theorem dX6_isOverdue_20 : decode cX6_isOverdue 20 = .ok (.if_icmp .eq 9, 3) := by decide +kernel
theorem dX6_isOverdue_23 : decode cX6_isOverdue 23 = .ok (.iload_n 2, 1) := by decide +kernel
theorem dX6_isOverdue_24 : decode cX6_isOverdue 24 = .ok (.bipush 15, 2) := by decide +kernel
theorem dX6_isOverdue_26 : decode cX6_isOverdue 26 = .ok (.if_icmp .lt 7, 3) := by decide +kernel
theorem dX6_isOverdue_29 : decode cX6_isOverdue 29 = .ok (.iconst 1, 1) := by decide +kernel
theorem dX6_isOverdue_30 : decode cX6_isOverdue 30 = .ok (.goto 4, 3) := by decide +kernel
theorem dX6_isOverdue_33 : decode cX6_isOverdue 33 = .ok (.iconst 0, 1) := by decide +kernel
theorem dX6_isOverdue_34 : decode cX6_isOverdue 34 = .ok (.ireturn, 1) := by decide +kernel
theorem dX6_bearDelay_0 : decode cX6_bearDelay 0 = .ok (.aload_n 0, 1) := by decide +kernel
theorem dX6_bearDelay_1 : decode cX6_bearDelay 1 = .ok (.getfield 43, 3) := by decide +kernel
theorem dX6_bearDelay_4 : decode cX6_bearDelay 4 = .ok (.aload_n 1, 1) := by decide +kernel
theorem dX6_bearDelay_5 : decode cX6_bearDelay 5 = .ok (.getfield 220, 3) := by decide +kernel
theorem dX6_bearDelay_8 : decode cX6_bearDelay 8 = .ok (.isub, 1) := by decide +kernel
theorem dX6_bearDelay_9 : decode cX6_bearDelay 9 = .ok (.bipush 15, 2) := by decide +kernel
theorem dX6_bearDelay_11 : decode cX6_bearDelay 11 = .ok (.if_icmp .lt 11, 3) := by decide +kernel
theorem dX6_bearDelay_14 : decode cX6_bearDelay 14 = .ok (.aload_n 1, 1) := by decide +kernel
theorem dX6_bearDelay_15 : decode cX6_bearDelay 15 = .ok (.iconst 3, 1) := by decide +kernel
theorem dX6_bearDelay_16 : decode cX6_bearDelay 16 = .ok (.putfield 197, 3) := by decide +kernel
theorem dX6_bearDelay_19 : decode cX6_bearDelay 19 = .ok (.goto 8, 3) := by decide +kernel
theorem dX6_bearDelay_22 : decode cX6_bearDelay 22 = .ok (.aload_n 1, 1) := by decide +kernel
theorem dX6_bearDelay_23 : decode cX6_bearDelay 23 = .ok (.iconst 1, 1) := by decide +kernel
theorem dX6_bearDelay_24 : decode cX6_bearDelay 24 = .ok (.putfield 239, 3) := by decide +kernel
theorem dX6_bearDelay_27 : decode cX6_bearDelay 27 = .ok (.aload_n 1, 1) := by decide +kernel
theorem dX6_bearDelay_28 : decode cX6_bearDelay 28 = .ok (.getfield 211, 3) := by decide +kernel
theorem dX6_bearDelay_31 : decode cX6_bearDelay 31 = .ok (.invokevirtual 409, 3) := by decide +kernel
theorem dX6_bearDelay_34 : decode cX6_bearDelay 34 = .ok (.return_, 1) := by decide +kernel
theorem dX6_trustLostBy_0 : decode cX6_trustLostBy 0 = .ok (.aload_n 1, 1) := by decide +kernel
theorem dX6_trustLostBy_1 : decode cX6_trustLostBy 1 = .ok (.getfield 220, 3) := by decide +kernel
theorem dX6_trustLostBy_4 : decode cX6_trustLostBy 4 = .ok (.bipush 8, 2) := by decide +kernel
theorem dX6_trustLostBy_6 : decode cX6_trustLostBy 6 = .ok (.iadd, 1) := by decide +kernel
theorem dX6_trustLostBy_7 : decode cX6_trustLostBy 7 = .ok (.istore_n 3, 1) := by decide +kernel
theorem dX6_trustLostBy_8 : decode cX6_trustLostBy 8 = .ok (.aload_n 1, 1) := by decide +kernel
theorem dX6_trustLostBy_9 : decode cX6_trustLostBy 9 = .ok (.getfield 220, 3) := by decide +kernel
theorem dX6_trustLostBy_12 : decode cX6_trustLostBy 12 = .ok (.bipush 15, 2) := by decide +kernel
theorem dX6_trustLostBy_14 : decode cX6_trustLostBy 14 = .ok (.iadd, 1) := by decide +kernel
theorem dX6_trustLostBy_15 : decode cX6_trustLostBy 15 = .ok (.aload_n 0, 1) := by decide +kernel
theorem dX6_trustLostBy_16 : decode cX6_trustLostBy 16 = .ok (.getfield 43, 3) := by decide +kernel
theorem dX6_trustLostBy_19 : decode cX6_trustLostBy 19 = .ok (.iconst 1, 1) := by decide +kernel
theorem dX6_trustLostBy_20 : decode cX6_trustLostBy 20 = .ok (.iadd, 1) := by decide +kernel
theorem dX6_trustLostBy_21 : decode cX6_trustLostBy 21 = .ok (.invokestatic 292, 3) := by decide +kernel
theorem dX6_trustLostBy_24 : decode cX6_trustLostBy 24 = .ok (.istore 4, 2) := by decide +kernel
theorem dX6_trustLostBy_26 : decode cX6_trustLostBy 26 = .ok (.iconst 0, 1) := by decide +kernel
theorem dX6_trustLostBy_27 : decode cX6_trustLostBy 27 = .ok (.istore 5, 2) := by decide +kernel
theorem dX6_trustLostBy_29 : decode cX6_trustLostBy 29 = .ok (.iload_n 3, 1) := by decide +kernel
theorem dX6_trustLostBy_30 : decode cX6_trustLostBy 30 = .ok (.aload_n 0, 1) := by decide +kernel
theorem dX6_trustLostBy_31 : decode cX6_trustLostBy 31 = .ok (.getfield 43, 3) := by decide +kernel
theorem dX6_trustLostBy_34 : decode cX6_trustLostBy 34 = .ok (.if_icmp .le 11, 3) := by decide +kernel
theorem dX6_trustLostBy_37 : decode cX6_trustLostBy 37 = .ok (.iload_n 3, 1) := by decide +kernel
theorem dX6_trustLostBy_38 : decode cX6_trustLostBy 38 = .ok (.iload_n 2, 1) := by decide +kernel
theorem dX6_trustLostBy_39 : decode cX6_trustLostBy 39 = .ok (.if_icmp .gt 6, 3) := by decide +kernel
theorem dX6_trustLostBy_42 : decode cX6_trustLostBy 42 = .ok (.iinc 5 1, 3) := by decide +kernel
theorem dX6_trustLostBy_45 : decode cX6_trustLostBy 45 = .ok (.iload 4, 2) := by decide +kernel
theorem dX6_trustLostBy_47 : decode cX6_trustLostBy 47 = .ok (.iload_n 2, 1) := by decide +kernel
theorem dX6_trustLostBy_48 : decode cX6_trustLostBy 48 = .ok (.if_icmp .gt 6, 3) := by decide +kernel
theorem dX6_trustLostBy_51 : decode cX6_trustLostBy 51 = .ok (.iinc 5 1, 3) := by decide +kernel
theorem dX6_trustLostBy_54 : decode cX6_trustLostBy 54 = .ok (.iload 5, 2) := by decide +kernel
theorem dX6_trustLostBy_56 : decode cX6_trustLostBy 56 = .ok (.ireturn, 1) := by decide +kernel
theorem dX6_countInState_0 : decode cX6_countInState 0 = .ok (.iconst 0, 1) := by decide +kernel
theorem dX6_countInState_1 : decode cX6_countInState 1 = .ok (.istore_n 2, 1) := by decide +kernel
theorem dX6_countInState_2 : decode cX6_countInState 2 = .ok (.iconst 0, 1) := by decide +kernel
theorem dX6_countInState_3 : decode cX6_countInState 3 = .ok (.istore_n 3, 1) := by decide +kernel
theorem dX6_countInState_4 : decode cX6_countInState 4 = .ok (.iload_n 3, 1) := by decide +kernel
theorem dX6_countInState_5 : decode cX6_countInState 5 = .ok (.aload_n 0, 1) := by decide +kernel
theorem dX6_countInState_6 : decode cX6_countInState 6 = .ok (.getfield 19, 3) := by decide +kernel
theorem dX6_countInState_9 : decode cX6_countInState 9 = .ok (.invokevirtual 51, 3) := by decide +kernel
theorem dX6_countInState_12 : decode cX6_countInState 12 = .ok (.if_icmp .ge 30, 3) := by decide +kernel
theorem dX6_countInState_15 : decode cX6_countInState 15 = .ok (.aload_n 0, 1) := by decide +kernel
theorem dX6_countInState_16 : decode cX6_countInState 16 = .ok (.getfield 19, 3) := by decide +kernel
theorem dX6_countInState_19 : decode cX6_countInState 19 = .ok (.iload_n 3, 1) := by decide +kernel
theorem dX6_countInState_20 : decode cX6_countInState 20 = .ok (.invokevirtual 253, 3) := by decide +kernel
theorem dX6_countInState_23 : decode cX6_countInState 23 = .ok (.checkcast 155, 3) := by decide +kernel
theorem dX6_countInState_26 : decode cX6_countInState 26 = .ok (.getfield 197, 3) := by decide +kernel
theorem dX6_countInState_29 : decode cX6_countInState 29 = .ok (.iload_n 1, 1) := by decide +kernel
theorem dX6_countInState_30 : decode cX6_countInState 30 = .ok (.if_icmp .ne 6, 3) := by decide +kernel
theorem dX6_countInState_33 : decode cX6_countInState 33 = .ok (.iinc 2 1, 3) := by decide +kernel
theorem dX6_countInState_36 : decode cX6_countInState 36 = .ok (.iinc 3 1, 3) := by decide +kernel
theorem dX6_countInState_39 : decode cX6_countInState 39 = .ok (.goto (-35), 3) := by decide +kernel
theorem dX6_countInState_42 : decode cX6_countInState 42 = .ok (.iload_n 2, 1) := by decide +kernel
theorem dX6_countInState_43 : decode cX6_countInState 43 = .ok (.ireturn, 1) := by decide +kernel
theorem dX6_countOpenOf_0 : decode cX6_countOpenOf 0 = .ok (.iconst 0, 1) := by decide +kernel
theorem dX6_countOpenOf_1 : decode cX6_countOpenOf 1 = .ok (.istore_n 2, 1) := by decide +kernel
theorem dX6_countOpenOf_2 : decode cX6_countOpenOf 2 = .ok (.iconst 0, 1) := by decide +kernel
theorem dX6_countOpenOf_3 : decode cX6_countOpenOf 3 = .ok (.istore_n 3, 1) := by decide +kernel
theorem dX6_countOpenOf_4 : decode cX6_countOpenOf 4 = .ok (.iload_n 3, 1) := by decide +kernel
theorem dX6_countOpenOf_5 : decode cX6_countOpenOf 5 = .ok (.aload_n 0, 1) := by decide +kernel
theorem dX6_countOpenOf_6 : decode cX6_countOpenOf 6 = .ok (.getfield 19, 3) := by decide +kernel
theorem dX6_countOpenOf_9 : decode cX6_countOpenOf 9 = .ok (.invokevirtual 51, 3) := by decide +kernel
theorem dX6_countOpenOf_12 : decode cX6_countOpenOf 12 = .ok (.if_icmp .ge 42, 3) := by decide +kernel
theorem dX6_countOpenOf_15 : decode cX6_countOpenOf 15 = .ok (.aload_n 0, 1) := by decide +kernel
theorem dX6_countOpenOf_16 : decode cX6_countOpenOf 16 = .ok (.getfield 19, 3) := by decide +kernel
theorem dX6_countOpenOf_19 : decode cX6_countOpenOf 19 = .ok (.iload_n 3, 1) := by decide +kernel
theorem dX6_countOpenOf_20 : decode cX6_countOpenOf 20 = .ok (.invokevirtual 253, 3) := by decide +kernel
theorem dX6_countOpenOf_23 : decode cX6_countOpenOf 23 = .ok (.checkcast 155, 3) := by decide +kernel
theorem dX6_countOpenOf_26 : decode cX6_countOpenOf 26 = .ok (.astore 4, 2) := by decide +kernel
theorem dX6_countOpenOf_28 : decode cX6_countOpenOf 28 = .ok (.aload 4, 2) := by decide +kernel
theorem dX6_countOpenOf_30 : decode cX6_countOpenOf 30 = .ok (.getfield 211, 3) := by decide +kernel
theorem dX6_countOpenOf_33 : decode cX6_countOpenOf 33 = .ok (.aload_n 1, 1) := by decide +kernel
theorem dX6_countOpenOf_34 : decode cX6_countOpenOf 34 = .ok (.if_acmp .ne 14, 3) := by decide +kernel
theorem dX6_countOpenOf_37 : decode cX6_countOpenOf 37 = .ok (.aload 4, 2) := by decide +kernel
theorem dX6_countOpenOf_39 : decode cX6_countOpenOf 39 = .ok (.getfield 197, 3) := by decide +kernel
theorem dX6_countOpenOf_42 : decode cX6_countOpenOf 42 = .ok (.ifCond .ne 6, 3) := by decide +kernel
theorem dX6_countOpenOf_45 : decode cX6_countOpenOf 45 = .ok (.iinc 2 1, 3) := by decide +kernel
theorem dX6_countOpenOf_48 : decode cX6_countOpenOf 48 = .ok (.iinc 3 1, 3) := by decide +kernel
theorem dX6_countOpenOf_51 : decode cX6_countOpenOf 51 = .ok (.goto (-47), 3) := by decide +kernel
theorem dX6_countOpenOf_54 : decode cX6_countOpenOf 54 = .ok (.iload_n 2, 1) := by decide +kernel
theorem dX6_countOpenOf_55 : decode cX6_countOpenOf 55 = .ok (.ireturn, 1) := by decide +kernel
theorem dX6_repaidAmountOf_0 : decode cX6_repaidAmountOf 0 = .ok (.iconst 0, 1) := by decide +kernel
theorem dX6_repaidAmountOf_1 : decode cX6_repaidAmountOf 1 = .ok (.istore_n 2, 1) := by decide +kernel
theorem dX6_repaidAmountOf_2 : decode cX6_repaidAmountOf 2 = .ok (.iconst 0, 1) := by decide +kernel
theorem dX6_repaidAmountOf_3 : decode cX6_repaidAmountOf 3 = .ok (.istore_n 3, 1) := by decide +kernel
theorem dX6_repaidAmountOf_4 : decode cX6_repaidAmountOf 4 = .ok (.iload_n 3, 1) := by decide +kernel
theorem dX6_repaidAmountOf_5 : decode cX6_repaidAmountOf 5 = .ok (.aload_n 0, 1) := by decide +kernel
theorem dX6_repaidAmountOf_6 : decode cX6_repaidAmountOf 6 = .ok (.getfield 19, 3) := by decide +kernel
theorem dX6_repaidAmountOf_9 : decode cX6_repaidAmountOf 9 = .ok (.invokevirtual 51, 3) := by decide +kernel
theorem dX6_repaidAmountOf_12 : decode cX6_repaidAmountOf 12 = .ok (.if_icmp .ge 48, 3) := by decide +kernel
theorem dX6_repaidAmountOf_15 : decode cX6_repaidAmountOf 15 = .ok (.aload_n 0, 1) := by decide +kernel
theorem dX6_repaidAmountOf_16 : decode cX6_repaidAmountOf 16 = .ok (.getfield 19, 3) := by decide +kernel
theorem dX6_repaidAmountOf_19 : decode cX6_repaidAmountOf 19 = .ok (.iload_n 3, 1) := by decide +kernel
theorem dX6_repaidAmountOf_20 : decode cX6_repaidAmountOf 20 = .ok (.invokevirtual 253, 3) := by decide +kernel
theorem dX6_repaidAmountOf_23 : decode cX6_repaidAmountOf 23 = .ok (.checkcast 155, 3) := by decide +kernel
theorem dX6_repaidAmountOf_26 : decode cX6_repaidAmountOf 26 = .ok (.astore 4, 2) := by decide +kernel
theorem dX6_repaidAmountOf_28 : decode cX6_repaidAmountOf 28 = .ok (.aload 4, 2) := by decide +kernel
theorem dX6_repaidAmountOf_30 : decode cX6_repaidAmountOf 30 = .ok (.getfield 211, 3) := by decide +kernel
theorem dX6_repaidAmountOf_33 : decode cX6_repaidAmountOf 33 = .ok (.aload_n 1, 1) := by decide +kernel
theorem dX6_repaidAmountOf_34 : decode cX6_repaidAmountOf 34 = .ok (.if_acmp .ne 20, 3) := by decide +kernel
theorem dX6_repaidAmountOf_37 : decode cX6_repaidAmountOf 37 = .ok (.aload 4, 2) := by decide +kernel
theorem dX6_repaidAmountOf_39 : decode cX6_repaidAmountOf 39 = .ok (.getfield 197, 3) := by decide +kernel
theorem dX6_repaidAmountOf_42 : decode cX6_repaidAmountOf 42 = .ok (.iconst 3, 1) := by decide +kernel
theorem dX6_repaidAmountOf_43 : decode cX6_repaidAmountOf 43 = .ok (.if_icmp .ne 11, 3) := by decide +kernel
theorem dX6_repaidAmountOf_46 : decode cX6_repaidAmountOf 46 = .ok (.iload_n 2, 1) := by decide +kernel
theorem dX6_repaidAmountOf_47 : decode cX6_repaidAmountOf 47 = .ok (.aload 4, 2) := by decide +kernel
theorem dX6_repaidAmountOf_49 : decode cX6_repaidAmountOf 49 = .ok (.getfield 217, 3) := by decide +kernel
theorem dX6_repaidAmountOf_52 : decode cX6_repaidAmountOf 52 = .ok (.iadd, 1) := by decide +kernel
theorem dX6_repaidAmountOf_53 : decode cX6_repaidAmountOf 53 = .ok (.istore_n 2, 1) := by decide +kernel
theorem dX6_repaidAmountOf_54 : decode cX6_repaidAmountOf 54 = .ok (.iinc 3 1, 3) := by decide +kernel
theorem dX6_repaidAmountOf_57 : decode cX6_repaidAmountOf 57 = .ok (.goto (-53), 3) := by decide +kernel
theorem dX6_repaidAmountOf_60 : decode cX6_repaidAmountOf 60 = .ok (.iload_n 2, 1) := by decide +kernel
theorem dX6_repaidAmountOf_61 : decode cX6_repaidAmountOf 61 = .ok (.ireturn, 1) := by decide +kernel
theorem dX6_countToApproveBy_0 : decode cX6_countToApproveBy 0 = .ok (.iconst 0, 1) := by decide +kernel
theorem dX6_countToApproveBy_1 : decode cX6_countToApproveBy 1 = .ok (.istore_n 2, 1) := by decide +kernel
theorem dX6_countToApproveBy_2 : decode cX6_countToApproveBy 2 = .ok (.iconst 0, 1) := by decide +kernel
theorem dX6_countToApproveBy_3 : decode cX6_countToApproveBy 3 = .ok (.istore_n 3, 1) := by decide +kernel
theorem dX6_countToApproveBy_4 : decode cX6_countToApproveBy 4 = .ok (.iload_n 3, 1) := by decide +kernel
theorem dX6_countToApproveBy_5 : decode cX6_countToApproveBy 5 = .ok (.aload_n 0, 1) := by decide +kernel
theorem dX6_countToApproveBy_6 : decode cX6_countToApproveBy 6 = .ok (.getfield 19, 3) := by decide +kernel
theorem dX6_countToApproveBy_9 : decode cX6_countToApproveBy 9 = .ok (.invokevirtual 51, 3) := by decide +kernel
theorem dX6_countToApproveBy_12 : decode cX6_countToApproveBy 12 = .ok (.if_icmp .ge 31, 3) := by decide +kernel
theorem dX6_countToApproveBy_15 : decode cX6_countToApproveBy 15 = .ok (.aload_n 0, 1) := by decide +kernel
theorem dX6_countToApproveBy_16 : decode cX6_countToApproveBy 16 = .ok (.aload_n 0, 1) := by decide +kernel
theorem dX6_countToApproveBy_17 : decode cX6_countToApproveBy 17 = .ok (.getfield 19, 3) := by decide +kernel
theorem dX6_countToApproveBy_20 : decode cX6_countToApproveBy 20 = .ok (.iload_n 3, 1) := by decide +kernel
theorem dX6_countToApproveBy_21 : decode cX6_countToApproveBy 21 = .ok (.invokevirtual 253, 3) := by decide +kernel
theorem dX6_countToApproveBy_24 : decode cX6_countToApproveBy 24 = .ok (.checkcast 155, 3) := by decide +kernel
theorem dX6_countToApproveBy_27 : decode cX6_countToApproveBy 27 = .ok (.invokevirtual 235, 3) := by decide +kernel
theorem dX6_countToApproveBy_30 : decode cX6_countToApproveBy 30 = .ok (.aload_n 1, 1) := by decide +kernel
theorem dX6_countToApproveBy_31 : decode cX6_countToApproveBy 31 = .ok (.if_acmp .ne 6, 3) := by decide +kernel
theorem dX6_countToApproveBy_34 : decode cX6_countToApproveBy 34 = .ok (.iinc 2 1, 3) := by decide +kernel
theorem dX6_countToApproveBy_37 : decode cX6_countToApproveBy 37 = .ok (.iinc 3 1, 3) := by decide +kernel
theorem dX6_countToApproveBy_40 : decode cX6_countToApproveBy 40 = .ok (.goto (-36), 3) := by decide +kernel
theorem dX6_countToApproveBy_43 : decode cX6_countToApproveBy 43 = .ok (.iload_n 2, 1) := by decide +kernel
theorem dX6_countToApproveBy_44 : decode cX6_countToApproveBy 44 = .ok (.ireturn, 1) := by decide +kernel
theorem dX6_countFreeReceipts_0 : decode cX6_countFreeReceipts 0 = .ok (.iconst 0, 1) := by decide +kernel
theorem dX6_countFreeReceipts_1 : decode cX6_countFreeReceipts 1 = .ok (.istore_n 1, 1) := by decide +kernel
theorem dX6_countFreeReceipts_2 : decode cX6_countFreeReceipts 2 = .ok (.iconst 0, 1) := by decide +kernel
theorem dX6_countFreeReceipts_3 : decode cX6_countFreeReceipts 3 = .ok (.istore_n 2, 1) := by decide +kernel
theorem dX6_countFreeReceipts_4 : decode cX6_countFreeReceipts 4 = .ok (.iload_n 2, 1) := by decide +kernel
theorem dX6_countFreeReceipts_5 : decode cX6_countFreeReceipts 5 = .ok (.aload_n 0, 1) := by decide +kernel
theorem dX6_countFreeReceipts_6 : decode cX6_countFreeReceipts 6 = .ok (.getfield 22, 3) := by decide +kernel
theorem dX6_countFreeReceipts_9 : decode cX6_countFreeReceipts 9 = .ok (.invokevirtual 51, 3) := by decide +kernel
theorem dX6_countFreeReceipts_12 : decode cX6_countFreeReceipts 12 = .ok (.if_icmp .ge 29, 3) := by decide +kernel
theorem dX6_countFreeReceipts_15 : decode cX6_countFreeReceipts 15 = .ok (.aload_n 0, 1) := by decide +kernel
theorem dX6_countFreeReceipts_16 : decode cX6_countFreeReceipts 16 = .ok (.getfield 22, 3) := by decide +kernel
theorem dX6_countFreeReceipts_19 : decode cX6_countFreeReceipts 19 = .ok (.iload_n 2, 1) := by decide +kernel
theorem dX6_countFreeReceipts_20 : decode cX6_countFreeReceipts 20 = .ok (.invokevirtual 253, 3) := by decide +kernel
theorem dX6_countFreeReceipts_23 : decode cX6_countFreeReceipts 23 = .ok (.checkcast 177, 3) := by decide +kernel
theorem dX6_countFreeReceipts_26 : decode cX6_countFreeReceipts 26 = .ok (.getfield 182, 3) := by decide +kernel
theorem dX6_countFreeReceipts_29 : decode cX6_countFreeReceipts 29 = .ok (.ifnonnull 6, 3) := by decide +kernel
theorem dX6_countFreeReceipts_32 : decode cX6_countFreeReceipts 32 = .ok (.iinc 1 1, 3) := by decide +kernel
theorem dX6_countFreeReceipts_35 : decode cX6_countFreeReceipts 35 = .ok (.iinc 2 1, 3) := by decide +kernel
theorem dX6_countFreeReceipts_38 : decode cX6_countFreeReceipts 38 = .ok (.goto (-34), 3) := by decide +kernel
theorem dX6_countFreeReceipts_41 : decode cX6_countFreeReceipts 41 = .ok (.iload_n 1, 1) := by decide +kernel
theorem dX6_countFreeReceipts_42 : decode cX6_countFreeReceipts 42 = .ok (.ireturn, 1) := by decide +kernel
theorem dX6_amountNotRepaid_0 : decode cX6_amountNotRepaid 0 = .ok (.iconst 0, 1) := by decide +kernel
theorem dX6_amountNotRepaid_1 : decode cX6_amountNotRepaid 1 = .ok (.istore_n 1, 1) := by decide +kernel
theorem dX6_amountNotRepaid_2 : decode cX6_amountNotRepaid 2 = .ok (.iconst 0, 1) := by decide +kernel
theorem dX6_amountNotRepaid_3 : decode cX6_amountNotRepaid 3 = .ok (.istore_n 2, 1) := by decide +kernel
theorem dX6_amountNotRepaid_4 : decode cX6_amountNotRepaid 4 = .ok (.iload_n 2, 1) := by decide +kernel
theorem dX6_amountNotRepaid_5 : decode cX6_amountNotRepaid 5 = .ok (.aload_n 0, 1) := by decide +kernel
theorem dX6_amountNotRepaid_6 : decode cX6_amountNotRepaid 6 = .ok (.getfield 19, 3) := by decide +kernel
theorem dX6_amountNotRepaid_9 : decode cX6_amountNotRepaid 9 = .ok (.invokevirtual 51, 3) := by decide +kernel
theorem dX6_amountNotRepaid_12 : decode cX6_amountNotRepaid 12 = .ok (.if_icmp .ge 36, 3) := by decide +kernel
theorem dX6_amountNotRepaid_15 : decode cX6_amountNotRepaid 15 = .ok (.aload_n 0, 1) := by decide +kernel
theorem dX6_amountNotRepaid_16 : decode cX6_amountNotRepaid 16 = .ok (.getfield 19, 3) := by decide +kernel
theorem dX6_amountNotRepaid_19 : decode cX6_amountNotRepaid 19 = .ok (.iload_n 2, 1) := by decide +kernel
theorem dX6_amountNotRepaid_20 : decode cX6_amountNotRepaid 20 = .ok (.invokevirtual 253, 3) := by decide +kernel
theorem dX6_amountNotRepaid_23 : decode cX6_amountNotRepaid 23 = .ok (.checkcast 155, 3) := by decide +kernel
theorem dX6_amountNotRepaid_26 : decode cX6_amountNotRepaid 26 = .ok (.astore_n 3, 1) := by decide +kernel
theorem dX6_amountNotRepaid_27 : decode cX6_amountNotRepaid 27 = .ok (.aload_n 3, 1) := by decide +kernel
theorem dX6_amountNotRepaid_28 : decode cX6_amountNotRepaid 28 = .ok (.getfield 197, 3) := by decide +kernel
theorem dX6_amountNotRepaid_31 : decode cX6_amountNotRepaid 31 = .ok (.iconst 3, 1) := by decide +kernel
theorem dX6_amountNotRepaid_32 : decode cX6_amountNotRepaid 32 = .ok (.if_icmp .eq 10, 3) := by decide +kernel
theorem dX6_amountNotRepaid_35 : decode cX6_amountNotRepaid 35 = .ok (.iload_n 1, 1) := by decide +kernel
theorem dX6_amountNotRepaid_36 : decode cX6_amountNotRepaid 36 = .ok (.aload_n 3, 1) := by decide +kernel
theorem dX6_amountNotRepaid_37 : decode cX6_amountNotRepaid 37 = .ok (.getfield 217, 3) := by decide +kernel
theorem dX6_amountNotRepaid_40 : decode cX6_amountNotRepaid 40 = .ok (.iadd, 1) := by decide +kernel
theorem dX6_amountNotRepaid_41 : decode cX6_amountNotRepaid 41 = .ok (.istore_n 1, 1) := by decide +kernel
theorem dX6_amountNotRepaid_42 : decode cX6_amountNotRepaid 42 = .ok (.iinc 2 1, 3) := by decide +kernel
theorem dX6_amountNotRepaid_45 : decode cX6_amountNotRepaid 45 = .ok (.goto (-41), 3) := by decide +kernel
theorem dX6_amountNotRepaid_48 : decode cX6_amountNotRepaid 48 = .ok (.iload_n 1, 1) := by decide +kernel
theorem dX6_amountNotRepaid_49 : decode cX6_amountNotRepaid 49 = .ok (.ireturn, 1) := by decide +kernel
theorem dX6_costOfAll_0 : decode cX6_costOfAll 0 = .ok (.iconst 0, 1) := by decide +kernel
theorem dX6_costOfAll_1 : decode cX6_costOfAll 1 = .ok (.istore_n 1, 1) := by decide +kernel
theorem dX6_costOfAll_2 : decode cX6_costOfAll 2 = .ok (.iconst 0, 1) := by decide +kernel
theorem dX6_costOfAll_3 : decode cX6_costOfAll 3 = .ok (.istore_n 2, 1) := by decide +kernel
theorem dX6_costOfAll_4 : decode cX6_costOfAll 4 = .ok (.iload_n 2, 1) := by decide +kernel
theorem dX6_costOfAll_5 : decode cX6_costOfAll 5 = .ok (.aload_n 0, 1) := by decide +kernel
theorem dX6_costOfAll_6 : decode cX6_costOfAll 6 = .ok (.getfield 19, 3) := by decide +kernel
theorem dX6_costOfAll_9 : decode cX6_costOfAll 9 = .ok (.invokevirtual 51, 3) := by decide +kernel
theorem dX6_costOfAll_12 : decode cX6_costOfAll 12 = .ok (.if_icmp .ge 28, 3) := by decide +kernel
theorem dX6_costOfAll_15 : decode cX6_costOfAll 15 = .ok (.iload_n 1, 1) := by decide +kernel
theorem dX6_costOfAll_16 : decode cX6_costOfAll 16 = .ok (.aload_n 0, 1) := by decide +kernel
theorem dX6_costOfAll_17 : decode cX6_costOfAll 17 = .ok (.aload_n 0, 1) := by decide +kernel
theorem dX6_costOfAll_18 : decode cX6_costOfAll 18 = .ok (.getfield 19, 3) := by decide +kernel
theorem dX6_costOfAll_21 : decode cX6_costOfAll 21 = .ok (.iload_n 2, 1) := by decide +kernel
theorem dX6_costOfAll_22 : decode cX6_costOfAll 22 = .ok (.invokevirtual 253, 3) := by decide +kernel
theorem dX6_costOfAll_25 : decode cX6_costOfAll 25 = .ok (.checkcast 155, 3) := by decide +kernel
theorem dX6_costOfAll_28 : decode cX6_costOfAll 28 = .ok (.iconst 0, 1) := by decide +kernel
theorem dX6_costOfAll_29 : decode cX6_costOfAll 29 = .ok (.invokevirtual 231, 3) := by decide +kernel
theorem dX6_costOfAll_32 : decode cX6_costOfAll 32 = .ok (.iadd, 1) := by decide +kernel
theorem dX6_costOfAll_33 : decode cX6_costOfAll 33 = .ok (.istore_n 1, 1) := by decide +kernel
theorem dX6_costOfAll_34 : decode cX6_costOfAll 34 = .ok (.iinc 2 1, 3) := by decide +kernel
theorem dX6_costOfAll_37 : decode cX6_costOfAll 37 = .ok (.goto (-33), 3) := by decide +kernel
theorem dX6_costOfAll_40 : decode cX6_costOfAll 40 = .ok (.iload_n 1, 1) := by decide +kernel
theorem dX6_costOfAll_41 : decode cX6_costOfAll 41 = .ok (.ireturn, 1) := by decide +kernel
theorem dX6_mixed_0 : decode cX6_mixed 0 = .ok (.lload_n 0, 1) := by decide +kernel
theorem dX6_mixed_1 : decode cX6_mixed 1 = .ok (.ldc2_w 412, 3) := by decide +kernel
theorem dX6_mixed_4 : decode cX6_mixed 4 = .ok (.lmul, 1) := by decide +kernel
theorem dX6_mixed_5 : decode cX6_mixed 5 = .ok (.iload_n 2, 1) := by decide +kernel
theorem dX6_mixed_6 : decode cX6_mixed 6 = .ok (.i2l, 1) := by decide +kernel
theorem dX6_mixed_7 : decode cX6_mixed 7 = .ok (.ladd, 1) := by decide +kernel
theorem dX6_mixed_8 : decode cX6_mixed 8 = .ok (.lreturn, 1) := by decide +kernel
theorem dX6_withPeople_0 : decode cX6_withPeople 0 = .ok (.lload_n 1, 1) := by decide +kernel
theorem dX6_withPeople_1 : decode cX6_withPeople 1 = .ok (.lstore_n 3, 1) := by decide +kernel
theorem dX6_withPeople_2 : decode cX6_withPeople 2 = .ok (.iconst 0, 1) := by decide +kernel
theorem dX6_withPeople_3 : decode cX6_withPeople 3 = .ok (.istore 5, 2) := by decide +kernel
theorem dX6_withPeople_5 : decode cX6_withPeople 5 = .ok (.iload 5, 2) := by decide +kernel
theorem dX6_withPeople_7 : decode cX6_withPeople 7 = .ok (.aload_n 0, 1) := by decide +kernel
theorem dX6_withPeople_8 : decode cX6_withPeople 8 = .ok (.getfield 10, 3) := by decide +kernel
theorem dX6_withPeople_11 : decode cX6_withPeople 11 = .ok (.invokevirtual 51, 3) := by decide +kernel
theorem dX6_withPeople_14 : decode cX6_withPeople 14 = .ok (.if_icmp .ge 81, 3) := by decide +kernel
theorem dX6_withPeople_17 : decode cX6_withPeople 17 = .ok (.iconst 0, 1) := by decide +kernel
theorem dX6_withPeople_18 : decode cX6_withPeople 18 = .ok (.istore 6, 2) := by decide +kernel
theorem dX6_withPeople_20 : decode cX6_withPeople 20 = .ok (.iload 6, 2) := by decide +kernel
theorem dX6_withPeople_22 : decode cX6_withPeople 22 = .ok (.bipush 6, 2) := by decide +kernel
theorem dX6_withPeople_24 : decode cX6_withPeople 24 = .ok (.if_icmp .gt 22, 3) := by decide +kernel
theorem dX6_withPeople_27 : decode cX6_withPeople 27 = .ok (.lload_n 3, 1) := by decide +kernel
theorem dX6_withPeople_28 : decode cX6_withPeople 28 = .ok (.aload_n 0, 1) := by decide +kernel
theorem dX6_withPeople_29 : decode cX6_withPeople 29 = .ok (.iload 5, 2) := by decide +kernel
theorem dX6_withPeople_31 : decode cX6_withPeople 31 = .ok (.iload 6, 2) := by decide +kernel
theorem dX6_withPeople_33 : decode cX6_withPeople 33 = .ok (.invokevirtual 414, 3) := by decide +kernel
theorem dX6_withPeople_36 : decode cX6_withPeople 36 = .ok (.invokestatic 300, 3) := by decide +kernel
theorem dX6_withPeople_39 : decode cX6_withPeople 39 = .ok (.lstore_n 3, 1) := by decide +kernel
theorem dX6_withPeople_40 : decode cX6_withPeople 40 = .ok (.iinc 6 1, 3) := by decide +kernel
theorem dX6_withPeople_43 : decode cX6_withPeople 43 = .ok (.goto (-23), 3) := by decide +kernel
theorem dX6_withPeople_46 : decode cX6_withPeople 46 = .ok (.iconst 0, 1) := by decide +kernel
theorem dX6_withPeople_47 : decode cX6_withPeople 47 = .ok (.istore 6, 2) := by decide +kernel
theorem dX6_withPeople_49 : decode cX6_withPeople 49 = .ok (.iload 6, 2) := by decide +kernel
theorem dX6_withPeople_51 : decode cX6_withPeople 51 = .ok (.iconst 4, 1) := by decide +kernel
theorem dX6_withPeople_52 : decode cX6_withPeople 52 = .ok (.if_icmp .ge 37, 3) := by decide +kernel
theorem dX6_withPeople_55 : decode cX6_withPeople 55 = .ok (.lload_n 3, 1) := by decide +kernel
theorem dX6_withPeople_56 : decode cX6_withPeople 56 = .ok (.aload_n 0, 1) := by decide +kernel
theorem dX6_withPeople_57 : decode cX6_withPeople 57 = .ok (.iload 5, 2) := by decide +kernel
theorem dX6_withPeople_59 : decode cX6_withPeople 59 = .ok (.iload 6, 2) := by decide +kernel
theorem dX6_withPeople_61 : decode cX6_withPeople 61 = .ok (.iconst 0, 1) := by decide +kernel
theorem dX6_withPeople_62 : decode cX6_withPeople 62 = .ok (.invokevirtual 417, 3) := by decide +kernel
theorem dX6_withPeople_65 : decode cX6_withPeople 65 = .ok (.invokestatic 300, 3) := by decide +kernel
theorem dX6_withPeople_68 : decode cX6_withPeople 68 = .ok (.lstore_n 3, 1) := by decide +kernel
theorem dX6_withPeople_69 : decode cX6_withPeople 69 = .ok (.lload_n 3, 1) := by decide +kernel
theorem dX6_withPeople_70 : decode cX6_withPeople 70 = .ok (.aload_n 0, 1) := by decide +kernel
theorem dX6_withPeople_71 : decode cX6_withPeople 71 = .ok (.iload 5, 2) := by decide +kernel
theorem dX6_withPeople_73 : decode cX6_withPeople 73 = .ok (.iload 6, 2) := by decide +kernel
theorem dX6_withPeople_75 : decode cX6_withPeople 75 = .ok (.iconst 1, 1) := by decide +kernel
theorem dX6_withPeople_76 : decode cX6_withPeople 76 = .ok (.invokevirtual 417, 3) := by decide +kernel
theorem dX6_withPeople_79 : decode cX6_withPeople 79 = .ok (.invokestatic 300, 3) := by decide +kernel
theorem dX6_withPeople_82 : decode cX6_withPeople 82 = .ok (.lstore_n 3, 1) := by decide +kernel
theorem dX6_withPeople_83 : decode cX6_withPeople 83 = .ok (.iinc 6 1, 3) := by decide +kernel
theorem dX6_withPeople_86 : decode cX6_withPeople 86 = .ok (.goto (-37), 3) := by decide +kernel
theorem dX6_withPeople_89 : decode cX6_withPeople 89 = .ok (.iinc 5 1, 3) := by decide +kernel
theorem dX6_withPeople_92 : decode cX6_withPeople 92 = .ok (.goto (-87), 3) := by decide +kernel
theorem dX6_withPeople_95 : decode cX6_withPeople 95 = .ok (.lload_n 3, 1) := by decide +kernel
theorem dX6_withPeople_96 : decode cX6_withPeople 96 = .ok (.lreturn, 1) := by decide +kernel
theorem dX6_withBudgets_0 : decode cX6_withBudgets 0 = .ok (.lload_n 1, 1) := by decide +kernel
theorem dX6_withBudgets_1 : decode cX6_withBudgets 1 = .ok (.lstore_n 3, 1) := by decide +kernel
theorem dX6_withBudgets_2 : decode cX6_withBudgets 2 = .ok (.iconst 0, 1) := by decide +kernel
theorem dX6_withBudgets_3 : decode cX6_withBudgets 3 = .ok (.istore 5, 2) := by decide +kernel
theorem dX6_withBudgets_5 : decode cX6_withBudgets 5 = .ok (.iload 5, 2) := by decide +kernel
theorem dX6_withBudgets_7 : decode cX6_withBudgets 7 = .ok (.iconst 4, 1) := by decide +kernel
theorem dX6_withBudgets_8 : decode cX6_withBudgets 8 = .ok (.if_icmp .ge 52, 3) := by decide +kernel
theorem dX6_withBudgets_11 : decode cX6_withBudgets 11 = .ok (.iconst 0, 1) := by decide +kernel
theorem dX6_withBudgets_12 : decode cX6_withBudgets 12 = .ok (.istore 6, 2) := by decide +kernel
theorem dX6_withBudgets_14 : decode cX6_withBudgets 14 = .ok (.iload 6, 2) := by decide +kernel
theorem dX6_withBudgets_16 : decode cX6_withBudgets 16 = .ok (.iconst 4, 1) := by decide +kernel
theorem dX6_withBudgets_17 : decode cX6_withBudgets 17 = .ok (.if_icmp .ge 37, 3) := by decide +kernel
theorem dX6_withBudgets_20 : decode cX6_withBudgets 20 = .ok (.lload_n 3, 1) := by decide +kernel
theorem dX6_withBudgets_21 : decode cX6_withBudgets 21 = .ok (.aload_n 0, 1) := by decide +kernel
theorem dX6_withBudgets_22 : decode cX6_withBudgets 22 = .ok (.iload 5, 2) := by decide +kernel
theorem dX6_withBudgets_24 : decode cX6_withBudgets 24 = .ok (.iload 6, 2) := by decide +kernel
theorem dX6_withBudgets_26 : decode cX6_withBudgets 26 = .ok (.iconst 0, 1) := by decide +kernel
theorem dX6_withBudgets_27 : decode cX6_withBudgets 27 = .ok (.invokevirtual 147, 3) := by decide +kernel
theorem dX6_withBudgets_30 : decode cX6_withBudgets 30 = .ok (.invokestatic 300, 3) := by decide +kernel
theorem dX6_withBudgets_33 : decode cX6_withBudgets 33 = .ok (.lstore_n 3, 1) := by decide +kernel
theorem dX6_withBudgets_34 : decode cX6_withBudgets 34 = .ok (.lload_n 3, 1) := by decide +kernel
theorem dX6_withBudgets_35 : decode cX6_withBudgets 35 = .ok (.aload_n 0, 1) := by decide +kernel
theorem dX6_withBudgets_36 : decode cX6_withBudgets 36 = .ok (.iload 5, 2) := by decide +kernel
theorem dX6_withBudgets_38 : decode cX6_withBudgets 38 = .ok (.iload 6, 2) := by decide +kernel
theorem dX6_withBudgets_40 : decode cX6_withBudgets 40 = .ok (.iconst 1, 1) := by decide +kernel
theorem dX6_withBudgets_41 : decode cX6_withBudgets 41 = .ok (.invokevirtual 147, 3) := by decide +kernel
theorem dX6_withBudgets_44 : decode cX6_withBudgets 44 = .ok (.invokestatic 300, 3) := by decide +kernel
theorem dX6_withBudgets_47 : decode cX6_withBudgets 47 = .ok (.lstore_n 3, 1) := by decide +kernel
theorem dX6_withBudgets_48 : decode cX6_withBudgets 48 = .ok (.iinc 6 1, 3) := by decide +kernel
theorem dX6_withBudgets_51 : decode cX6_withBudgets 51 = .ok (.goto (-37), 3) := by decide +kernel
theorem dX6_withBudgets_54 : decode cX6_withBudgets 54 = .ok (.iinc 5 1, 3) := by decide +kernel
theorem dX6_withBudgets_57 : decode cX6_withBudgets 57 = .ok (.goto (-52), 3) := by decide +kernel
theorem dX6_withBudgets_60 : decode cX6_withBudgets 60 = .ok (.lload_n 3, 1) := by decide +kernel
theorem dX6_withBudgets_61 : decode cX6_withBudgets 61 = .ok (.lreturn, 1) := by decide +kernel
theorem dX6_withCharges_0 : decode cX6_withCharges 0 = .ok (.lload_n 1, 1) := by decide +kernel
theorem dX6_withCharges_1 : decode cX6_withCharges 1 = .ok (.lstore_n 3, 1) := by decide +kernel
theorem dX6_withCharges_2 : decode cX6_withCharges 2 = .ok (.iconst 0, 1) := by decide +kernel
theorem dX6_withCharges_3 : decode cX6_withCharges 3 = .ok (.istore 5, 2) := by decide +kernel
theorem dX6_withCharges_5 : decode cX6_withCharges 5 = .ok (.iload 5, 2) := by decide +kernel
theorem dX6_withCharges_7 : decode cX6_withCharges 7 = .ok (.aload_n 0, 1) := by decide +kernel
theorem dX6_withCharges_8 : decode cX6_withCharges 8 = .ok (.getfield 19, 3) := by decide +kernel
theorem dX6_withCharges_11 : decode cX6_withCharges 11 = .ok (.invokevirtual 51, 3) := by decide +kernel
theorem dX6_withCharges_14 : decode cX6_withCharges 14 = .ok (.if_icmp .ge 38, 3) := by decide +kernel
theorem dX6_withCharges_17 : decode cX6_withCharges 17 = .ok (.iconst 0, 1) := by decide +kernel
theorem dX6_withCharges_18 : decode cX6_withCharges 18 = .ok (.istore 6, 2) := by decide +kernel
theorem dX6_withCharges_20 : decode cX6_withCharges 20 = .ok (.iload 6, 2) := by decide +kernel
theorem dX6_withCharges_22 : decode cX6_withCharges 22 = .ok (.bipush 11, 2) := by decide +kernel
theorem dX6_withCharges_24 : decode cX6_withCharges 24 = .ok (.if_icmp .gt 22, 3) := by decide +kernel
theorem dX6_withCharges_27 : decode cX6_withCharges 27 = .ok (.lload_n 3, 1) := by decide +kernel
theorem dX6_withCharges_28 : decode cX6_withCharges 28 = .ok (.aload_n 0, 1) := by decide +kernel
theorem dX6_withCharges_29 : decode cX6_withCharges 29 = .ok (.iload 5, 2) := by decide +kernel
theorem dX6_withCharges_31 : decode cX6_withCharges 31 = .ok (.iload 6, 2) := by decide +kernel
theorem dX6_withCharges_33 : decode cX6_withCharges 33 = .ok (.invokevirtual 420, 3) := by decide +kernel
theorem dX6_withCharges_36 : decode cX6_withCharges 36 = .ok (.invokestatic 300, 3) := by decide +kernel
theorem dX6_withCharges_39 : decode cX6_withCharges 39 = .ok (.lstore_n 3, 1) := by decide +kernel
theorem dX6_withCharges_40 : decode cX6_withCharges 40 = .ok (.iinc 6 1, 3) := by decide +kernel
theorem dX6_withCharges_43 : decode cX6_withCharges 43 = .ok (.goto (-23), 3) := by decide +kernel
theorem dX6_withCharges_46 : decode cX6_withCharges 46 = .ok (.iinc 5 1, 3) := by decide +kernel
theorem dX6_withCharges_49 : decode cX6_withCharges 49 = .ok (.goto (-44), 3) := by decide +kernel
theorem dX6_withCharges_52 : decode cX6_withCharges 52 = .ok (.lload_n 3, 1) := by decide +kernel
theorem dX6_withCharges_53 : decode cX6_withCharges 53 = .ok (.lreturn, 1) := by decide +kernel
theorem dX7_init_0 : decode cX7_init 0 = .ok (.aload_n 0, 1) := by decide +kernel
theorem dX7_init_1 : decode cX7_init 1 = .ok (.invokespecial 3, 3) := by decide +kernel
theorem dX7_init_4 : decode cX7_init 4 = .ok (.aload_n 0, 1) := by decide +kernel
theorem dX7_init_5 : decode cX7_init 5 = .ok (.bipush 31, 2) := by decide +kernel
theorem dX7_init_7 : decode cX7_init 7 = .ok (.newarray .boolean, 2) := by decide +kernel
theorem dX7_init_9 : decode cX7_init 9 = .ok (.putfield 9, 3) := by decide +kernel
theorem dX7_init_12 : decode cX7_init 12 = .ok (.aload_n 0, 1) := by decide +kernel
theorem dX7_init_13 : decode cX7_init 13 = .ok (.iconst 0, 1) := by decide +kernel
theorem dX7_init_14 : decode cX7_init 14 = .ok (.putfield 15, 3) := by decide +kernel
theorem dX7_init_17 : decode cX7_init 17 = .ok (.aload_n 0, 1) := by decide +kernel
theorem dX7_init_18 : decode cX7_init 18 = .ok (.iconst (-1), 1) := by decide +kernel
theorem dX7_init_19 : decode cX7_init 19 = .ok (.putfield 19, 3) := by decide +kernel
theorem dX7_init_22 : decode cX7_init 22 = .ok (.aload_n 0, 1) := by decide +kernel
theorem dX7_init_23 : decode cX7_init 23 = .ok (.iload_n 1, 1) := by decide +kernel
theorem dX7_init_24 : decode cX7_init 24 = .ok (.putfield 22, 3) := by decide +kernel
theorem dX7_init_27 : decode cX7_init 27 = .ok (.aload_n 0, 1) := by decide +kernel
theorem dX7_init_28 : decode cX7_init 28 = .ok (.iload_n 2, 1) := by decide +kernel
theorem dX7_init_29 : decode cX7_init 29 = .ok (.putfield 25, 3) := by decide +kernel
theorem dX7_init_32 : decode cX7_init 32 = .ok (.aload_n 0, 1) := by decide +kernel
theorem dX7_init_33 : decode cX7_init 33 = .ok (.iload_n 3, 1) := by decide +kernel
theorem dX7_init_34 : decode cX7_init 34 = .ok (.putfield 28, 3) := by decide +kernel
theorem dX7_init_37 : decode cX7_init 37 = .ok (.aload_n 0, 1) := by decide +kernel
theorem dX7_init_38 : decode cX7_init 38 = .ok (.iload 4, 2) := by decide +kernel
theorem dX7_init_40 : decode cX7_init 40 = .ok (.putfield 31, 3) := by decide +kernel
theorem dX7_init_43 : decode cX7_init 43 = .ok (.aload_n 0, 1) := by decide +kernel
theorem dX7_init_44 : decode cX7_init 44 = .ok (.iload 5, 2) := by decide +kernel
theorem dX7_init_46 : decode cX7_init 46 = .ok (.putfield 34, 3) := by decide +kernel
theorem dX7_init_49 : decode cX7_init 49 = .ok (.aload_n 0, 1) := by decide +kernel
theorem dX7_init_50 : decode cX7_init 50 = .ok (.iload 6, 2) := by decide +kernel
theorem dX7_init_52 : decode cX7_init 52 = .ok (.putfield 37, 3) := by decide +kernel
theorem dX7_init_55 : decode cX7_init 55 = .ok (.aload_n 0, 1) := by decide +kernel
theorem dX7_init_56 : decode cX7_init 56 = .ok (.iload 7, 2) := by decide +kernel
theorem dX7_init_58 : decode cX7_init 58 = .ok (.putfield 40, 3) := by decide +kernel
theorem dX7_init_61 : decode cX7_init 61 = .ok (.return_, 1) := by decide +kernel
theorem dX7_isRepaid_0 : decode cX7_isRepaid 0 = .ok (.aload_n 0, 1) := by decide +kernel
theorem dX7_isRepaid_1 : decode cX7_isRepaid 1 = .ok (.getfield 15, 3) := by decide +kernel
theorem dX7_isRepaid_4 : decode cX7_isRepaid 4 = .ok (.iconst 3, 1) := by decide +kernel
theorem dX7_isRepaid_5 : decode cX7_isRepaid 5 = .ok (.if_icmp .ne 7, 3) := by decide +kernel
theorem dX7_isRepaid_8 : decode cX7_isRepaid 8 = .ok (.iconst 1, 1) := by decide +kernel
theorem dX7_isRepaid_9 : decode cX7_isRepaid 9 = .ok (.goto 4, 3) := by decide +kernel
theorem dX7_isRepaid_12 : decode cX7_isRepaid 12 = .ok (.iconst 0, 1) := by decide +kernel
theorem dX7_isRepaid_13 : decode cX7_isRepaid 13 = .ok (.ireturn, 1) := by decide +kernel
theorem dX7_needs_0 : decode cX7_needs 0 = .ok (.aload_n 0, 1) := by decide +kernel
theorem dX7_needs_1 : decode cX7_needs 1 = .ok (.getfield 31, 3) := by decide +kernel
theorem dX7_needs_4 : decode cX7_needs 4 = .ok (.sipush 2000, 3) := by decide +kernel
theorem dX7_needs_7 : decode cX7_needs 7 = .ok (.if_icmp .le 7, 3) := by decide +kernel
theorem dX7_needs_10 : decode cX7_needs 10 = .ok (.iconst 3, 1) := by decide +kernel
theorem dX7_needs_11 : decode cX7_needs 11 = .ok (.goto 18, 3) := by decide +kernel
theorem dX7_needs_14 : decode cX7_needs 14 = .ok (.aload_n 0, 1) := by decide +kernel
theorem dX7_needs_15 : decode cX7_needs 15 = .ok (.getfield 31, 3) := by decide +kernel
theorem dX7_needs_18 : decode cX7_needs 18 = .ok (.sipush 500, 3) := by decide +kernel
theorem dX7_needs_21 : decode cX7_needs 21 = .ok (.if_icmp .le 7, 3) := by decide +kernel
theorem dX7_needs_24 : decode cX7_needs 24 = .ok (.iconst 2, 1) := by decide +kernel
theorem dX7_needs_25 : decode cX7_needs 25 = .ok (.goto 4, 3) := by decide +kernel
theorem dX7_needs_28 : decode cX7_needs 28 = .ok (.iconst 1, 1) := by decide +kernel
theorem dX7_needs_29 : decode cX7_needs 29 = .ok (.ireturn, 1) := by decide +kernel
theorem dX7_score_0 : decode cX7_score 0 = .ok (.aload_n 0, 1) := by decide +kernel
theorem dX7_score_1 : decode cX7_score 1 = .ok (.getfield 31, 3) := by decide +kernel
theorem dX7_score_4 : decode cX7_score 4 = .ok (.aload_n 1, 1) := by decide +kernel
theorem dX7_score_5 : decode cX7_score 5 = .ok (.getfield 43, 3) := by decide +kernel
theorem dX7_score_8 : decode cX7_score 8 = .ok (.isub, 1) := by decide +kernel
theorem dX7_score_9 : decode cX7_score 9 = .ok (.invokestatic 46, 3) := by decide +kernel
theorem dX7_score_12 : decode cX7_score 12 = .ok (.istore_n 2, 1) := by decide +kernel
theorem dX7_score_13 : decode cX7_score 13 = .ok (.aload_n 0, 1) := by decide +kernel
theorem dX7_score_14 : decode cX7_score 14 = .ok (.getfield 37, 3) := by decide +kernel
theorem dX7_score_17 : decode cX7_score 17 = .ok (.aload_n 1, 1) := by decide +kernel
theorem dX7_score_18 : decode cX7_score 18 = .ok (.getfield 52, 3) := by decide +kernel
theorem dX7_score_21 : decode cX7_score 21 = .ok (.isub, 1) := by decide +kernel
theorem dX7_score_22 : decode cX7_score 22 = .ok (.invokestatic 46, 3) := by decide +kernel
theorem dX7_score_25 : decode cX7_score 25 = .ok (.istore_n 3, 1) := by decide +kernel
theorem dX7_score_26 : decode cX7_score 26 = .ok (.iload_n 2, 1) := by decide +kernel
theorem dX7_score_27 : decode cX7_score 27 = .ok (.bipush 10, 2) := by decide +kernel
theorem dX7_score_29 : decode cX7_score 29 = .ok (.if_icmp .gt 8, 3) := by decide +kernel
theorem dX7_score_32 : decode cX7_score 32 = .ok (.iload_n 3, 1) := by decide +kernel
theorem dX7_score_33 : decode cX7_score 33 = .ok (.iconst 3, 1) := by decide +kernel
theorem dX7_score_34 : decode cX7_score 34 = .ok (.if_icmp .le 7, 3) := by decide +kernel
theorem dX7_score_37 : decode cX7_score 37 = .ok (.iconst (-1), 1) := by decide +kernel
theorem dX7_score_38 : decode cX7_score 38 = .ok (.goto 31, 3) := by decide +kernel
theorem dX7_score_41 : decode cX7_score 41 = .ok (.bipush 40, 2) := by decide +kernel
theorem dX7_score_43 : decode cX7_score 43 = .ok (.iconst 2, 1) := by decide +kernel
theorem dX7_score_44 : decode cX7_score 44 = .ok (.iload_n 2, 1) := by decide +kernel
theorem dX7_score_45 : decode cX7_score 45 = .ok (.imul, 1) := by decide +kernel
theorem dX7_score_46 : decode cX7_score 46 = .ok (.isub, 1) := by decide +kernel
theorem dX7_score_47 : decode cX7_score 47 = .ok (.iconst 5, 1) := by decide +kernel
theorem dX7_score_48 : decode cX7_score 48 = .ok (.iload_n 3, 1) := by decide +kernel
theorem dX7_score_49 : decode cX7_score 49 = .ok (.imul, 1) := by decide +kernel
theorem dX7_score_50 : decode cX7_score 50 = .ok (.isub, 1) := by decide +kernel
theorem dX7_score_51 : decode cX7_score 51 = .ok (.aload_n 0, 1) := by decide +kernel
theorem dX7_score_52 : decode cX7_score 52 = .ok (.getfield 34, 3) := by decide +kernel
theorem dX7_score_55 : decode cX7_score 55 = .ok (.aload_n 1, 1) := by decide +kernel
theorem dX7_score_56 : decode cX7_score 56 = .ok (.getfield 53, 3) := by decide +kernel
theorem dX7_score_59 : decode cX7_score 59 = .ok (.if_icmp .ne 8, 3) := by decide +kernel
theorem dX7_score_62 : decode cX7_score 62 = .ok (.bipush 20, 2) := by decide +kernel
theorem dX7_score_64 : decode cX7_score 64 = .ok (.goto 4, 3) := by decide +kernel
theorem dX7_score_67 : decode cX7_score 67 = .ok (.iconst 0, 1) := by decide +kernel
theorem dX7_score_68 : decode cX7_score 68 = .ok (.iadd, 1) := by decide +kernel
theorem dX7_score_69 : decode cX7_score 69 = .ok (.ireturn, 1) := by decide +kernel
theorem dX8_init_0 : decode cX8_init 0 = .ok (.aload_n 0, 1) := by decide +kernel
theorem dX8_init_1 : decode cX8_init 1 = .ok (.invokespecial 3, 3) := by decide +kernel
theorem dX8_init_4 : decode cX8_init 4 = .ok (.aload_n 0, 1) := by decide +kernel
theorem dX8_init_5 : decode cX8_init 5 = .ok (.new 9, 3) := by decide +kernel
theorem dX8_init_8 : decode cX8_init 8 = .ok (.dup, 1) := by decide +kernel
theorem dX8_init_9 : decode cX8_init 9 = .ok (.invokespecial 11, 3) := by decide +kernel
theorem dX8_init_12 : decode cX8_init 12 = .ok (.putfield 12, 3) := by decide +kernel
theorem dX8_init_15 : decode cX8_init 15 = .ok (.aload_n 0, 1) := by decide +kernel
theorem dX8_init_16 : decode cX8_init 16 = .ok (.new 9, 3) := by decide +kernel
theorem dX8_init_19 : decode cX8_init 19 = .ok (.dup, 1) := by decide +kernel
theorem dX8_init_20 : decode cX8_init 20 = .ok (.invokespecial 11, 3) := by decide +kernel
theorem dX8_init_23 : decode cX8_init 23 = .ok (.putfield 18, 3) := by decide +kernel
theorem dX8_init_26 : decode cX8_init 26 = .ok (.aload_n 0, 1) := by decide +kernel
theorem dX8_init_27 : decode cX8_init 27 = .ok (.new 9, 3) := by decide +kernel
theorem dX8_init_30 : decode cX8_init 30 = .ok (.dup, 1) := by decide +kernel
theorem dX8_init_31 : decode cX8_init 31 = .ok (.invokespecial 11, 3) := by decide +kernel
theorem dX8_init_34 : decode cX8_init 34 = .ok (.putfield 21, 3) := by decide +kernel
theorem dX8_init_37 : decode cX8_init 37 = .ok (.aload_n 0, 1) := by decide +kernel
theorem dX8_init_38 : decode cX8_init 38 = .ok (.new 9, 3) := by decide +kernel
theorem dX8_init_41 : decode cX8_init 41 = .ok (.dup, 1) := by decide +kernel
theorem dX8_init_42 : decode cX8_init 42 = .ok (.invokespecial 11, 3) := by decide +kernel
theorem dX8_init_45 : decode cX8_init 45 = .ok (.putfield 24, 3) := by decide +kernel
theorem dX8_init_48 : decode cX8_init 48 = .ok (.aload_n 0, 1) := by decide +kernel
theorem dX8_init_49 : decode cX8_init 49 = .ok (.iconst 4, 1) := by decide +kernel
theorem dX8_init_50 : decode cX8_init 50 = .ok (.iconst 4, 1) := by decide +kernel
theorem dX8_init_51 : decode cX8_init 51 = .ok (.multianewarray 27 2, 4) := by decide +kernel
theorem dX8_init_55 : decode cX8_init 55 = .ok (.putfield 29, 3) := by decide +kernel
theorem dX8_init_58 : decode cX8_init 58 = .ok (.aload_n 0, 1) := by decide +kernel
theorem dX8_init_59 : decode cX8_init 59 = .ok (.iconst 4, 1) := by decide +kernel
theorem dX8_init_60 : decode cX8_init 60 = .ok (.newarray .int, 2) := by decide +kernel
theorem dX8_init_62 : decode cX8_init 62 = .ok (.putfield 32, 3) := by decide +kernel
theorem dX8_init_65 : decode cX8_init 65 = .ok (.aload_n 0, 1) := by decide +kernel
theorem dX8_init_66 : decode cX8_init 66 = .ok (.iconst 3, 1) := by decide +kernel
theorem dX8_init_67 : decode cX8_init 67 = .ok (.iconst 4, 1) := by decide +kernel
theorem dX8_init_68 : decode cX8_init 68 = .ok (.multianewarray 27 2, 4) := by decide +kernel
theorem dX8_init_72 : decode cX8_init 72 = .ok (.putfield 36, 3) := by decide +kernel
theorem dX8_init_75 : decode cX8_init 75 = .ok (.return_, 1) := by decide +kernel
theorem dX8_isAway_0 : decode cX8_isAway 0 = .ok (.aload_n 0, 1) := by decide +kernel
theorem dX8_isAway_1 : decode cX8_isAway 1 = .ok (.getfield 12, 3) := by decide +kernel
theorem dX8_isAway_4 : decode cX8_isAway 4 = .ok (.iload_n 1, 1) := by decide +kernel
theorem dX8_isAway_5 : decode cX8_isAway 5 = .ok (.invokevirtual 39, 3) := by decide +kernel
theorem dX8_isAway_8 : decode cX8_isAway 8 = .ok (.checkcast 43, 3) := by decide +kernel
theorem dX8_isAway_11 : decode cX8_isAway 11 = .ok (.getfield 45, 3) := by decide +kernel
theorem dX8_isAway_14 : decode cX8_isAway 14 = .ok (.aload_n 0, 1) := by decide +kernel
theorem dX8_isAway_15 : decode cX8_isAway 15 = .ok (.getfield 49, 3) := by decide +kernel
theorem dX8_isAway_18 : decode cX8_isAway 18 = .ok (.if_icmp .lt 7, 3) := by decide +kernel
theorem dX8_isAway_21 : decode cX8_isAway 21 = .ok (.iconst 1, 1) := by decide +kernel
theorem dX8_isAway_22 : decode cX8_isAway 22 = .ok (.goto 4, 3) := by decide +kernel
theorem dX8_isAway_25 : decode cX8_isAway 25 = .ok (.iconst 0, 1) := by decide +kernel
theorem dX8_isAway_26 : decode cX8_isAway 26 = .ok (.ireturn, 1) := by decide +kernel
theorem dX8_tripOf_0 : decode cX8_tripOf 0 = .ok (.iconst 0, 1) := by decide +kernel
theorem dX8_tripOf_1 : decode cX8_tripOf 1 = .ok (.istore_n 3, 1) := by decide +kernel
theorem dX8_tripOf_2 : decode cX8_tripOf 2 = .ok (.iload_n 3, 1) := by decide +kernel
theorem dX8_tripOf_3 : decode cX8_tripOf 3 = .ok (.aload_n 0, 1) := by decide +kernel
theorem dX8_tripOf_4 : decode cX8_tripOf 4 = .ok (.getfield 18, 3) := by decide +kernel
theorem dX8_tripOf_7 : decode cX8_tripOf 7 = .ok (.invokevirtual 52, 3) := by decide +kernel
theorem dX8_tripOf_10 : decode cX8_tripOf 10 = .ok (.if_icmp .ge 66, 3) := by decide +kernel
theorem dX8_tripOf_13 : decode cX8_tripOf 13 = .ok (.aload_n 0, 1) := by decide +kernel
theorem dX8_tripOf_14 : decode cX8_tripOf 14 = .ok (.getfield 18, 3) := by decide +kernel
theorem dX8_tripOf_17 : decode cX8_tripOf 17 = .ok (.iload_n 3, 1) := by decide +kernel
theorem dX8_tripOf_18 : decode cX8_tripOf 18 = .ok (.invokevirtual 39, 3) := by decide +kernel
theorem dX8_tripOf_21 : decode cX8_tripOf 21 = .ok (.checkcast 56, 3) := by decide +kernel
theorem dX8_tripOf_24 : decode cX8_tripOf 24 = .ok (.astore 4, 2) := by decide +kernel
theorem dX8_tripOf_26 : decode cX8_tripOf 26 = .ok (.aload 4, 2) := by decide +kernel
theorem dX8_tripOf_28 : decode cX8_tripOf 28 = .ok (.getfield 58, 3) := by decide +kernel
theorem dX8_tripOf_31 : decode cX8_tripOf 31 = .ok (.iload_n 1, 1) := by decide +kernel
theorem dX8_tripOf_32 : decode cX8_tripOf 32 = .ok (.if_icmp .ne 38, 3) := by decide +kernel
theorem dX8_tripOf_35 : decode cX8_tripOf 35 = .ok (.aload 4, 2) := by decide +kernel
theorem dX8_tripOf_37 : decode cX8_tripOf 37 = .ok (.getfield 61, 3) := by decide +kernel
theorem dX8_tripOf_40 : decode cX8_tripOf 40 = .ok (.iload_n 2, 1) := by decide +kernel
theorem dX8_tripOf_41 : decode cX8_tripOf 41 = .ok (.if_icmp .ne 29, 3) := by decide +kernel
theorem dX8_tripOf_44 : decode cX8_tripOf 44 = .ok (.aload 4, 2) := by decide +kernel
theorem dX8_tripOf_46 : decode cX8_tripOf 46 = .ok (.getfield 64, 3) := by decide +kernel
theorem dX8_tripOf_49 : decode cX8_tripOf 49 = .ok (.aload_n 0, 1) := by decide +kernel
theorem dX8_tripOf_50 : decode cX8_tripOf 50 = .ok (.getfield 49, 3) := by decide +kernel
theorem dX8_tripOf_53 : decode cX8_tripOf 53 = .ok (.if_icmp .gt 17, 3) := by decide +kernel
theorem dX8_tripOf_56 : decode cX8_tripOf 56 = .ok (.aload 4, 2) := by decide +kernel
theorem dX8_tripOf_58 : decode cX8_tripOf 58 = .ok (.getfield 67, 3) := by decide +kernel
theorem dX8_tripOf_61 : decode cX8_tripOf 61 = .ok (.aload_n 0, 1) := by decide +kernel
theorem dX8_tripOf_62 : decode cX8_tripOf 62 = .ok (.getfield 49, 3) := by decide +kernel
theorem dX8_tripOf_65 : decode cX8_tripOf 65 = .ok (.if_icmp .lt 5, 3) := by decide +kernel
theorem dX8_tripOf_68 : decode cX8_tripOf 68 = .ok (.iload_n 3, 1) := by decide +kernel
theorem dX8_tripOf_69 : decode cX8_tripOf 69 = .ok (.ireturn, 1) := by decide +kernel
theorem dX8_tripOf_70 : decode cX8_tripOf 70 = .ok (.iinc 3 1, 3) := by decide +kernel
theorem dX8_tripOf_73 : decode cX8_tripOf 73 = .ok (.goto (-71), 3) := by decide +kernel
theorem dX8_tripOf_76 : decode cX8_tripOf 76 = .ok (.iconst (-1), 1) := by decide +kernel
theorem dX8_tripOf_77 : decode cX8_tripOf 77 = .ok (.ireturn, 1) := by decide +kernel
theorem dX8_maySpend_0 : decode cX8_maySpend 0 = .ok (.aload_n 0, 1) := by decide +kernel
theorem dX8_maySpend_1 : decode cX8_maySpend 1 = .ok (.iload_n 1, 1) := by decide +kernel
theorem dX8_maySpend_2 : decode cX8_maySpend 2 = .ok (.iload_n 3, 1) := by decide +kernel
theorem dX8_maySpend_3 : decode cX8_maySpend 3 = .ok (.invokevirtual 70, 3) := by decide +kernel
theorem dX8_maySpend_6 : decode cX8_maySpend 6 = .ok (.istore 4, 2) := by decide +kernel
theorem dX8_maySpend_8 : decode cX8_maySpend 8 = .ok (.iload 4, 2) := by decide +kernel
theorem dX8_maySpend_10 : decode cX8_maySpend 10 = .ok (.iconst (-1), 1) := by decide +kernel
theorem dX8_maySpend_11 : decode cX8_maySpend 11 = .ok (.if_icmp .ne 42, 3) := by decide +kernel
theorem dX8_maySpend_14 : decode cX8_maySpend 14 = .ok (.aload_n 0, 1) := by decide +kernel
theorem dX8_maySpend_15 : decode cX8_maySpend 15 = .ok (.getfield 12, 3) := by decide +kernel
theorem dX8_maySpend_18 : decode cX8_maySpend 18 = .ok (.iload_n 1, 1) := by decide +kernel
theorem dX8_maySpend_19 : decode cX8_maySpend 19 = .ok (.invokevirtual 39, 3) := by decide +kernel
theorem dX8_maySpend_22 : decode cX8_maySpend 22 = .ok (.checkcast 43, 3) := by decide +kernel
theorem dX8_maySpend_25 : decode cX8_maySpend 25 = .ok (.getfield 74, 3) := by decide +kernel
theorem dX8_maySpend_28 : decode cX8_maySpend 28 = .ok (.iload_n 2, 1) := by decide +kernel
theorem dX8_maySpend_29 : decode cX8_maySpend 29 = .ok (.iaload, 1) := by decide +kernel
theorem dX8_maySpend_30 : decode cX8_maySpend 30 = .ok (.iconst 5, 1) := by decide +kernel
theorem dX8_maySpend_31 : decode cX8_maySpend 31 = .ok (.aload_n 0, 1) := by decide +kernel
theorem dX8_maySpend_32 : decode cX8_maySpend 32 = .ok (.getfield 12, 3) := by decide +kernel
theorem dX8_maySpend_35 : decode cX8_maySpend 35 = .ok (.iload_n 1, 1) := by decide +kernel
theorem dX8_maySpend_36 : decode cX8_maySpend 36 = .ok (.invokevirtual 39, 3) := by decide +kernel
theorem dX8_maySpend_39 : decode cX8_maySpend 39 = .ok (.checkcast 43, 3) := by decide +kernel
theorem dX8_maySpend_42 : decode cX8_maySpend 42 = .ok (.getfield 77, 3) := by decide +kernel
theorem dX8_maySpend_45 : decode cX8_maySpend 45 = .ok (.iadd, 1) := by decide +kernel
theorem dX8_maySpend_46 : decode cX8_maySpend 46 = .ok (.imul, 1) := by decide +kernel
theorem dX8_maySpend_47 : decode cX8_maySpend 47 = .ok (.bipush 10, 2) := by decide +kernel
theorem dX8_maySpend_49 : decode cX8_maySpend 49 = .ok (.idiv, 1) := by decide +kernel
theorem dX8_maySpend_50 : decode cX8_maySpend 50 = .ok (.goto 18, 3) := by decide +kernel
theorem dX8_maySpend_53 : decode cX8_maySpend 53 = .ok (.aload_n 0, 1) := by decide +kernel
theorem dX8_maySpend_54 : decode cX8_maySpend 54 = .ok (.getfield 18, 3) := by decide +kernel
theorem dX8_maySpend_57 : decode cX8_maySpend 57 = .ok (.iload 4, 2) := by decide +kernel
theorem dX8_maySpend_59 : decode cX8_maySpend 59 = .ok (.invokevirtual 39, 3) := by decide +kernel
theorem dX8_maySpend_62 : decode cX8_maySpend 62 = .ok (.checkcast 56, 3) := by decide +kernel
theorem dX8_maySpend_65 : decode cX8_maySpend 65 = .ok (.getfield 80, 3) := by decide +kernel
theorem dX8_maySpend_68 : decode cX8_maySpend 68 = .ok (.istore 5, 2) := by decide +kernel
theorem dX8_maySpend_70 : decode cX8_maySpend 70 = .ok (.iconst 0, 1) := by decide +kernel
theorem dX8_maySpend_71 : decode cX8_maySpend 71 = .ok (.istore 6, 2) := by decide +kernel
theorem dX8_maySpend_73 : decode cX8_maySpend 73 = .ok (.iload 6, 2) := by decide +kernel
theorem dX8_maySpend_75 : decode cX8_maySpend 75 = .ok (.aload_n 0, 1) := by decide +kernel
theorem dX8_maySpend_76 : decode cX8_maySpend 76 = .ok (.getfield 21, 3) := by decide +kernel
theorem dX8_maySpend_79 : decode cX8_maySpend 79 = .ok (.invokevirtual 52, 3) := by decide +kernel
theorem dX8_maySpend_82 : decode cX8_maySpend 82 = .ok (.if_icmp .ge 93, 3) := by decide +kernel
theorem dX8_maySpend_85 : decode cX8_maySpend 85 = .ok (.aload_n 0, 1) := by decide +kernel
theorem dX8_maySpend_86 : decode cX8_maySpend 86 = .ok (.getfield 21, 3) := by decide +kernel
theorem dX8_maySpend_89 : decode cX8_maySpend 89 = .ok (.iload 6, 2) := by decide +kernel
theorem dX8_maySpend_91 : decode cX8_maySpend 91 = .ok (.invokevirtual 39, 3) := by decide +kernel
theorem dX8_maySpend_94 : decode cX8_maySpend 94 = .ok (.checkcast 83, 3) := by decide +kernel
theorem dX8_maySpend_97 : decode cX8_maySpend 97 = .ok (.astore 7, 2) := by decide +kernel
theorem dX8_maySpend_99 : decode cX8_maySpend 99 = .ok (.aload 7, 2) := by decide +kernel
theorem dX8_maySpend_101 : decode cX8_maySpend 101 = .ok (.invokevirtual 85, 3) := by decide +kernel
theorem dX8_maySpend_104 : decode cX8_maySpend 104 = .ok (.ifCond .ne 65, 3) := by decide +kernel
theorem dX8_maySpend_107 : decode cX8_maySpend 107 = .ok (.aload 7, 2) := by decide +kernel
theorem dX8_maySpend_109 : decode cX8_maySpend 109 = .ok (.getfield 89, 3) := by decide +kernel
theorem dX8_maySpend_112 : decode cX8_maySpend 112 = .ok (.iload 4, 2) := by decide +kernel
theorem dX8_maySpend_114 : decode cX8_maySpend 114 = .ok (.if_icmp .eq 6, 3) := by decide +kernel
theorem dX8_maySpend_117 : decode cX8_maySpend 117 = .ok (.goto 52, 3) := by decide +kernel
theorem dX8_maySpend_120 : decode cX8_maySpend 120 = .ok (.iload 4, 2) := by decide +kernel
theorem dX8_maySpend_122 : decode cX8_maySpend 122 = .ok (.iconst (-1), 1) := by decide +kernel
theorem dX8_maySpend_123 : decode cX8_maySpend 123 = .ok (.if_icmp .ne 36, 3) := by decide +kernel
theorem dX8_maySpend_126 : decode cX8_maySpend 126 = .ok (.aload 7, 2) := by decide +kernel
theorem dX8_maySpend_128 : decode cX8_maySpend 128 = .ok (.getfield 92, 3) := by decide +kernel
theorem dX8_maySpend_131 : decode cX8_maySpend 131 = .ok (.iload_n 1, 1) := by decide +kernel
theorem dX8_maySpend_132 : decode cX8_maySpend 132 = .ok (.if_icmp .ne 37, 3) := by decide +kernel
theorem dX8_maySpend_135 : decode cX8_maySpend 135 = .ok (.aload 7, 2) := by decide +kernel
theorem dX8_maySpend_137 : decode cX8_maySpend 137 = .ok (.getfield 93, 3) := by decide +kernel
theorem dX8_maySpend_140 : decode cX8_maySpend 140 = .ok (.iload_n 2, 1) := by decide +kernel
theorem dX8_maySpend_141 : decode cX8_maySpend 141 = .ok (.if_icmp .ne 28, 3) := by decide +kernel
theorem dX8_maySpend_144 : decode cX8_maySpend 144 = .ok (.aload 7, 2) := by decide +kernel
theorem dX8_maySpend_146 : decode cX8_maySpend 146 = .ok (.getfield 96, 3) := by decide +kernel
theorem dX8_maySpend_149 : decode cX8_maySpend 149 = .ok (.aload_n 0, 1) := by decide +kernel
theorem dX8_maySpend_150 : decode cX8_maySpend 150 = .ok (.getfield 49, 3) := by decide +kernel
theorem dX8_maySpend_153 : decode cX8_maySpend 153 = .ok (.bipush 9, 2) := by decide +kernel
theorem dX8_maySpend_155 : decode cX8_maySpend 155 = .ok (.isub, 1) := by decide +kernel
theorem dX8_maySpend_156 : decode cX8_maySpend 156 = .ok (.if_icmp .lt 13, 3) := by decide +kernel
theorem dX8_maySpend_159 : decode cX8_maySpend 159 = .ok (.iload 5, 2) := by decide +kernel
theorem dX8_maySpend_161 : decode cX8_maySpend 161 = .ok (.aload 7, 2) := by decide +kernel
theorem dX8_maySpend_163 : decode cX8_maySpend 163 = .ok (.getfield 97, 3) := by decide +kernel
theorem dX8_maySpend_166 : decode cX8_maySpend 166 = .ok (.isub, 1) := by decide +kernel
theorem dX8_maySpend_167 : decode cX8_maySpend 167 = .ok (.istore 5, 2) := by decide +kernel
theorem dX8_maySpend_169 : decode cX8_maySpend 169 = .ok (.iinc 6 1, 3) := by decide +kernel
theorem dX8_maySpend_172 : decode cX8_maySpend 172 = .ok (.goto (-99), 3) := by decide +kernel
theorem dX8_maySpend_175 : decode cX8_maySpend 175 = .ok (.iload 5, 2) := by decide +kernel
theorem dX8_maySpend_177 : decode cX8_maySpend 177 = .ok (.ireturn, 1) := by decide +kernel
theorem dX8_tax_0 : decode cX8_tax 0 = .ok (.aload_n 1, 1) := by decide +kernel
theorem dX8_tax_1 : decode cX8_tax 1 = .ok (.getfield 97, 3) := by decide +kernel
theorem dX8_tax_4 : decode cX8_tax 4 = .ok (.aload_n 0, 1) := by decide +kernel
theorem dX8_tax_5 : decode cX8_tax 5 = .ok (.getfield 36, 3) := by decide +kernel
theorem dX8_tax_8 : decode cX8_tax 8 = .ok (.aload_n 1, 1) := by decide +kernel
theorem dX8_tax_9 : decode cX8_tax 9 = .ok (.getfield 100, 3) := by decide +kernel
theorem dX8_tax_12 : decode cX8_tax 12 = .ok (.aaload, 1) := by decide +kernel
theorem dX8_tax_13 : decode cX8_tax 13 = .ok (.aload_n 1, 1) := by decide +kernel
theorem dX8_tax_14 : decode cX8_tax 14 = .ok (.getfield 93, 3) := by decide +kernel
theorem dX8_tax_17 : decode cX8_tax 17 = .ok (.iaload, 1) := by decide +kernel
theorem dX8_tax_18 : decode cX8_tax 18 = .ok (.imul, 1) := by decide +kernel
theorem dX8_tax_19 : decode cX8_tax 19 = .ok (.bipush 100, 2) := by decide +kernel
theorem dX8_tax_21 : decode cX8_tax 21 = .ok (.aload_n 0, 1) := by decide +kernel
theorem dX8_tax_22 : decode cX8_tax 22 = .ok (.getfield 36, 3) := by decide +kernel
theorem dX8_tax_25 : decode cX8_tax 25 = .ok (.aload_n 1, 1) := by decide +kernel
theorem dX8_tax_26 : decode cX8_tax 26 = .ok (.getfield 100, 3) := by decide +kernel
theorem dX8_tax_29 : decode cX8_tax 29 = .ok (.aaload, 1) := by decide +kernel
theorem dX8_tax_30 : decode cX8_tax 30 = .ok (.aload_n 1, 1) := by decide +kernel
theorem dX8_tax_31 : decode cX8_tax 31 = .ok (.getfield 93, 3) := by decide +kernel
theorem dX8_tax_34 : decode cX8_tax 34 = .ok (.iaload, 1) := by decide +kernel
theorem dX8_tax_35 : decode cX8_tax 35 = .ok (.iadd, 1) := by decide +kernel
theorem dX8_tax_36 : decode cX8_tax 36 = .ok (.idiv, 1) := by decide +kernel
theorem dX8_tax_37 : decode cX8_tax 37 = .ok (.ireturn, 1) := by decide +kernel
theorem dX8_cost_0 : decode cX8_cost 0 = .ok (.aload_n 1, 1) := by decide +kernel
theorem dX8_cost_1 : decode cX8_cost 1 = .ok (.invokevirtual 85, 3) := by decide +kernel
theorem dX8_cost_4 : decode cX8_cost 4 = .ok (.ifCond .eq 5, 3) := by decide +kernel
theorem dX8_cost_7 : decode cX8_cost 7 = .ok (.iconst 0, 1) := by decide +kernel
theorem dX8_cost_8 : decode cX8_cost 8 = .ok (.ireturn, 1) := by decide +kernel
theorem dX8_cost_9 : decode cX8_cost 9 = .ok (.aload_n 1, 1) := by decide +kernel
theorem dX8_cost_10 : decode cX8_cost 10 = .ok (.getfield 101, 3) := by decide +kernel
theorem dX8_cost_13 : decode cX8_cost 13 = .ok (.iconst 1, 1) := by decide +kernel
theorem dX8_cost_14 : decode cX8_cost 14 = .ok (.if_icmp .eq 22, 3) := by decide +kernel
theorem dX8_cost_17 : decode cX8_cost 17 = .ok (.aload_n 1, 1) := by decide +kernel
theorem dX8_cost_18 : decode cX8_cost 18 = .ok (.getfield 101, 3) := by decide +kernel
theorem dX8_cost_21 : decode cX8_cost 21 = .ok (.iconst 2, 1) := by decide +kernel
theorem dX8_cost_22 : decode cX8_cost 22 = .ok (.if_icmp .eq 14, 3) := by decide +kernel
theorem dX8_cost_25 : decode cX8_cost 25 = .ok (.aload_n 1, 1) := by decide +kernel
theorem dX8_cost_26 : decode cX8_cost 26 = .ok (.getfield 101, 3) := by decide +kernel
theorem dX8_cost_29 : decode cX8_cost 29 = .ok (.ifCond .ne 11, 3) := by decide +kernel
theorem dX8_cost_32 : decode cX8_cost 32 = .ok (.iload_n 2, 1) := by decide +kernel
theorem dX8_cost_33 : decode cX8_cost 33 = .ok (.ifCond .eq 7, 3) := by decide +kernel
theorem dX8_cost_36 : decode cX8_cost 36 = .ok (.iconst 1, 1) := by decide +kernel
theorem dX8_cost_37 : decode cX8_cost 37 = .ok (.goto 4, 3) := by decide +kernel
theorem dX8_cost_40 : decode cX8_cost 40 = .ok (.iconst 0, 1) := by decide +kernel
theorem dX8_cost_41 : decode cX8_cost 41 = .ok (.istore_n 3, 1) := by decide +kernel
theorem dX8_cost_42 : decode cX8_cost 42 = .ok (.aload_n 1, 1) := by decide +kernel
theorem dX8_cost_43 : decode cX8_cost 43 = .ok (.getfield 97, 3) := by decide +kernel
theorem dX8_cost_46 : decode cX8_cost 46 = .ok (.iload_n 3, 1) := by decide +kernel
theorem dX8_cost_47 : decode cX8_cost 47 = .ok (.ifCond .eq 11, 3) := by decide +kernel
theorem dX8_cost_50 : decode cX8_cost 50 = .ok (.aload_n 0, 1) := by decide +kernel
theorem dX8_cost_51 : decode cX8_cost 51 = .ok (.aload_n 1, 1) := by decide +kernel
theorem dX8_cost_52 : decode cX8_cost 52 = .ok (.invokevirtual 104, 3) := by decide +kernel
theorem dX8_cost_55 : decode cX8_cost 55 = .ok (.goto 4, 3) := by decide +kernel
theorem dX8_cost_58 : decode cX8_cost 58 = .ok (.iconst 0, 1) := by decide +kernel
theorem dX8_cost_59 : decode cX8_cost 59 = .ok (.isub, 1) := by decide +kernel
theorem dX8_cost_60 : decode cX8_cost 60 = .ok (.ireturn, 1) := by decide +kernel
theorem dX8_left_0 : decode cX8_left 0 = .ok (.aload_n 0, 1) := by decide +kernel
theorem dX8_left_1 : decode cX8_left 1 = .ok (.getfield 29, 3) := by decide +kernel
theorem dX8_left_4 : decode cX8_left 4 = .ok (.iload_n 1, 1) := by decide +kernel
theorem dX8_left_5 : decode cX8_left 5 = .ok (.aaload, 1) := by decide +kernel
theorem dX8_left_6 : decode cX8_left 6 = .ok (.iload_n 2, 1) := by decide +kernel
theorem dX8_left_7 : decode cX8_left 7 = .ok (.iaload, 1) := by decide +kernel
theorem dX8_left_8 : decode cX8_left 8 = .ok (.istore 4, 2) := by decide +kernel
theorem dX8_left_10 : decode cX8_left 10 = .ok (.iload_n 2, 1) := by decide +kernel
theorem dX8_left_11 : decode cX8_left 11 = .ok (.ifCond .le 31, 3) := by decide +kernel
theorem dX8_left_14 : decode cX8_left 14 = .ok (.iload 4, 2) := by decide +kernel
theorem dX8_left_16 : decode cX8_left 16 = .ok (.iconst 0, 1) := by decide +kernel
theorem dX8_left_17 : decode cX8_left 17 = .ok (.aload_n 0, 1) := by decide +kernel
theorem dX8_left_18 : decode cX8_left 18 = .ok (.iload_n 1, 1) := by decide +kernel
theorem dX8_left_19 : decode cX8_left 19 = .ok (.iload_n 2, 1) := by decide +kernel
theorem dX8_left_20 : decode cX8_left 20 = .ok (.iconst 1, 1) := by decide +kernel
theorem dX8_left_21 : decode cX8_left 21 = .ok (.isub, 1) := by decide +kernel
theorem dX8_left_22 : decode cX8_left 22 = .ok (.iload_n 3, 1) := by decide +kernel
theorem dX8_left_23 : decode cX8_left 23 = .ok (.invokevirtual 108, 3) := by decide +kernel
theorem dX8_left_26 : decode cX8_left 26 = .ok (.aload_n 0, 1) := by decide +kernel
theorem dX8_left_27 : decode cX8_left 27 = .ok (.getfield 32, 3) := by decide +kernel
theorem dX8_left_30 : decode cX8_left 30 = .ok (.iload_n 1, 1) := by decide +kernel
theorem dX8_left_31 : decode cX8_left 31 = .ok (.iaload, 1) := by decide +kernel
theorem dX8_left_32 : decode cX8_left 32 = .ok (.imul, 1) := by decide +kernel
theorem dX8_left_33 : decode cX8_left 33 = .ok (.bipush 100, 2) := by decide +kernel
theorem dX8_left_35 : decode cX8_left 35 = .ok (.idiv, 1) := by decide +kernel
theorem dX8_left_36 : decode cX8_left 36 = .ok (.invokestatic 112, 3) := by decide +kernel
theorem dX8_left_39 : decode cX8_left 39 = .ok (.iadd, 1) := by decide +kernel
theorem dX8_left_40 : decode cX8_left 40 = .ok (.istore 4, 2) := by decide +kernel
theorem dX8_left_42 : decode cX8_left 42 = .ok (.iconst 0, 1) := by decide +kernel
theorem dX8_left_43 : decode cX8_left 43 = .ok (.istore 5, 2) := by decide +kernel
theorem dX8_left_45 : decode cX8_left 45 = .ok (.iload 5, 2) := by decide +kernel
theorem dX8_left_47 : decode cX8_left 47 = .ok (.aload_n 0, 1) := by decide +kernel
theorem dX8_left_48 : decode cX8_left 48 = .ok (.getfield 21, 3) := by decide +kernel
theorem dX8_left_51 : decode cX8_left 51 = .ok (.invokevirtual 52, 3) := by decide +kernel
theorem dX8_left_54 : decode cX8_left 54 = .ok (.if_icmp .ge 76, 3) := by decide +kernel
theorem dX8_left_57 : decode cX8_left 57 = .ok (.iload 4, 2) := by decide +kernel
theorem dX8_left_59 : decode cX8_left 59 = .ok (.aload_n 0, 1) := by decide +kernel
theorem dX8_left_60 : decode cX8_left 60 = .ok (.getfield 21, 3) := by decide +kernel
theorem dX8_left_63 : decode cX8_left 63 = .ok (.iload 5, 2) := by decide +kernel
theorem dX8_left_65 : decode cX8_left 65 = .ok (.invokevirtual 39, 3) := by decide +kernel
theorem dX8_left_68 : decode cX8_left 68 = .ok (.checkcast 83, 3) := by decide +kernel
theorem dX8_left_71 : decode cX8_left 71 = .ok (.getfield 93, 3) := by decide +kernel
theorem dX8_left_74 : decode cX8_left 74 = .ok (.iload_n 1, 1) := by decide +kernel
theorem dX8_left_75 : decode cX8_left 75 = .ok (.if_icmp .ne 45, 3) := by decide +kernel
theorem dX8_left_78 : decode cX8_left 78 = .ok (.aload_n 0, 1) := by decide +kernel
theorem dX8_left_79 : decode cX8_left 79 = .ok (.getfield 21, 3) := by decide +kernel
theorem dX8_left_82 : decode cX8_left 82 = .ok (.iload 5, 2) := by decide +kernel
theorem dX8_left_84 : decode cX8_left 84 = .ok (.invokevirtual 39, 3) := by decide +kernel
theorem dX8_left_87 : decode cX8_left 87 = .ok (.checkcast 83, 3) := by decide +kernel
theorem dX8_left_90 : decode cX8_left 90 = .ok (.getfield 96, 3) := by decide +kernel
theorem dX8_left_93 : decode cX8_left 93 = .ok (.bipush 30, 2) := by decide +kernel
theorem dX8_left_95 : decode cX8_left 95 = .ok (.idiv, 1) := by decide +kernel
theorem dX8_left_96 : decode cX8_left 96 = .ok (.iload_n 2, 1) := by decide +kernel
theorem dX8_left_97 : decode cX8_left 97 = .ok (.if_icmp .ne 23, 3) := by decide +kernel
theorem dX8_left_100 : decode cX8_left 100 = .ok (.aload_n 0, 1) := by decide +kernel
theorem dX8_left_101 : decode cX8_left 101 = .ok (.aload_n 0, 1) := by decide +kernel
theorem dX8_left_102 : decode cX8_left 102 = .ok (.getfield 21, 3) := by decide +kernel
theorem dX8_left_105 : decode cX8_left 105 = .ok (.iload 5, 2) := by decide +kernel
theorem dX8_left_107 : decode cX8_left 107 = .ok (.invokevirtual 39, 3) := by decide +kernel
theorem dX8_left_110 : decode cX8_left 110 = .ok (.checkcast 83, 3) := by decide +kernel
theorem dX8_left_113 : decode cX8_left 113 = .ok (.iload_n 3, 1) := by decide +kernel
theorem dX8_left_114 : decode cX8_left 114 = .ok (.invokevirtual 117, 3) := by decide +kernel
theorem dX8_left_117 : decode cX8_left 117 = .ok (.goto 4, 3) := by decide +kernel
theorem dX8_left_120 : decode cX8_left 120 = .ok (.iconst 0, 1) := by decide +kernel
theorem dX8_left_121 : decode cX8_left 121 = .ok (.isub, 1) := by decide +kernel
theorem dX8_left_122 : decode cX8_left 122 = .ok (.istore 4, 2) := by decide +kernel
theorem dX8_left_124 : decode cX8_left 124 = .ok (.iinc 5 1, 3) := by decide +kernel
theorem dX8_left_127 : decode cX8_left 127 = .ok (.goto (-82), 3) := by decide +kernel
theorem dX8_left_130 : decode cX8_left 130 = .ok (.iload 4, 2) := by decide +kernel
theorem dX8_left_132 : decode cX8_left 132 = .ok (.ireturn, 1) := by decide +kernel
theorem dX8_goTogether_0 : decode cX8_goTogether 0 = .ok (.aload_n 0, 1) := by decide +kernel
theorem dX8_goTogether_1 : decode cX8_goTogether 1 = .ok (.getfield 21, 3) := by decide +kernel
theorem dX8_goTogether_4 : decode cX8_goTogether 4 = .ok (.iload_n 1, 1) := by decide +kernel
theorem dX8_goTogether_5 : decode cX8_goTogether 5 = .ok (.invokevirtual 39, 3) := by decide +kernel
theorem dX8_goTogether_8 : decode cX8_goTogether 8 = .ok (.checkcast 83, 3) := by decide +kernel
theorem dX8_goTogether_11 : decode cX8_goTogether 11 = .ok (.astore_n 3, 1) := by decide +kernel
theorem dX8_goTogether_12 : decode cX8_goTogether 12 = .ok (.aload_n 3, 1) := by decide +kernel
theorem dX8_goTogether_13 : decode cX8_goTogether 13 = .ok (.getfield 101, 3) := by decide +kernel
theorem dX8_goTogether_16 : decode cX8_goTogether 16 = .ok (.ifCond .ne 53, 3) := by decide +kernel
theorem dX8_goTogether_19 : decode cX8_goTogether 19 = .ok (.aload_n 0, 1) := by decide +kernel
theorem dX8_goTogether_20 : decode cX8_goTogether 20 = .ok (.getfield 24, 3) := by decide +kernel
theorem dX8_goTogether_23 : decode cX8_goTogether 23 = .ok (.iload_n 2, 1) := by decide +kernel
theorem dX8_goTogether_24 : decode cX8_goTogether 24 = .ok (.invokevirtual 39, 3) := by decide +kernel
theorem dX8_goTogether_27 : decode cX8_goTogether 27 = .ok (.checkcast 121, 3) := by decide +kernel
theorem dX8_goTogether_30 : decode cX8_goTogether 30 = .ok (.getfield 123, 3) := by decide +kernel
theorem dX8_goTogether_33 : decode cX8_goTogether 33 = .ok (.iconst (-1), 1) := by decide +kernel
theorem dX8_goTogether_34 : decode cX8_goTogether 34 = .ok (.if_icmp .ne 35, 3) := by decide +kernel
theorem dX8_goTogether_37 : decode cX8_goTogether 37 = .ok (.aload_n 3, 1) := by decide +kernel
theorem dX8_goTogether_38 : decode cX8_goTogether 38 = .ok (.getfield 126, 3) := by decide +kernel
theorem dX8_goTogether_41 : decode cX8_goTogether 41 = .ok (.iload_n 2, 1) := by decide +kernel
theorem dX8_goTogether_42 : decode cX8_goTogether 42 = .ok (.baload, 1) := by decide +kernel
theorem dX8_goTogether_43 : decode cX8_goTogether 43 = .ok (.ifCond .ne 26, 3) := by decide +kernel
theorem dX8_goTogether_46 : decode cX8_goTogether 46 = .ok (.aload_n 3, 1) := by decide +kernel
theorem dX8_goTogether_47 : decode cX8_goTogether 47 = .ok (.aload_n 0, 1) := by decide +kernel
theorem dX8_goTogether_48 : decode cX8_goTogether 48 = .ok (.getfield 24, 3) := by decide +kernel
theorem dX8_goTogether_51 : decode cX8_goTogether 51 = .ok (.iload_n 2, 1) := by decide +kernel
theorem dX8_goTogether_52 : decode cX8_goTogether 52 = .ok (.invokevirtual 39, 3) := by decide +kernel
theorem dX8_goTogether_55 : decode cX8_goTogether 55 = .ok (.checkcast 121, 3) := by decide +kernel
theorem dX8_goTogether_58 : decode cX8_goTogether 58 = .ok (.invokevirtual 130, 3) := by decide +kernel
theorem dX8_goTogether_61 : decode cX8_goTogether 61 = .ok (.iconst (-1), 1) := by decide +kernel
theorem dX8_goTogether_62 : decode cX8_goTogether 62 = .ok (.if_icmp .eq 7, 3) := by decide +kernel
theorem dX8_goTogether_65 : decode cX8_goTogether 65 = .ok (.iconst 1, 1) := by decide +kernel
theorem dX8_goTogether_66 : decode cX8_goTogether 66 = .ok (.goto 4, 3) := by decide +kernel
theorem dX8_goTogether_69 : decode cX8_goTogether 69 = .ok (.iconst 0, 1) := by decide +kernel
theorem dX8_goTogether_70 : decode cX8_goTogether 70 = .ok (.ireturn, 1) := by decide +kernel
theorem dX8_match_0 : decode cX8_match 0 = .ok (.aload_n 0, 1) := by decide +kernel
theorem dX8_match_1 : decode cX8_match 1 = .ok (.getfield 21, 3) := by decide +kernel
theorem dX8_match_4 : decode cX8_match 4 = .ok (.iload_n 1, 1) := by decide +kernel
theorem dX8_match_5 : decode cX8_match 5 = .ok (.invokevirtual 39, 3) := by decide +kernel
theorem dX8_match_8 : decode cX8_match 8 = .ok (.checkcast 83, 3) := by decide +kernel
theorem dX8_match_11 : decode cX8_match 11 = .ok (.astore_n 3, 1) := by decide +kernel
theorem dX8_match_12 : decode cX8_match 12 = .ok (.aload_n 3, 1) := by decide +kernel
theorem dX8_match_13 : decode cX8_match 13 = .ok (.iconst 1, 1) := by decide +kernel
theorem dX8_match_14 : decode cX8_match 14 = .ok (.putfield 101, 3) := by decide +kernel
theorem dX8_match_17 : decode cX8_match 17 = .ok (.aload_n 3, 1) := by decide +kernel
theorem dX8_match_18 : decode cX8_match 18 = .ok (.iload_n 2, 1) := by decide +kernel
theorem dX8_match_19 : decode cX8_match 19 = .ok (.putfield 134, 3) := by decide +kernel
theorem dX8_match_22 : decode cX8_match 22 = .ok (.aload_n 3, 1) := by decide +kernel
theorem dX8_match_23 : decode cX8_match 23 = .ok (.iconst 0, 1) := by decide +kernel
theorem dX8_match_24 : decode cX8_match 24 = .ok (.putfield 137, 3) := by decide +kernel
theorem dX8_match_27 : decode cX8_match 27 = .ok (.aload_n 0, 1) := by decide +kernel
theorem dX8_match_28 : decode cX8_match 28 = .ok (.getfield 24, 3) := by decide +kernel
theorem dX8_match_31 : decode cX8_match 31 = .ok (.iload_n 2, 1) := by decide +kernel
theorem dX8_match_32 : decode cX8_match 32 = .ok (.invokevirtual 39, 3) := by decide +kernel
theorem dX8_match_35 : decode cX8_match 35 = .ok (.checkcast 121, 3) := by decide +kernel
theorem dX8_match_38 : decode cX8_match 38 = .ok (.iload_n 1, 1) := by decide +kernel
theorem dX8_match_39 : decode cX8_match 39 = .ok (.putfield 123, 3) := by decide +kernel
theorem dX8_match_42 : decode cX8_match 42 = .ok (.aload_n 0, 1) := by decide +kernel
theorem dX8_match_43 : decode cX8_match 43 = .ok (.getfield 49, 3) := by decide +kernel
theorem dX8_match_46 : decode cX8_match 46 = .ok (.aload_n 3, 1) := by decide +kernel
theorem dX8_match_47 : decode cX8_match 47 = .ok (.getfield 96, 3) := by decide +kernel
theorem dX8_match_50 : decode cX8_match 50 = .ok (.isub, 1) := by decide +kernel
theorem dX8_match_51 : decode cX8_match 51 = .ok (.bipush 7, 2) := by decide +kernel
theorem dX8_match_53 : decode cX8_match 53 = .ok (.if_icmp .le 4, 3) := by decide +kernel
theorem dX8_match_56 : decode cX8_match 56 = .ok (.return_, 1) := by decide +kernel
theorem dX8_match_57 : decode cX8_match 57 = .ok (.aload_n 0, 1) := by decide +kernel
theorem dX8_match_58 : decode cX8_match 58 = .ok (.getfield 12, 3) := by decide +kernel
theorem dX8_match_61 : decode cX8_match 61 = .ok (.aload_n 3, 1) := by decide +kernel
theorem dX8_match_62 : decode cX8_match 62 = .ok (.getfield 92, 3) := by decide +kernel
theorem dX8_match_65 : decode cX8_match 65 = .ok (.invokevirtual 39, 3) := by decide +kernel
theorem dX8_match_68 : decode cX8_match 68 = .ok (.checkcast 43, 3) := by decide +kernel
theorem dX8_match_71 : decode cX8_match 71 = .ok (.astore 4, 2) := by decide +kernel
theorem dX8_match_73 : decode cX8_match 73 = .ok (.aload 4, 2) := by decide +kernel
theorem dX8_match_75 : decode cX8_match 75 = .ok (.dup, 1) := by decide +kernel
theorem dX8_match_76 : decode cX8_match 76 = .ok (.getfield 140, 3) := by decide +kernel
theorem dX8_match_79 : decode cX8_match 79 = .ok (.iconst 1, 1) := by decide +kernel
theorem dX8_match_80 : decode cX8_match 80 = .ok (.iadd, 1) := by decide +kernel
theorem dX8_match_81 : decode cX8_match 81 = .ok (.putfield 140, 3) := by decide +kernel
theorem dX8_match_84 : decode cX8_match 84 = .ok (.aload 4, 2) := by decide +kernel
theorem dX8_match_86 : decode cX8_match 86 = .ok (.getfield 140, 3) := by decide +kernel
theorem dX8_match_89 : decode cX8_match 89 = .ok (.iconst 3, 1) := by decide +kernel
theorem dX8_match_90 : decode cX8_match 90 = .ok (.if_icmp .ge 4, 3) := by decide +kernel
theorem dX8_match_93 : decode cX8_match 93 = .ok (.return_, 1) := by decide +kernel
theorem dX8_match_94 : decode cX8_match 94 = .ok (.aload 4, 2) := by decide +kernel
theorem dX8_match_96 : decode cX8_match 96 = .ok (.iconst 0, 1) := by decide +kernel
theorem dX8_match_97 : decode cX8_match 97 = .ok (.putfield 140, 3) := by decide +kernel
theorem dX8_match_100 : decode cX8_match 100 = .ok (.aload 4, 2) := by decide +kernel
theorem dX8_match_102 : decode cX8_match 102 = .ok (.bipush 10, 2) := by decide +kernel
theorem dX8_match_104 : decode cX8_match 104 = .ok (.aload 4, 2) := by decide +kernel
theorem dX8_match_106 : decode cX8_match 106 = .ok (.getfield 77, 3) := by decide +kernel
theorem dX8_match_109 : decode cX8_match 109 = .ok (.iconst 1, 1) := by decide +kernel
theorem dX8_match_110 : decode cX8_match 110 = .ok (.iadd, 1) := by decide +kernel
theorem dX8_match_111 : decode cX8_match 111 = .ok (.invokestatic 143, 3) := by decide +kernel
theorem dX8_match_114 : decode cX8_match 114 = .ok (.putfield 77, 3) := by decide +kernel
theorem dX8_match_117 : decode cX8_match 117 = .ok (.return_, 1) := by decide +kernel
theorem dX8_matchAll_0 : decode cX8_matchAll 0 = .ok (.iconst 0, 1) := by decide +kernel
theorem dX8_matchAll_1 : decode cX8_matchAll 1 = .ok (.istore_n 1, 1) := by decide +kernel
theorem dX8_matchAll_2 : decode cX8_matchAll 2 = .ok (.iload_n 1, 1) := by decide +kernel
theorem dX8_matchAll_3 : decode cX8_matchAll 3 = .ok (.ifCond .ne 157, 3) := by decide +kernel
theorem dX8_matchAll_6 : decode cX8_matchAll 6 = .ok (.iconst (-1), 1) := by decide +kernel
theorem dX8_matchAll_7 : decode cX8_matchAll 7 = .ok (.istore_n 2, 1) := by decide +kernel
theorem dX8_matchAll_8 : decode cX8_matchAll 8 = .ok (.iconst (-1), 1) := by decide +kernel
theorem dX8_matchAll_9 : decode cX8_matchAll 9 = .ok (.istore_n 3, 1) := by decide +kernel
theorem dX8_matchAll_10 : decode cX8_matchAll 10 = .ok (.iconst (-1), 1) := by decide +kernel
theorem dX8_matchAll_11 : decode cX8_matchAll 11 = .ok (.istore 4, 2) := by decide +kernel
theorem dX8_matchAll_13 : decode cX8_matchAll 13 = .ok (.iconst 0, 1) := by decide +kernel
theorem dX8_matchAll_14 : decode cX8_matchAll 14 = .ok (.istore 5, 2) := by decide +kernel
theorem dX8_matchAll_16 : decode cX8_matchAll 16 = .ok (.iload 5, 2) := by decide +kernel
theorem dX8_matchAll_18 : decode cX8_matchAll 18 = .ok (.aload_n 0, 1) := by decide +kernel
theorem dX8_matchAll_19 : decode cX8_matchAll 19 = .ok (.getfield 21, 3) := by decide +kernel
theorem dX8_matchAll_22 : decode cX8_matchAll 22 = .ok (.invokevirtual 52, 3) := by decide +kernel
theorem dX8_matchAll_25 : decode cX8_matchAll 25 = .ok (.if_icmp .ge 111, 3) := by decide +kernel
theorem dX8_matchAll_28 : decode cX8_matchAll 28 = .ok (.iconst 0, 1) := by decide +kernel
theorem dX8_matchAll_29 : decode cX8_matchAll 29 = .ok (.istore 6, 2) := by decide +kernel
theorem dX8_matchAll_31 : decode cX8_matchAll 31 = .ok (.iload 6, 2) := by decide +kernel
theorem dX8_matchAll_33 : decode cX8_matchAll 33 = .ok (.aload_n 0, 1) := by decide +kernel
theorem dX8_matchAll_34 : decode cX8_matchAll 34 = .ok (.getfield 24, 3) := by decide +kernel
theorem dX8_matchAll_37 : decode cX8_matchAll 37 = .ok (.invokevirtual 52, 3) := by decide +kernel
theorem dX8_matchAll_40 : decode cX8_matchAll 40 = .ok (.if_icmp .ge 90, 3) := by decide +kernel
theorem dX8_matchAll_43 : decode cX8_matchAll 43 = .ok (.aload_n 0, 1) := by decide +kernel
theorem dX8_matchAll_44 : decode cX8_matchAll 44 = .ok (.iload 5, 2) := by decide +kernel
theorem dX8_matchAll_46 : decode cX8_matchAll 46 = .ok (.iload 6, 2) := by decide +kernel
theorem dX8_matchAll_48 : decode cX8_matchAll 48 = .ok (.invokevirtual 146, 3) := by decide +kernel
theorem dX8_matchAll_51 : decode cX8_matchAll 51 = .ok (.ifCond .eq 73, 3) := by decide +kernel
theorem dX8_matchAll_54 : decode cX8_matchAll 54 = .ok (.aload_n 0, 1) := by decide +kernel
theorem dX8_matchAll_55 : decode cX8_matchAll 55 = .ok (.getfield 21, 3) := by decide +kernel
theorem dX8_matchAll_58 : decode cX8_matchAll 58 = .ok (.iload 5, 2) := by decide +kernel
theorem dX8_matchAll_60 : decode cX8_matchAll 60 = .ok (.invokevirtual 39, 3) := by decide +kernel
theorem dX8_matchAll_63 : decode cX8_matchAll 63 = .ok (.checkcast 83, 3) := by decide +kernel
theorem dX8_matchAll_66 : decode cX8_matchAll 66 = .ok (.aload_n 0, 1) := by decide +kernel
theorem dX8_matchAll_67 : decode cX8_matchAll 67 = .ok (.getfield 24, 3) := by decide +kernel
theorem dX8_matchAll_70 : decode cX8_matchAll 70 = .ok (.iload 6, 2) := by decide +kernel
theorem dX8_matchAll_72 : decode cX8_matchAll 72 = .ok (.invokevirtual 39, 3) := by decide +kernel
theorem dX8_matchAll_75 : decode cX8_matchAll 75 = .ok (.checkcast 121, 3) := by decide +kernel
theorem dX8_matchAll_78 : decode cX8_matchAll 78 = .ok (.invokevirtual 130, 3) := by decide +kernel
theorem dX8_matchAll_81 : decode cX8_matchAll 81 = .ok (.iload 4, 2) := by decide +kernel
theorem dX8_matchAll_83 : decode cX8_matchAll 83 = .ok (.if_icmp .gt 6, 3) := by decide +kernel
theorem dX8_matchAll_86 : decode cX8_matchAll 86 = .ok (.goto 38, 3) := by decide +kernel
theorem dX8_matchAll_89 : decode cX8_matchAll 89 = .ok (.iload 5, 2) := by decide +kernel
theorem dX8_matchAll_91 : decode cX8_matchAll 91 = .ok (.istore_n 2, 1) := by decide +kernel
theorem dX8_matchAll_92 : decode cX8_matchAll 92 = .ok (.iload 6, 2) := by decide +kernel
theorem dX8_matchAll_94 : decode cX8_matchAll 94 = .ok (.istore_n 3, 1) := by decide +kernel
theorem dX8_matchAll_95 : decode cX8_matchAll 95 = .ok (.aload_n 0, 1) := by decide +kernel
theorem dX8_matchAll_96 : decode cX8_matchAll 96 = .ok (.getfield 21, 3) := by decide +kernel
theorem dX8_matchAll_99 : decode cX8_matchAll 99 = .ok (.iload 5, 2) := by decide +kernel
theorem dX8_matchAll_101 : decode cX8_matchAll 101 = .ok (.invokevirtual 39, 3) := by decide +kernel
theorem dX8_matchAll_104 : decode cX8_matchAll 104 = .ok (.checkcast 83, 3) := by decide +kernel
theorem dX8_matchAll_107 : decode cX8_matchAll 107 = .ok (.aload_n 0, 1) := by decide +kernel
theorem dX8_matchAll_108 : decode cX8_matchAll 108 = .ok (.getfield 24, 3) := by decide +kernel
theorem dX8_matchAll_111 : decode cX8_matchAll 111 = .ok (.iload 6, 2) := by decide +kernel
theorem dX8_matchAll_113 : decode cX8_matchAll 113 = .ok (.invokevirtual 39, 3) := by decide +kernel
theorem dX8_matchAll_116 : decode cX8_matchAll 116 = .ok (.checkcast 121, 3) := by decide +kernel
theorem dX8_matchAll_119 : decode cX8_matchAll 119 = .ok (.invokevirtual 130, 3) := by decide +kernel
theorem dX8_matchAll_122 : decode cX8_matchAll 122 = .ok (.istore 4, 2) := by decide +kernel
theorem dX8_matchAll_124 : decode cX8_matchAll 124 = .ok (.iinc 6 1, 3) := by decide +kernel
theorem dX8_matchAll_127 : decode cX8_matchAll 127 = .ok (.goto (-96), 3) := by decide +kernel
theorem dX8_matchAll_130 : decode cX8_matchAll 130 = .ok (.iinc 5 1, 3) := by decide +kernel
theorem dX8_matchAll_133 : decode cX8_matchAll 133 = .ok (.goto (-117), 3) := by decide +kernel
theorem dX8_matchAll_136 : decode cX8_matchAll 136 = .ok (.iload_n 2, 1) := by decide +kernel
theorem dX8_matchAll_137 : decode cX8_matchAll 137 = .ok (.iconst (-1), 1) := by decide +kernel
theorem dX8_matchAll_138 : decode cX8_matchAll 138 = .ok (.if_icmp .ne 7, 3) := by decide +kernel
theorem dX8_matchAll_141 : decode cX8_matchAll 141 = .ok (.iconst 1, 1) := by decide +kernel
theorem dX8_matchAll_142 : decode cX8_matchAll 142 = .ok (.goto 4, 3) := by decide +kernel
theorem dX8_matchAll_145 : decode cX8_matchAll 145 = .ok (.iconst 0, 1) := by decide +kernel
theorem dX8_matchAll_146 : decode cX8_matchAll 146 = .ok (.istore_n 1, 1) := by decide +kernel
theorem dX8_matchAll_147 : decode cX8_matchAll 147 = .ok (.iload_n 1, 1) := by decide +kernel
theorem dX8_matchAll_148 : decode cX8_matchAll 148 = .ok (.ifCond .ne 9, 3) := by decide +kernel
theorem dX8_matchAll_151 : decode cX8_matchAll 151 = .ok (.aload_n 0, 1) := by decide +kernel
theorem dX8_matchAll_152 : decode cX8_matchAll 152 = .ok (.iload_n 2, 1) := by decide +kernel
theorem dX8_matchAll_153 : decode cX8_matchAll 153 = .ok (.iload_n 3, 1) := by decide +kernel
theorem dX8_matchAll_154 : decode cX8_matchAll 154 = .ok (.invokevirtual 150, 3) := by decide +kernel
theorem dX8_matchAll_157 : decode cX8_matchAll 157 = .ok (.goto (-155), 3) := by decide +kernel
theorem dX8_matchAll_160 : decode cX8_matchAll 160 = .ok (.return_, 1) := by decide +kernel
theorem dX8_bossOf_0 : decode cX8_bossOf 0 = .ok (.aload_n 0, 1) := by decide +kernel
theorem dX8_bossOf_1 : decode cX8_bossOf 1 = .ok (.getfield 12, 3) := by decide +kernel
theorem dX8_bossOf_4 : decode cX8_bossOf 4 = .ok (.aload_n 1, 1) := by decide +kernel
theorem dX8_bossOf_5 : decode cX8_bossOf 5 = .ok (.getfield 92, 3) := by decide +kernel
theorem dX8_bossOf_8 : decode cX8_bossOf 8 = .ok (.invokevirtual 39, 3) := by decide +kernel
theorem dX8_bossOf_11 : decode cX8_bossOf 11 = .ok (.checkcast 43, 3) := by decide +kernel
theorem dX8_bossOf_14 : decode cX8_bossOf 14 = .ok (.getfield 154, 3) := by decide +kernel
theorem dX8_bossOf_17 : decode cX8_bossOf 17 = .ok (.astore_n 3, 1) := by decide +kernel
theorem dX8_bossOf_18 : decode cX8_bossOf 18 = .ok (.iconst 0, 1) := by decide +kernel
theorem dX8_bossOf_19 : decode cX8_bossOf 19 = .ok (.istore 4, 2) := by decide +kernel
theorem dX8_bossOf_21 : decode cX8_bossOf 21 = .ok (.iload 4, 2) := by decide +kernel
theorem dX8_bossOf_23 : decode cX8_bossOf 23 = .ok (.iload_n 2, 1) := by decide +kernel
theorem dX8_bossOf_24 : decode cX8_bossOf 24 = .ok (.if_icmp .ge 18, 3) := by decide +kernel
theorem dX8_bossOf_27 : decode cX8_bossOf 27 = .ok (.aload_n 3, 1) := by decide +kernel
theorem dX8_bossOf_28 : decode cX8_bossOf 28 = .ok (.ifnull 14, 3) := by decide +kernel
theorem dX8_bossOf_31 : decode cX8_bossOf 31 = .ok (.aload_n 3, 1) := by decide +kernel
theorem dX8_bossOf_32 : decode cX8_bossOf 32 = .ok (.getfield 154, 3) := by decide +kernel
theorem dX8_bossOf_35 : decode cX8_bossOf 35 = .ok (.astore_n 3, 1) := by decide +kernel
theorem dX8_bossOf_36 : decode cX8_bossOf 36 = .ok (.iinc 4 1, 3) := by decide +kernel
theorem dX8_bossOf_39 : decode cX8_bossOf 39 = .ok (.goto (-18), 3) := by decide +kernel
theorem dX8_bossOf_42 : decode cX8_bossOf 42 = .ok (.iload_n 2, 1) := by decide +kernel
theorem dX8_bossOf_43 : decode cX8_bossOf 43 = .ok (.aload_n 1, 1) := by decide +kernel
theorem dX8_bossOf_44 : decode cX8_bossOf 44 = .ok (.invokevirtual 158, 3) := by decide +kernel
theorem dX8_bossOf_47 : decode cX8_bossOf 47 = .ok (.if_icmp .ge 7, 3) := by decide +kernel
theorem dX8_bossOf_50 : decode cX8_bossOf 50 = .ok (.aload_n 3, 1) := by decide +kernel
theorem dX8_bossOf_51 : decode cX8_bossOf 51 = .ok (.goto 4, 3) := by decide +kernel
theorem dX8_bossOf_54 : decode cX8_bossOf 54 = .ok (.aconst_null, 1) := by decide +kernel
theorem dX8_bossOf_55 : decode cX8_bossOf 55 = .ok (.areturn, 1) := by decide +kernel
theorem dX8_approver_0 : decode cX8_approver 0 = .ok (.aload_n 0, 1) := by decide +kernel
theorem dX8_approver_1 : decode cX8_approver 1 = .ok (.aload_n 1, 1) := by decide +kernel
theorem dX8_approver_2 : decode cX8_approver 2 = .ok (.aload_n 1, 1) := by decide +kernel
theorem dX8_approver_3 : decode cX8_approver 3 = .ok (.getfield 137, 3) := by decide +kernel
theorem dX8_approver_6 : decode cX8_approver 6 = .ok (.invokevirtual 161, 3) := by decide +kernel
theorem dX8_approver_9 : decode cX8_approver 9 = .ok (.astore_n 2, 1) := by decide +kernel
theorem dX8_approver_10 : decode cX8_approver 10 = .ok (.aload_n 1, 1) := by decide +kernel
theorem dX8_approver_11 : decode cX8_approver 11 = .ok (.getfield 101, 3) := by decide +kernel
theorem dX8_approver_14 : decode cX8_approver 14 = .ok (.iconst 1, 1) := by decide +kernel
theorem dX8_approver_15 : decode cX8_approver 15 = .ok (.if_icmp .ne 7, 3) := by decide +kernel
theorem dX8_approver_18 : decode cX8_approver 18 = .ok (.aload_n 2, 1) := by decide +kernel
theorem dX8_approver_19 : decode cX8_approver 19 = .ok (.ifnonnull 5, 3) := by decide +kernel
theorem dX8_approver_22 : decode cX8_approver 22 = .ok (.iconst (-1), 1) := by decide +kernel
theorem dX8_approver_23 : decode cX8_approver 23 = .ok (.ireturn, 1) := by decide +kernel
theorem dX8_approver_24 : decode cX8_approver 24 = .ok (.aload_n 0, 1) := by decide +kernel
theorem dX8_approver_25 : decode cX8_approver 25 = .ok (.aload_n 2, 1) := by decide +kernel
theorem dX8_approver_26 : decode cX8_approver 26 = .ok (.getfield 165, 3) := by decide +kernel
theorem dX8_approver_29 : decode cX8_approver 29 = .ok (.invokevirtual 168, 3) := by decide +kernel
theorem dX8_approver_32 : decode cX8_approver 32 = .ok (.ifCond .ne 8, 3) := by decide +kernel
theorem dX8_approver_35 : decode cX8_approver 35 = .ok (.aload_n 2, 1) := by decide +kernel
theorem dX8_approver_36 : decode cX8_approver 36 = .ok (.getfield 165, 3) := by decide +kernel
theorem dX8_approver_39 : decode cX8_approver 39 = .ok (.ireturn, 1) := by decide +kernel
theorem dX8_approver_40 : decode cX8_approver 40 = .ok (.aload_n 2, 1) := by decide +kernel
theorem dX8_approver_41 : decode cX8_approver 41 = .ok (.getfield 172, 3) := by decide +kernel
theorem dX8_approver_44 : decode cX8_approver 44 = .ok (.aload_n 1, 1) := by decide +kernel
theorem dX8_approver_45 : decode cX8_approver 45 = .ok (.getfield 92, 3) := by decide +kernel
theorem dX8_approver_48 : decode cX8_approver 48 = .ok (.if_icmp .eq 14, 3) := by decide +kernel
theorem dX8_approver_51 : decode cX8_approver 51 = .ok (.aload_n 0, 1) := by decide +kernel
theorem dX8_approver_52 : decode cX8_approver 52 = .ok (.aload_n 2, 1) := by decide +kernel
theorem dX8_approver_53 : decode cX8_approver 53 = .ok (.getfield 172, 3) := by decide +kernel
theorem dX8_approver_56 : decode cX8_approver 56 = .ok (.invokevirtual 168, 3) := by decide +kernel
theorem dX8_approver_59 : decode cX8_approver 59 = .ok (.ifCond .eq 7, 3) := by decide +kernel
theorem dX8_approver_62 : decode cX8_approver 62 = .ok (.iconst (-1), 1) := by decide +kernel
theorem dX8_approver_63 : decode cX8_approver 63 = .ok (.goto 7, 3) := by decide +kernel
theorem dX8_approver_66 : decode cX8_approver 66 = .ok (.aload_n 2, 1) := by decide +kernel
theorem dX8_approver_67 : decode cX8_approver 67 = .ok (.getfield 172, 3) := by decide +kernel
theorem dX8_approver_70 : decode cX8_approver 70 = .ok (.ireturn, 1) := by decide +kernel
theorem dX8_goOn_0 : decode cX8_goOn 0 = .ok (.iconst 0, 1) := by decide +kernel
theorem dX8_goOn_1 : decode cX8_goOn 1 = .ok (.istore_n 1, 1) := by decide +kernel
theorem dX8_goOn_2 : decode cX8_goOn 2 = .ok (.iload_n 1, 1) := by decide +kernel
theorem dX8_goOn_3 : decode cX8_goOn 3 = .ok (.aload_n 0, 1) := by decide +kernel
theorem dX8_goOn_4 : decode cX8_goOn 4 = .ok (.getfield 21, 3) := by decide +kernel
theorem dX8_goOn_7 : decode cX8_goOn 7 = .ok (.invokevirtual 52, 3) := by decide +kernel
theorem dX8_goOn_10 : decode cX8_goOn 10 = .ok (.if_icmp .ge 83, 3) := by decide +kernel
theorem dX8_goOn_13 : decode cX8_goOn 13 = .ok (.aload_n 0, 1) := by decide +kernel
theorem dX8_goOn_14 : decode cX8_goOn 14 = .ok (.getfield 21, 3) := by decide +kernel
theorem dX8_goOn_17 : decode cX8_goOn 17 = .ok (.iload_n 1, 1) := by decide +kernel
theorem dX8_goOn_18 : decode cX8_goOn 18 = .ok (.invokevirtual 39, 3) := by decide +kernel
theorem dX8_goOn_21 : decode cX8_goOn 21 = .ok (.checkcast 83, 3) := by decide +kernel
theorem dX8_goOn_24 : decode cX8_goOn 24 = .ok (.astore_n 2, 1) := by decide +kernel
theorem dX8_goOn_25 : decode cX8_goOn 25 = .ok (.aload_n 2, 1) := by decide +kernel
theorem dX8_goOn_26 : decode cX8_goOn 26 = .ok (.getfield 101, 3) := by decide +kernel
theorem dX8_goOn_29 : decode cX8_goOn 29 = .ok (.iconst 1, 1) := by decide +kernel
theorem dX8_goOn_30 : decode cX8_goOn 30 = .ok (.if_icmp .eq 6, 3) := by decide +kernel
theorem dX8_goOn_33 : decode cX8_goOn 33 = .ok (.goto 54, 3) := by decide +kernel
theorem dX8_goOn_36 : decode cX8_goOn 36 = .ok (.aload_n 0, 1) := by decide +kernel
theorem dX8_goOn_37 : decode cX8_goOn 37 = .ok (.aload_n 2, 1) := by decide +kernel
theorem dX8_goOn_38 : decode cX8_goOn 38 = .ok (.aload_n 2, 1) := by decide +kernel
theorem dX8_goOn_39 : decode cX8_goOn 39 = .ok (.getfield 137, 3) := by decide +kernel
theorem dX8_goOn_42 : decode cX8_goOn 42 = .ok (.invokevirtual 161, 3) := by decide +kernel
theorem dX8_goOn_45 : decode cX8_goOn 45 = .ok (.ifnull 25, 3) := by decide +kernel
theorem dX8_goOn_48 : decode cX8_goOn 48 = .ok (.aload_n 0, 1) := by decide +kernel
theorem dX8_goOn_49 : decode cX8_goOn 49 = .ok (.aload_n 2, 1) := by decide +kernel
theorem dX8_goOn_50 : decode cX8_goOn 50 = .ok (.invokevirtual 175, 3) := by decide +kernel
theorem dX8_goOn_53 : decode cX8_goOn 53 = .ok (.iconst (-1), 1) := by decide +kernel
theorem dX8_goOn_54 : decode cX8_goOn 54 = .ok (.if_icmp .ne 16, 3) := by decide +kernel
theorem dX8_goOn_57 : decode cX8_goOn 57 = .ok (.aload_n 2, 1) := by decide +kernel
theorem dX8_goOn_58 : decode cX8_goOn 58 = .ok (.dup, 1) := by decide +kernel
theorem dX8_goOn_59 : decode cX8_goOn 59 = .ok (.getfield 137, 3) := by decide +kernel
theorem dX8_goOn_62 : decode cX8_goOn 62 = .ok (.iconst 1, 1) := by decide +kernel
theorem dX8_goOn_63 : decode cX8_goOn 63 = .ok (.iadd, 1) := by decide +kernel
theorem dX8_goOn_64 : decode cX8_goOn 64 = .ok (.putfield 137, 3) := by decide +kernel
theorem dX8_goOn_67 : decode cX8_goOn 67 = .ok (.goto (-31), 3) := by decide +kernel
theorem dX8_goOn_70 : decode cX8_goOn 70 = .ok (.aload_n 0, 1) := by decide +kernel
theorem dX8_goOn_71 : decode cX8_goOn 71 = .ok (.aload_n 2, 1) := by decide +kernel
theorem dX8_goOn_72 : decode cX8_goOn 72 = .ok (.aload_n 2, 1) := by decide +kernel
theorem dX8_goOn_73 : decode cX8_goOn 73 = .ok (.getfield 137, 3) := by decide +kernel
theorem dX8_goOn_76 : decode cX8_goOn 76 = .ok (.invokevirtual 161, 3) := by decide +kernel
theorem dX8_goOn_79 : decode cX8_goOn 79 = .ok (.ifnonnull 8, 3) := by decide +kernel
theorem dX8_goOn_82 : decode cX8_goOn 82 = .ok (.aload_n 2, 1) := by decide +kernel
theorem dX8_goOn_83 : decode cX8_goOn 83 = .ok (.iconst 2, 1) := by decide +kernel
theorem dX8_goOn_84 : decode cX8_goOn 84 = .ok (.putfield 101, 3) := by decide +kernel
theorem dX8_goOn_87 : decode cX8_goOn 87 = .ok (.iinc 1 1, 3) := by decide +kernel
theorem dX8_goOn_90 : decode cX8_goOn 90 = .ok (.goto (-88), 3) := by decide +kernel
theorem dX8_goOn_93 : decode cX8_goOn 93 = .ok (.return_, 1) := by decide +kernel
theorem dX8_dayOn_0 : decode cX8_dayOn 0 = .ok (.aload_n 0, 1) := by decide +kernel
theorem dX8_dayOn_1 : decode cX8_dayOn 1 = .ok (.dup, 1) := by decide +kernel
theorem dX8_dayOn_2 : decode cX8_dayOn 2 = .ok (.getfield 49, 3) := by decide +kernel
theorem dX8_dayOn_5 : decode cX8_dayOn 5 = .ok (.iconst 1, 1) := by decide +kernel
theorem dX8_dayOn_6 : decode cX8_dayOn 6 = .ok (.iadd, 1) := by decide +kernel
theorem dX8_dayOn_7 : decode cX8_dayOn 7 = .ok (.putfield 49, 3) := by decide +kernel
theorem dX8_dayOn_10 : decode cX8_dayOn 10 = .ok (.iconst 0, 1) := by decide +kernel
theorem dX8_dayOn_11 : decode cX8_dayOn 11 = .ok (.istore_n 1, 1) := by decide +kernel
theorem dX8_dayOn_12 : decode cX8_dayOn 12 = .ok (.iconst 0, 1) := by decide +kernel
theorem dX8_dayOn_13 : decode cX8_dayOn 13 = .ok (.istore_n 2, 1) := by decide +kernel
theorem dX8_dayOn_14 : decode cX8_dayOn 14 = .ok (.iload_n 2, 1) := by decide +kernel
theorem dX8_dayOn_15 : decode cX8_dayOn 15 = .ok (.aload_n 0, 1) := by decide +kernel
theorem dX8_dayOn_16 : decode cX8_dayOn 16 = .ok (.getfield 21, 3) := by decide +kernel
theorem dX8_dayOn_19 : decode cX8_dayOn 19 = .ok (.invokevirtual 52, 3) := by decide +kernel
theorem dX8_dayOn_22 : decode cX8_dayOn 22 = .ok (.if_icmp .ge 119, 3) := by decide +kernel
theorem dX8_dayOn_25 : decode cX8_dayOn 25 = .ok (.aload_n 0, 1) := by decide +kernel
theorem dX8_dayOn_26 : decode cX8_dayOn 26 = .ok (.getfield 21, 3) := by decide +kernel
theorem dX8_dayOn_29 : decode cX8_dayOn 29 = .ok (.iload_n 2, 1) := by decide +kernel
theorem dX8_dayOn_30 : decode cX8_dayOn 30 = .ok (.invokevirtual 39, 3) := by decide +kernel
theorem dX8_dayOn_33 : decode cX8_dayOn 33 = .ok (.checkcast 83, 3) := by decide +kernel
theorem dX8_dayOn_36 : decode cX8_dayOn 36 = .ok (.astore_n 3, 1) := by decide +kernel
theorem dX8_dayOn_37 : decode cX8_dayOn 37 = .ok (.aload_n 0, 1) := by decide +kernel
theorem dX8_dayOn_38 : decode cX8_dayOn 38 = .ok (.getfield 49, 3) := by decide +kernel
theorem dX8_dayOn_41 : decode cX8_dayOn 41 = .ok (.aload_n 3, 1) := by decide +kernel
theorem dX8_dayOn_42 : decode cX8_dayOn 42 = .ok (.getfield 96, 3) := by decide +kernel
theorem dX8_dayOn_45 : decode cX8_dayOn 45 = .ok (.isub, 1) := by decide +kernel
theorem dX8_dayOn_46 : decode cX8_dayOn 46 = .ok (.istore 4, 2) := by decide +kernel
theorem dX8_dayOn_48 : decode cX8_dayOn 48 = .ok (.aload_n 3, 1) := by decide +kernel
theorem dX8_dayOn_49 : decode cX8_dayOn 49 = .ok (.getfield 101, 3) := by decide +kernel
theorem dX8_dayOn_52 : decode cX8_dayOn 52 = .ok (.ifCond .ne 83, 3) := by decide +kernel
theorem dX8_dayOn_55 : decode cX8_dayOn 55 = .ok (.iload 4, 2) := by decide +kernel
theorem dX8_dayOn_57 : decode cX8_dayOn 57 = .ok (.bipush 8, 2) := by decide +kernel
theorem dX8_dayOn_59 : decode cX8_dayOn 59 = .ok (.if_icmp .eq 13, 3) := by decide +kernel
theorem dX8_dayOn_62 : decode cX8_dayOn 62 = .ok (.iload 4, 2) := by decide +kernel
theorem dX8_dayOn_64 : decode cX8_dayOn 64 = .ok (.bipush 15, 2) := by decide +kernel
theorem dX8_dayOn_66 : decode cX8_dayOn 66 = .ok (.if_icmp .ge 6, 3) := by decide +kernel
theorem dX8_dayOn_69 : decode cX8_dayOn 69 = .ok (.goto 66, 3) := by decide +kernel
theorem dX8_dayOn_72 : decode cX8_dayOn 72 = .ok (.iload 4, 2) := by decide +kernel
theorem dX8_dayOn_74 : decode cX8_dayOn 74 = .ok (.bipush 8, 2) := by decide +kernel
theorem dX8_dayOn_76 : decode cX8_dayOn 76 = .ok (.if_icmp .ne 11, 3) := by decide +kernel
theorem dX8_dayOn_79 : decode cX8_dayOn 79 = .ok (.aload_n 3, 1) := by decide +kernel
theorem dX8_dayOn_80 : decode cX8_dayOn 80 = .ok (.iconst 1, 1) := by decide +kernel
theorem dX8_dayOn_81 : decode cX8_dayOn 81 = .ok (.putfield 178, 3) := by decide +kernel
theorem dX8_dayOn_84 : decode cX8_dayOn 84 = .ok (.goto 8, 3) := by decide +kernel
theorem dX8_dayOn_87 : decode cX8_dayOn 87 = .ok (.aload_n 3, 1) := by decide +kernel
theorem dX8_dayOn_88 : decode cX8_dayOn 88 = .ok (.iconst 3, 1) := by decide +kernel
theorem dX8_dayOn_89 : decode cX8_dayOn 89 = .ok (.putfield 101, 3) := by decide +kernel
theorem dX8_dayOn_92 : decode cX8_dayOn 92 = .ok (.aload_n 0, 1) := by decide +kernel
theorem dX8_dayOn_93 : decode cX8_dayOn 93 = .ok (.getfield 12, 3) := by decide +kernel
theorem dX8_dayOn_96 : decode cX8_dayOn 96 = .ok (.aload_n 3, 1) := by decide +kernel
theorem dX8_dayOn_97 : decode cX8_dayOn 97 = .ok (.getfield 92, 3) := by decide +kernel
theorem dX8_dayOn_100 : decode cX8_dayOn 100 = .ok (.invokevirtual 39, 3) := by decide +kernel
theorem dX8_dayOn_103 : decode cX8_dayOn 103 = .ok (.checkcast 43, 3) := by decide +kernel
theorem dX8_dayOn_106 : decode cX8_dayOn 106 = .ok (.iconst 0, 1) := by decide +kernel
theorem dX8_dayOn_107 : decode cX8_dayOn 107 = .ok (.aload_n 0, 1) := by decide +kernel
theorem dX8_dayOn_108 : decode cX8_dayOn 108 = .ok (.getfield 12, 3) := by decide +kernel
theorem dX8_dayOn_111 : decode cX8_dayOn 111 = .ok (.aload_n 3, 1) := by decide +kernel
theorem dX8_dayOn_112 : decode cX8_dayOn 112 = .ok (.getfield 92, 3) := by decide +kernel
theorem dX8_dayOn_115 : decode cX8_dayOn 115 = .ok (.invokevirtual 39, 3) := by decide +kernel
theorem dX8_dayOn_118 : decode cX8_dayOn 118 = .ok (.checkcast 43, 3) := by decide +kernel
theorem dX8_dayOn_121 : decode cX8_dayOn 121 = .ok (.getfield 77, 3) := by decide +kernel
theorem dX8_dayOn_124 : decode cX8_dayOn 124 = .ok (.iconst 1, 1) := by decide +kernel
theorem dX8_dayOn_125 : decode cX8_dayOn 125 = .ok (.isub, 1) := by decide +kernel
theorem dX8_dayOn_126 : decode cX8_dayOn 126 = .ok (.invokestatic 112, 3) := by decide +kernel
theorem dX8_dayOn_129 : decode cX8_dayOn 129 = .ok (.putfield 77, 3) := by decide +kernel
theorem dX8_dayOn_132 : decode cX8_dayOn 132 = .ok (.iinc 1 1, 3) := by decide +kernel
theorem dX8_dayOn_135 : decode cX8_dayOn 135 = .ok (.iinc 2 1, 3) := by decide +kernel
theorem dX8_dayOn_138 : decode cX8_dayOn 138 = .ok (.goto (-124), 3) := by decide +kernel
theorem dX8_dayOn_141 : decode cX8_dayOn 141 = .ok (.aload_n 0, 1) := by decide +kernel
theorem dX8_dayOn_142 : decode cX8_dayOn 142 = .ok (.invokevirtual 182, 3) := by decide +kernel
theorem dX8_dayOn_145 : decode cX8_dayOn 145 = .ok (.iload_n 1, 1) := by decide +kernel
theorem dX8_dayOn_146 : decode cX8_dayOn 146 = .ok (.ireturn, 1) := by decide +kernel
theorem dX8_trustBehind_0 : decode cX8_trustBehind 0 = .ok (.aload_n 0, 1) := by decide +kernel
theorem dX8_trustBehind_1 : decode cX8_trustBehind 1 = .ok (.getfield 12, 3) := by decide +kernel
theorem dX8_trustBehind_4 : decode cX8_trustBehind 4 = .ok (.iload_n 1, 1) := by decide +kernel
theorem dX8_trustBehind_5 : decode cX8_trustBehind 5 = .ok (.invokevirtual 39, 3) := by decide +kernel
theorem dX8_trustBehind_8 : decode cX8_trustBehind 8 = .ok (.checkcast 43, 3) := by decide +kernel
theorem dX8_trustBehind_11 : decode cX8_trustBehind 11 = .ok (.getfield 77, 3) := by decide +kernel
theorem dX8_trustBehind_14 : decode cX8_trustBehind 14 = .ok (.istore_n 3, 1) := by decide +kernel
theorem dX8_trustBehind_15 : decode cX8_trustBehind 15 = .ok (.aload_n 0, 1) := by decide +kernel
theorem dX8_trustBehind_16 : decode cX8_trustBehind 16 = .ok (.getfield 21, 3) := by decide +kernel
theorem dX8_trustBehind_19 : decode cX8_trustBehind 19 = .ok (.invokevirtual 52, 3) := by decide +kernel
theorem dX8_trustBehind_22 : decode cX8_trustBehind 22 = .ok (.newarray .boolean, 2) := by decide +kernel
theorem dX8_trustBehind_24 : decode cX8_trustBehind 24 = .ok (.astore 4, 2) := by decide +kernel
theorem dX8_trustBehind_26 : decode cX8_trustBehind 26 = .ok (.aload_n 0, 1) := by decide +kernel
theorem dX8_trustBehind_27 : decode cX8_trustBehind 27 = .ok (.getfield 49, 3) := by decide +kernel
theorem dX8_trustBehind_30 : decode cX8_trustBehind 30 = .ok (.iconst 1, 1) := by decide +kernel
theorem dX8_trustBehind_31 : decode cX8_trustBehind 31 = .ok (.iadd, 1) := by decide +kernel
theorem dX8_trustBehind_32 : decode cX8_trustBehind 32 = .ok (.istore 5, 2) := by decide +kernel
theorem dX8_trustBehind_34 : decode cX8_trustBehind 34 = .ok (.iload 5, 2) := by decide +kernel
theorem dX8_trustBehind_36 : decode cX8_trustBehind 36 = .ok (.aload_n 0, 1) := by decide +kernel
theorem dX8_trustBehind_37 : decode cX8_trustBehind 37 = .ok (.getfield 49, 3) := by decide +kernel
theorem dX8_trustBehind_40 : decode cX8_trustBehind 40 = .ok (.iload_n 2, 1) := by decide +kernel
theorem dX8_trustBehind_41 : decode cX8_trustBehind 41 = .ok (.iadd, 1) := by decide +kernel
theorem dX8_trustBehind_42 : decode cX8_trustBehind 42 = .ok (.if_icmp .gt 128, 3) := by decide +kernel
theorem dX8_trustBehind_45 : decode cX8_trustBehind 45 = .ok (.iload 5, 2) := by decide +kernel
theorem dX8_trustBehind_47 : decode cX8_trustBehind 47 = .ok (.bipush 120, 2) := by decide +kernel
theorem dX8_trustBehind_49 : decode cX8_trustBehind 49 = .ok (.if_icmp .ge 121, 3) := by decide +kernel
theorem dX8_trustBehind_52 : decode cX8_trustBehind 52 = .ok (.iconst 0, 1) := by decide +kernel
theorem dX8_trustBehind_53 : decode cX8_trustBehind 53 = .ok (.istore 6, 2) := by decide +kernel
theorem dX8_trustBehind_55 : decode cX8_trustBehind 55 = .ok (.iload 6, 2) := by decide +kernel
theorem dX8_trustBehind_57 : decode cX8_trustBehind 57 = .ok (.aload_n 0, 1) := by decide +kernel
theorem dX8_trustBehind_58 : decode cX8_trustBehind 58 = .ok (.getfield 21, 3) := by decide +kernel
theorem dX8_trustBehind_61 : decode cX8_trustBehind 61 = .ok (.invokevirtual 52, 3) := by decide +kernel
theorem dX8_trustBehind_64 : decode cX8_trustBehind 64 = .ok (.if_icmp .ge 100, 3) := by decide +kernel
theorem dX8_trustBehind_67 : decode cX8_trustBehind 67 = .ok (.aload_n 0, 1) := by decide +kernel
theorem dX8_trustBehind_68 : decode cX8_trustBehind 68 = .ok (.getfield 21, 3) := by decide +kernel
theorem dX8_trustBehind_71 : decode cX8_trustBehind 71 = .ok (.iload 6, 2) := by decide +kernel
theorem dX8_trustBehind_73 : decode cX8_trustBehind 73 = .ok (.invokevirtual 39, 3) := by decide +kernel
theorem dX8_trustBehind_76 : decode cX8_trustBehind 76 = .ok (.checkcast 83, 3) := by decide +kernel
theorem dX8_trustBehind_79 : decode cX8_trustBehind 79 = .ok (.astore 7, 2) := by decide +kernel
theorem dX8_trustBehind_81 : decode cX8_trustBehind 81 = .ok (.iload 5, 2) := by decide +kernel
theorem dX8_trustBehind_83 : decode cX8_trustBehind 83 = .ok (.aload 7, 2) := by decide +kernel
theorem dX8_trustBehind_85 : decode cX8_trustBehind 85 = .ok (.getfield 96, 3) := by decide +kernel
theorem dX8_trustBehind_88 : decode cX8_trustBehind 88 = .ok (.isub, 1) := by decide +kernel
theorem dX8_trustBehind_89 : decode cX8_trustBehind 89 = .ok (.istore 8, 2) := by decide +kernel
theorem dX8_trustBehind_91 : decode cX8_trustBehind 91 = .ok (.aload 7, 2) := by decide +kernel
theorem dX8_trustBehind_93 : decode cX8_trustBehind 93 = .ok (.getfield 92, 3) := by decide +kernel
theorem dX8_trustBehind_96 : decode cX8_trustBehind 96 = .ok (.iload_n 1, 1) := by decide +kernel
theorem dX8_trustBehind_97 : decode cX8_trustBehind 97 = .ok (.if_icmp .ne 61, 3) := by decide +kernel
theorem dX8_trustBehind_100 : decode cX8_trustBehind 100 = .ok (.aload 7, 2) := by decide +kernel
theorem dX8_trustBehind_102 : decode cX8_trustBehind 102 = .ok (.getfield 101, 3) := by decide +kernel
theorem dX8_trustBehind_105 : decode cX8_trustBehind 105 = .ok (.ifCond .ne 53, 3) := by decide +kernel
theorem dX8_trustBehind_108 : decode cX8_trustBehind 108 = .ok (.aload 4, 2) := by decide +kernel
theorem dX8_trustBehind_110 : decode cX8_trustBehind 110 = .ok (.iload 6, 2) := by decide +kernel
theorem dX8_trustBehind_112 : decode cX8_trustBehind 112 = .ok (.baload, 1) := by decide +kernel
theorem dX8_trustBehind_113 : decode cX8_trustBehind 113 = .ok (.ifCond .ne 45, 3) := by decide +kernel
theorem dX8_trustBehind_116 : decode cX8_trustBehind 116 = .ok (.iload 8, 2) := by decide +kernel
theorem dX8_trustBehind_118 : decode cX8_trustBehind 118 = .ok (.bipush 8, 2) := by decide +kernel
theorem dX8_trustBehind_120 : decode cX8_trustBehind 120 = .ok (.if_icmp .eq 13, 3) := by decide +kernel
theorem dX8_trustBehind_123 : decode cX8_trustBehind 123 = .ok (.iload 8, 2) := by decide +kernel
theorem dX8_trustBehind_125 : decode cX8_trustBehind 125 = .ok (.bipush 15, 2) := by decide +kernel
theorem dX8_trustBehind_127 : decode cX8_trustBehind 127 = .ok (.if_icmp .ge 6, 3) := by decide +kernel
theorem dX8_trustBehind_130 : decode cX8_trustBehind 130 = .ok (.goto 28, 3) := by decide +kernel
theorem dX8_trustBehind_133 : decode cX8_trustBehind 133 = .ok (.aload 4, 2) := by decide +kernel
theorem dX8_trustBehind_135 : decode cX8_trustBehind 135 = .ok (.iload 6, 2) := by decide +kernel
theorem dX8_trustBehind_137 : decode cX8_trustBehind 137 = .ok (.iload 8, 2) := by decide +kernel
theorem dX8_trustBehind_139 : decode cX8_trustBehind 139 = .ok (.bipush 15, 2) := by decide +kernel
theorem dX8_trustBehind_141 : decode cX8_trustBehind 141 = .ok (.if_icmp .lt 7, 3) := by decide +kernel
theorem dX8_trustBehind_144 : decode cX8_trustBehind 144 = .ok (.iconst 1, 1) := by decide +kernel
theorem dX8_trustBehind_145 : decode cX8_trustBehind 145 = .ok (.goto 4, 3) := by decide +kernel
theorem dX8_trustBehind_148 : decode cX8_trustBehind 148 = .ok (.iconst 0, 1) := by decide +kernel
theorem dX8_trustBehind_149 : decode cX8_trustBehind 149 = .ok (.bastore, 1) := by decide +kernel
theorem dX8_trustBehind_150 : decode cX8_trustBehind 150 = .ok (.iconst 0, 1) := by decide +kernel
theorem dX8_trustBehind_151 : decode cX8_trustBehind 151 = .ok (.iload_n 3, 1) := by decide +kernel
theorem dX8_trustBehind_152 : decode cX8_trustBehind 152 = .ok (.iconst 1, 1) := by decide +kernel
theorem dX8_trustBehind_153 : decode cX8_trustBehind 153 = .ok (.isub, 1) := by decide +kernel
theorem dX8_trustBehind_154 : decode cX8_trustBehind 154 = .ok (.invokestatic 112, 3) := by decide +kernel
theorem dX8_trustBehind_157 : decode cX8_trustBehind 157 = .ok (.istore_n 3, 1) := by decide +kernel
theorem dX8_trustBehind_158 : decode cX8_trustBehind 158 = .ok (.iinc 6 1, 3) := by decide +kernel
theorem dX8_trustBehind_161 : decode cX8_trustBehind 161 = .ok (.goto (-106), 3) := by decide +kernel
theorem dX8_trustBehind_164 : decode cX8_trustBehind 164 = .ok (.iinc 5 1, 3) := by decide +kernel
theorem dX8_trustBehind_167 : decode cX8_trustBehind 167 = .ok (.goto (-133), 3) := by decide +kernel
theorem dX8_trustBehind_170 : decode cX8_trustBehind 170 = .ok (.iload_n 3, 1) := by decide +kernel
theorem dX8_trustBehind_171 : decode cX8_trustBehind 171 = .ok (.ireturn, 1) := by decide +kernel
theorem dX8_in_0 : decode cX8_in 0 = .ok (.iconst 0, 1) := by decide +kernel
theorem dX8_in_1 : decode cX8_in 1 = .ok (.istore_n 2, 1) := by decide +kernel
theorem dX8_in_2 : decode cX8_in 2 = .ok (.iconst 0, 1) := by decide +kernel
theorem dX8_in_3 : decode cX8_in 3 = .ok (.istore_n 3, 1) := by decide +kernel
theorem dX8_in_4 : decode cX8_in 4 = .ok (.iload_n 3, 1) := by decide +kernel
theorem dX8_in_5 : decode cX8_in 5 = .ok (.aload_n 0, 1) := by decide +kernel
theorem dX8_in_6 : decode cX8_in 6 = .ok (.getfield 21, 3) := by decide +kernel
theorem dX8_in_9 : decode cX8_in 9 = .ok (.invokevirtual 52, 3) := by decide +kernel
theorem dX8_in_12 : decode cX8_in 12 = .ok (.if_icmp .ge 35, 3) := by decide +kernel
theorem dX8_in_15 : decode cX8_in 15 = .ok (.iload_n 2, 1) := by decide +kernel
theorem dX8_in_16 : decode cX8_in 16 = .ok (.aload_n 0, 1) := by decide +kernel
theorem dX8_in_17 : decode cX8_in 17 = .ok (.getfield 21, 3) := by decide +kernel
theorem dX8_in_20 : decode cX8_in 20 = .ok (.iload_n 3, 1) := by decide +kernel
theorem dX8_in_21 : decode cX8_in 21 = .ok (.invokevirtual 39, 3) := by decide +kernel
theorem dX8_in_24 : decode cX8_in 24 = .ok (.checkcast 83, 3) := by decide +kernel
theorem dX8_in_27 : decode cX8_in 27 = .ok (.getfield 101, 3) := by decide +kernel
theorem dX8_in_30 : decode cX8_in 30 = .ok (.iload_n 1, 1) := by decide +kernel
theorem dX8_in_31 : decode cX8_in 31 = .ok (.if_icmp .ne 7, 3) := by decide +kernel
theorem dX8_in_34 : decode cX8_in 34 = .ok (.iconst 1, 1) := by decide +kernel
theorem dX8_in_35 : decode cX8_in 35 = .ok (.goto 4, 3) := by decide +kernel
theorem dX8_in_38 : decode cX8_in 38 = .ok (.iconst 0, 1) := by decide +kernel
theorem dX8_in_39 : decode cX8_in 39 = .ok (.iadd, 1) := by decide +kernel
theorem dX8_in_40 : decode cX8_in 40 = .ok (.istore_n 2, 1) := by decide +kernel
theorem dX8_in_41 : decode cX8_in 41 = .ok (.iinc 3 1, 3) := by decide +kernel
theorem dX8_in_44 : decode cX8_in 44 = .ok (.goto (-40), 3) := by decide +kernel
theorem dX8_in_47 : decode cX8_in 47 = .ok (.iload_n 2, 1) := by decide +kernel
theorem dX8_in_48 : decode cX8_in 48 = .ok (.ireturn, 1) := by decide +kernel
theorem dX9_init_0 : decode cX9_init 0 = .ok (.aload_n 0, 1) := by decide +kernel
theorem dX9_init_1 : decode cX9_init 1 = .ok (.invokespecial 3, 3) := by decide +kernel
theorem dX9_init_4 : decode cX9_init 4 = .ok (.aload_n 0, 1) := by decide +kernel
theorem dX9_init_5 : decode cX9_init 5 = .ok (.iconst 5, 1) := by decide +kernel
theorem dX9_init_6 : decode cX9_init 6 = .ok (.putfield 9, 3) := by decide +kernel
theorem dX9_init_9 : decode cX9_init 9 = .ok (.aload_n 0, 1) := by decide +kernel
theorem dX9_init_10 : decode cX9_init 10 = .ok (.iconst 4, 1) := by decide +kernel
theorem dX9_init_11 : decode cX9_init 11 = .ok (.newarray .int, 2) := by decide +kernel
theorem dX9_init_13 : decode cX9_init 13 = .ok (.putfield 15, 3) := by decide +kernel
theorem dX9_init_16 : decode cX9_init 16 = .ok (.aload_n 0, 1) := by decide +kernel
theorem dX9_init_17 : decode cX9_init 17 = .ok (.iconst (-1), 1) := by decide +kernel
theorem dX9_init_18 : decode cX9_init 18 = .ok (.putfield 19, 3) := by decide +kernel
theorem dX9_init_21 : decode cX9_init 21 = .ok (.aload_n 0, 1) := by decide +kernel
theorem dX9_init_22 : decode cX9_init 22 = .ok (.iconst (-1), 1) := by decide +kernel
theorem dX9_init_23 : decode cX9_init 23 = .ok (.putfield 22, 3) := by decide +kernel
theorem dX9_init_26 : decode cX9_init 26 = .ok (.aload_n 0, 1) := by decide +kernel
theorem dX9_init_27 : decode cX9_init 27 = .ok (.iload_n 1, 1) := by decide +kernel
theorem dX9_init_28 : decode cX9_init 28 = .ok (.putfield 25, 3) := by decide +kernel
theorem dX9_init_31 : decode cX9_init 31 = .ok (.aload_n 0, 1) := by decide +kernel
theorem dX9_init_32 : decode cX9_init 32 = .ok (.aload_n 2, 1) := by decide +kernel
theorem dX9_init_33 : decode cX9_init 33 = .ok (.putfield 28, 3) := by decide +kernel
theorem dX9_init_36 : decode cX9_init 36 = .ok (.return_, 1) := by decide +kernel
theorem dX10_init_0 : decode cX10_init 0 = .ok (.aload_n 0, 1) := by decide +kernel
theorem dX10_init_1 : decode cX10_init 1 = .ok (.invokespecial 3, 3) := by decide +kernel
theorem dX10_init_4 : decode cX10_init 4 = .ok (.aload_n 0, 1) := by decide +kernel
theorem dX10_init_5 : decode cX10_init 5 = .ok (.iconst (-1), 1) := by decide +kernel
theorem dX10_init_6 : decode cX10_init 6 = .ok (.putfield 9, 3) := by decide +kernel
theorem dX10_init_9 : decode cX10_init 9 = .ok (.aload_n 0, 1) := by decide +kernel
theorem dX10_init_10 : decode cX10_init 10 = .ok (.iload_n 1, 1) := by decide +kernel
theorem dX10_init_11 : decode cX10_init 11 = .ok (.putfield 15, 3) := by decide +kernel
theorem dX10_init_14 : decode cX10_init 14 = .ok (.aload_n 0, 1) := by decide +kernel
theorem dX10_init_15 : decode cX10_init 15 = .ok (.iload_n 2, 1) := by decide +kernel
theorem dX10_init_16 : decode cX10_init 16 = .ok (.putfield 18, 3) := by decide +kernel
theorem dX10_init_19 : decode cX10_init 19 = .ok (.aload_n 0, 1) := by decide +kernel
theorem dX10_init_20 : decode cX10_init 20 = .ok (.iload_n 3, 1) := by decide +kernel
theorem dX10_init_21 : decode cX10_init 21 = .ok (.putfield 21, 3) := by decide +kernel
theorem dX10_init_24 : decode cX10_init 24 = .ok (.return_, 1) := by decide +kernel
theorem dX11_init_0 : decode cX11_init 0 = .ok (.aload_n 0, 1) := by decide +kernel
theorem dX11_init_1 : decode cX11_init 1 = .ok (.invokespecial 1, 3) := by decide +kernel
theorem dX11_init_4 : decode cX11_init 4 = .ok (.aload_n 0, 1) := by decide +kernel
theorem dX11_init_5 : decode cX11_init 5 = .ok (.iload_n 1, 1) := by decide +kernel
theorem dX11_init_6 : decode cX11_init 6 = .ok (.putfield 7, 3) := by decide +kernel
theorem dX11_init_9 : decode cX11_init 9 = .ok (.aload_n 0, 1) := by decide +kernel
theorem dX11_init_10 : decode cX11_init 10 = .ok (.iload_n 2, 1) := by decide +kernel
theorem dX11_init_11 : decode cX11_init 11 = .ok (.putfield 13, 3) := by decide +kernel
theorem dX11_init_14 : decode cX11_init 14 = .ok (.aload_n 0, 1) := by decide +kernel
theorem dX11_init_15 : decode cX11_init 15 = .ok (.iload_n 3, 1) := by decide +kernel
theorem dX11_init_16 : decode cX11_init 16 = .ok (.putfield 16, 3) := by decide +kernel
theorem dX11_init_19 : decode cX11_init 19 = .ok (.aload_n 0, 1) := by decide +kernel
theorem dX11_init_20 : decode cX11_init 20 = .ok (.iload 4, 2) := by decide +kernel
theorem dX11_init_22 : decode cX11_init 22 = .ok (.putfield 19, 3) := by decide +kernel
theorem dX11_init_25 : decode cX11_init 25 = .ok (.aload_n 0, 1) := by decide +kernel
theorem dX11_init_26 : decode cX11_init 26 = .ok (.iload 5, 2) := by decide +kernel
theorem dX11_init_28 : decode cX11_init 28 = .ok (.putfield 22, 3) := by decide +kernel
theorem dX11_init_31 : decode cX11_init 31 = .ok (.return_, 1) := by decide +kernel
theorem dX12_init_0 : decode cX12_init 0 = .ok (.aload_n 0, 1) := by decide +kernel
theorem dX12_init_1 : decode cX12_init 1 = .ok (.invokespecial 1, 3) := by decide +kernel
theorem dX12_init_4 : decode cX12_init 4 = .ok (.aload_n 0, 1) := by decide +kernel
theorem dX12_init_5 : decode cX12_init 5 = .ok (.new 7, 3) := by decide +kernel
theorem dX12_init_8 : decode cX12_init 8 = .ok (.dup, 1) := by decide +kernel
theorem dX12_init_9 : decode cX12_init 9 = .ok (.invokespecial 9, 3) := by decide +kernel
theorem dX12_init_12 : decode cX12_init 12 = .ok (.putfield 10, 3) := by decide +kernel
theorem dX12_init_15 : decode cX12_init 15 = .ok (.return_, 1) := by decide +kernel
theorem dX12_thrown_0 : decode cX12_thrown 0 = .ok (.aload_n 0, 1) := by decide +kernel
theorem dX12_thrown_1 : decode cX12_thrown 1 = .ok (.getfield 16, 3) := by decide +kernel
theorem dX12_thrown_4 : decode cX12_thrown 4 = .ok (.ireturn, 1) := by decide +kernel
theorem dX12_isIn_0 : decode cX12_isIn 0 = .ok (.iload_n 0, 1) := by decide +kernel
theorem dX12_isIn_1 : decode cX12_isIn 1 = .ok (.iload_n 1, 1) := by decide +kernel
theorem dX12_isIn_2 : decode cX12_isIn 2 = .ok (.if_icmp .lt 12, 3) := by decide +kernel
theorem dX12_isIn_5 : decode cX12_isIn 5 = .ok (.iload_n 0, 1) := by decide +kernel
theorem dX12_isIn_6 : decode cX12_isIn 6 = .ok (.iload_n 2, 1) := by decide +kernel
theorem dX12_isIn_7 : decode cX12_isIn 7 = .ok (.if_icmp .gt 7, 3) := by decide +kernel
theorem dX12_isIn_10 : decode cX12_isIn 10 = .ok (.iconst 1, 1) := by decide +kernel
theorem dX12_isIn_11 : decode cX12_isIn 11 = .ok (.goto 4, 3) := by decide +kernel
theorem dX12_isIn_14 : decode cX12_isIn 14 = .ok (.iconst 0, 1) := by decide +kernel
theorem dX12_isIn_15 : decode cX12_isIn 15 = .ok (.ireturn, 1) := by decide +kernel
theorem dX12_refuse_0 : decode cX12_refuse 0 = .ok (.iload_n 1, 1) := by decide +kernel
theorem dX12_refuse_1 : decode cX12_refuse 1 = .ok (.ifCond .eq 15, 3) := by decide +kernel
theorem dX12_refuse_4 : decode cX12_refuse 4 = .ok (.aload_n 0, 1) := by decide +kernel
theorem dX12_refuse_5 : decode cX12_refuse 5 = .ok (.getfield 16, 3) := by decide +kernel
theorem dX12_refuse_8 : decode cX12_refuse 8 = .ok (.ifCond .ne 8, 3) := by decide +kernel
theorem dX12_refuse_11 : decode cX12_refuse 11 = .ok (.aload_n 0, 1) := by decide +kernel
theorem dX12_refuse_12 : decode cX12_refuse 12 = .ok (.iload_n 2, 1) := by decide +kernel
theorem dX12_refuse_13 : decode cX12_refuse 13 = .ok (.putfield 16, 3) := by decide +kernel
theorem dX12_refuse_16 : decode cX12_refuse 16 = .ok (.aload_n 0, 1) := by decide +kernel
theorem dX12_refuse_17 : decode cX12_refuse 17 = .ok (.getfield 16, 3) := by decide +kernel
theorem dX12_refuse_20 : decode cX12_refuse 20 = .ok (.ifCond .le 7, 3) := by decide +kernel
theorem dX12_refuse_23 : decode cX12_refuse 23 = .ok (.iconst 1, 1) := by decide +kernel
theorem dX12_refuse_24 : decode cX12_refuse 24 = .ok (.goto 4, 3) := by decide +kernel
theorem dX12_refuse_27 : decode cX12_refuse 27 = .ok (.iconst 0, 1) := by decide +kernel
theorem dX12_refuse_28 : decode cX12_refuse 28 = .ok (.ireturn, 1) := by decide +kernel
theorem dX12_start_0 : decode cX12_start 0 = .ok (.aload_n 0, 1) := by decide +kernel
theorem dX12_start_1 : decode cX12_start 1 = .ok (.iconst 0, 1) := by decide +kernel
theorem dX12_start_2 : decode cX12_start 2 = .ok (.putfield 16, 3) := by decide +kernel
theorem dX12_start_5 : decode cX12_start 5 = .ok (.aload_n 0, 1) := by decide +kernel
theorem dX12_start_6 : decode cX12_start 6 = .ok (.iload_n 1, 1) := by decide +kernel
theorem dX12_start_7 : decode cX12_start 7 = .ok (.iload_n 2, 1) := by decide +kernel
theorem dX12_start_8 : decode cX12_start 8 = .ok (.invokevirtual 20, 3) := by decide +kernel
theorem dX12_start_11 : decode cX12_start 11 = .ok (.ireturn, 1) := by decide +kernel
theorem dX12_isNo_0 : decode cX12_isNo 0 = .ok (.iload_n 1, 1) := by decide +kernel
theorem dX12_isNo_1 : decode cX12_isNo 1 = .ok (.iconst 0, 1) := by decide +kernel
theorem dX12_isNo_2 : decode cX12_isNo 2 = .ok (.aload_n 0, 1) := by decide +kernel
theorem dX12_isNo_3 : decode cX12_isNo 3 = .ok (.getfield 10, 3) := by decide +kernel
theorem dX12_isNo_6 : decode cX12_isNo 6 = .ok (.getfield 24, 3) := by decide +kernel
theorem dX12_isNo_9 : decode cX12_isNo 9 = .ok (.invokevirtual 28, 3) := by decide +kernel
theorem dX12_isNo_12 : decode cX12_isNo 12 = .ok (.iconst 1, 1) := by decide +kernel
theorem dX12_isNo_13 : decode cX12_isNo 13 = .ok (.isub, 1) := by decide +kernel
theorem dX12_isNo_14 : decode cX12_isNo 14 = .ok (.invokestatic 34, 3) := by decide +kernel
theorem dX12_isNo_17 : decode cX12_isNo 17 = .ok (.ifCond .ne 7, 3) := by decide +kernel
theorem dX12_isNo_20 : decode cX12_isNo 20 = .ok (.iconst 1, 1) := by decide +kernel
theorem dX12_isNo_21 : decode cX12_isNo 21 = .ok (.goto 4, 3) := by decide +kernel
theorem dX12_isNo_24 : decode cX12_isNo 24 = .ok (.iconst 0, 1) := by decide +kernel
theorem dX12_isNo_25 : decode cX12_isNo 25 = .ok (.ireturn, 1) := by decide +kernel
theorem dX12_isNoKind_0 : decode cX12_isNoKind 0 = .ok (.iload_n 0, 1) := by decide +kernel
theorem dX12_isNoKind_1 : decode cX12_isNoKind 1 = .ok (.iconst 0, 1) := by decide +kernel
theorem dX12_isNoKind_2 : decode cX12_isNoKind 2 = .ok (.iconst 3, 1) := by decide +kernel
theorem dX12_isNoKind_3 : decode cX12_isNoKind 3 = .ok (.invokestatic 34, 3) := by decide +kernel
theorem dX12_isNoKind_6 : decode cX12_isNoKind 6 = .ok (.ifCond .ne 7, 3) := by decide +kernel
theorem dX12_isNoKind_9 : decode cX12_isNoKind 9 = .ok (.iconst 1, 1) := by decide +kernel
theorem dX12_isNoKind_10 : decode cX12_isNoKind 10 = .ok (.goto 4, 3) := by decide +kernel
theorem dX12_isNoKind_13 : decode cX12_isNoKind 13 = .ok (.iconst 0, 1) := by decide +kernel
theorem dX12_isNoKind_14 : decode cX12_isNoKind 14 = .ok (.ireturn, 1) := by decide +kernel
theorem dX12_isNoLand_0 : decode cX12_isNoLand 0 = .ok (.iload_n 0, 1) := by decide +kernel
theorem dX12_isNoLand_1 : decode cX12_isNoLand 1 = .ok (.iconst 0, 1) := by decide +kernel
theorem dX12_isNoLand_2 : decode cX12_isNoLand 2 = .ok (.iconst 2, 1) := by decide +kernel
theorem dX12_isNoLand_3 : decode cX12_isNoLand 3 = .ok (.invokestatic 34, 3) := by decide +kernel
theorem dX12_isNoLand_6 : decode cX12_isNoLand 6 = .ok (.ifCond .ne 7, 3) := by decide +kernel
theorem dX12_isNoLand_9 : decode cX12_isNoLand 9 = .ok (.iconst 1, 1) := by decide +kernel
theorem dX12_isNoLand_10 : decode cX12_isNoLand 10 = .ok (.goto 4, 3) := by decide +kernel
theorem dX12_isNoLand_13 : decode cX12_isNoLand 13 = .ok (.iconst 0, 1) := by decide +kernel
theorem dX12_isNoLand_14 : decode cX12_isNoLand 14 = .ok (.ireturn, 1) := by decide +kernel
theorem dX12_isNoDay_0 : decode cX12_isNoDay 0 = .ok (.iload_n 0, 1) := by decide +kernel
theorem dX12_isNoDay_1 : decode cX12_isNoDay 1 = .ok (.iconst 0, 1) := by decide +kernel
theorem dX12_isNoDay_2 : decode cX12_isNoDay 2 = .ok (.bipush 119, 2) := by decide +kernel
theorem dX12_isNoDay_4 : decode cX12_isNoDay 4 = .ok (.invokestatic 34, 3) := by decide +kernel
theorem dX12_isNoDay_7 : decode cX12_isNoDay 7 = .ok (.ifCond .ne 7, 3) := by decide +kernel
theorem dX12_isNoDay_10 : decode cX12_isNoDay 10 = .ok (.iconst 1, 1) := by decide +kernel
theorem dX12_isNoDay_11 : decode cX12_isNoDay 11 = .ok (.goto 4, 3) := by decide +kernel
theorem dX12_isNoDay_14 : decode cX12_isNoDay 14 = .ok (.iconst 0, 1) := by decide +kernel
theorem dX12_isNoDay_15 : decode cX12_isNoDay 15 = .ok (.ireturn, 1) := by decide +kernel
theorem dX12_of_0 : decode cX12_of 0 = .ok (.aload_n 0, 1) := by decide +kernel
theorem dX12_of_1 : decode cX12_of 1 = .ok (.getfield 10, 3) := by decide +kernel
theorem dX12_of_4 : decode cX12_of 4 = .ok (.getfield 24, 3) := by decide +kernel
theorem dX12_of_7 : decode cX12_of 7 = .ok (.iload_n 1, 1) := by decide +kernel
theorem dX12_of_8 : decode cX12_of 8 = .ok (.invokevirtual 38, 3) := by decide +kernel
theorem dX12_of_11 : decode cX12_of 11 = .ok (.checkcast 42, 3) := by decide +kernel
theorem dX12_of_14 : decode cX12_of 14 = .ok (.areturn, 1) := by decide +kernel
theorem dX12_person_0 : decode cX12_person 0 = .ok (.aload_n 0, 1) := by decide +kernel
theorem dX12_person_1 : decode cX12_person 1 = .ok (.iload_n 1, 1) := by decide +kernel
theorem dX12_person_2 : decode cX12_person 2 = .ok (.iconst (-1), 1) := by decide +kernel
theorem dX12_person_3 : decode cX12_person 3 = .ok (.if_icmp .eq 15, 3) := by decide +kernel
theorem dX12_person_6 : decode cX12_person 6 = .ok (.aload_n 0, 1) := by decide +kernel
theorem dX12_person_7 : decode cX12_person 7 = .ok (.iload_n 1, 1) := by decide +kernel
theorem dX12_person_8 : decode cX12_person 8 = .ok (.invokevirtual 44, 3) := by decide +kernel
theorem dX12_person_11 : decode cX12_person 11 = .ok (.ifCond .eq 7, 3) := by decide +kernel
theorem dX12_person_14 : decode cX12_person 14 = .ok (.iconst 1, 1) := by decide +kernel
theorem dX12_person_15 : decode cX12_person 15 = .ok (.goto 4, 3) := by decide +kernel
theorem dX12_person_18 : decode cX12_person 18 = .ok (.iconst 0, 1) := by decide +kernel
theorem dX12_person_19 : decode cX12_person 19 = .ok (.iconst 1, 1) := by decide +kernel
theorem dX12_person_20 : decode cX12_person 20 = .ok (.invokevirtual 48, 3) := by decide +kernel
theorem dX12_person_23 : decode cX12_person 23 = .ok (.ifCond .ne 31, 3) := by decide +kernel
theorem dX12_person_26 : decode cX12_person 26 = .ok (.aload_n 0, 1) := by decide +kernel
theorem dX12_person_27 : decode cX12_person 27 = .ok (.aload_n 0, 1) := by decide +kernel
theorem dX12_person_28 : decode cX12_person 28 = .ok (.getfield 10, 3) := by decide +kernel
theorem dX12_person_31 : decode cX12_person 31 = .ok (.getfield 24, 3) := by decide +kernel
theorem dX12_person_34 : decode cX12_person 34 = .ok (.invokevirtual 28, 3) := by decide +kernel
theorem dX12_person_37 : decode cX12_person 37 = .ok (.bipush 8, 2) := by decide +kernel
theorem dX12_person_39 : decode cX12_person 39 = .ok (.if_icmp .ne 7, 3) := by decide +kernel
theorem dX12_person_42 : decode cX12_person 42 = .ok (.iconst 1, 1) := by decide +kernel
theorem dX12_person_43 : decode cX12_person 43 = .ok (.goto 4, 3) := by decide +kernel
theorem dX12_person_46 : decode cX12_person 46 = .ok (.iconst 0, 1) := by decide +kernel
theorem dX12_person_47 : decode cX12_person 47 = .ok (.iconst 2, 1) := by decide +kernel
theorem dX12_person_48 : decode cX12_person 48 = .ok (.invokevirtual 20, 3) := by decide +kernel
theorem dX12_person_51 : decode cX12_person 51 = .ok (.ifCond .eq 5, 3) := by decide +kernel
theorem dX12_person_54 : decode cX12_person 54 = .ok (.iconst 0, 1) := by decide +kernel
theorem dX12_person_55 : decode cX12_person 55 = .ok (.ireturn, 1) := by decide +kernel
theorem dX12_person_56 : decode cX12_person 56 = .ok (.aload_n 0, 1) := by decide +kernel
theorem dX12_person_57 : decode cX12_person 57 = .ok (.getfield 10, 3) := by decide +kernel
theorem dX12_person_60 : decode cX12_person 60 = .ok (.getfield 24, 3) := by decide +kernel
theorem dX12_person_63 : decode cX12_person 63 = .ok (.new 42, 3) := by decide +kernel
theorem dX12_person_66 : decode cX12_person 66 = .ok (.dup, 1) := by decide +kernel
theorem dX12_person_67 : decode cX12_person 67 = .ok (.aload_n 0, 1) := by decide +kernel
theorem dX12_person_68 : decode cX12_person 68 = .ok (.getfield 10, 3) := by decide +kernel
theorem dX12_person_71 : decode cX12_person 71 = .ok (.getfield 24, 3) := by decide +kernel
theorem dX12_person_74 : decode cX12_person 74 = .ok (.invokevirtual 28, 3) := by decide +kernel
theorem dX12_person_77 : decode cX12_person 77 = .ok (.iload_n 1, 1) := by decide +kernel
theorem dX12_person_78 : decode cX12_person 78 = .ok (.iconst (-1), 1) := by decide +kernel
theorem dX12_person_79 : decode cX12_person 79 = .ok (.if_icmp .ne 7, 3) := by decide +kernel
theorem dX12_person_82 : decode cX12_person 82 = .ok (.aconst_null, 1) := by decide +kernel
theorem dX12_person_83 : decode cX12_person 83 = .ok (.goto 8, 3) := by decide +kernel
theorem dX12_person_86 : decode cX12_person 86 = .ok (.aload_n 0, 1) := by decide +kernel
theorem dX12_person_87 : decode cX12_person 87 = .ok (.iload_n 1, 1) := by decide +kernel
theorem dX12_person_88 : decode cX12_person 88 = .ok (.invokevirtual 51, 3) := by decide +kernel
theorem dX12_person_91 : decode cX12_person 91 = .ok (.invokespecial 55, 3) := by decide +kernel
theorem dX12_person_94 : decode cX12_person 94 = .ok (.invokevirtual 58, 3) := by decide +kernel
theorem dX12_person_97 : decode cX12_person 97 = .ok (.pop, 1) := by decide +kernel
theorem dX12_person_98 : decode cX12_person 98 = .ok (.aload_n 0, 1) := by decide +kernel
theorem dX12_person_99 : decode cX12_person 99 = .ok (.getfield 10, 3) := by decide +kernel
theorem dX12_person_102 : decode cX12_person 102 = .ok (.getfield 24, 3) := by decide +kernel
theorem dX12_person_105 : decode cX12_person 105 = .ok (.invokevirtual 28, 3) := by decide +kernel
theorem dX12_person_108 : decode cX12_person 108 = .ok (.iconst 1, 1) := by decide +kernel
theorem dX12_person_109 : decode cX12_person 109 = .ok (.isub, 1) := by decide +kernel
theorem dX12_person_110 : decode cX12_person 110 = .ok (.ireturn, 1) := by decide +kernel
theorem dX12_limit_0 : decode cX12_limit 0 = .ok (.aload_n 0, 1) := by decide +kernel
theorem dX12_limit_1 : decode cX12_limit 1 = .ok (.aload_n 0, 1) := by decide +kernel
theorem dX12_limit_2 : decode cX12_limit 2 = .ok (.iload_n 1, 1) := by decide +kernel
theorem dX12_limit_3 : decode cX12_limit 3 = .ok (.invokevirtual 44, 3) := by decide +kernel
theorem dX12_limit_6 : decode cX12_limit 6 = .ok (.ifCond .ne 10, 3) := by decide +kernel
theorem dX12_limit_9 : decode cX12_limit 9 = .ok (.iload_n 2, 1) := by decide +kernel
theorem dX12_limit_10 : decode cX12_limit 10 = .ok (.invokestatic 62, 3) := by decide +kernel
theorem dX12_limit_13 : decode cX12_limit 13 = .ok (.ifCond .eq 7, 3) := by decide +kernel
theorem dX12_limit_16 : decode cX12_limit 16 = .ok (.iconst 1, 1) := by decide +kernel
theorem dX12_limit_17 : decode cX12_limit 17 = .ok (.goto 4, 3) := by decide +kernel
theorem dX12_limit_20 : decode cX12_limit 20 = .ok (.iconst 0, 1) := by decide +kernel
theorem dX12_limit_21 : decode cX12_limit 21 = .ok (.iconst 1, 1) := by decide +kernel
theorem dX12_limit_22 : decode cX12_limit 22 = .ok (.invokevirtual 48, 3) := by decide +kernel
theorem dX12_limit_25 : decode cX12_limit 25 = .ok (.ifCond .ne 27, 3) := by decide +kernel
theorem dX12_limit_28 : decode cX12_limit 28 = .ok (.aload_n 0, 1) := by decide +kernel
theorem dX12_limit_29 : decode cX12_limit 29 = .ok (.iload_n 3, 1) := by decide +kernel
theorem dX12_limit_30 : decode cX12_limit 30 = .ok (.iconst 0, 1) := by decide +kernel
theorem dX12_limit_31 : decode cX12_limit 31 = .ok (.sipush 9999, 3) := by decide +kernel
theorem dX12_limit_34 : decode cX12_limit 34 = .ok (.invokestatic 34, 3) := by decide +kernel
theorem dX12_limit_37 : decode cX12_limit 37 = .ok (.ifCond .ne 7, 3) := by decide +kernel
theorem dX12_limit_40 : decode cX12_limit 40 = .ok (.iconst 1, 1) := by decide +kernel
theorem dX12_limit_41 : decode cX12_limit 41 = .ok (.goto 4, 3) := by decide +kernel
theorem dX12_limit_44 : decode cX12_limit 44 = .ok (.iconst 0, 1) := by decide +kernel
theorem dX12_limit_45 : decode cX12_limit 45 = .ok (.iconst 2, 1) := by decide +kernel
theorem dX12_limit_46 : decode cX12_limit 46 = .ok (.invokevirtual 20, 3) := by decide +kernel
theorem dX12_limit_49 : decode cX12_limit 49 = .ok (.ifCond .eq 5, 3) := by decide +kernel
theorem dX12_limit_52 : decode cX12_limit 52 = .ok (.iconst 0, 1) := by decide +kernel
theorem dX12_limit_53 : decode cX12_limit 53 = .ok (.ireturn, 1) := by decide +kernel
theorem dX12_limit_54 : decode cX12_limit 54 = .ok (.aload_n 0, 1) := by decide +kernel
theorem dX12_limit_55 : decode cX12_limit 55 = .ok (.iload_n 1, 1) := by decide +kernel
theorem dX12_limit_56 : decode cX12_limit 56 = .ok (.invokevirtual 51, 3) := by decide +kernel
theorem dX12_limit_59 : decode cX12_limit 59 = .ok (.getfield 65, 3) := by decide +kernel
theorem dX12_limit_62 : decode cX12_limit 62 = .ok (.iload_n 2, 1) := by decide +kernel
theorem dX12_limit_63 : decode cX12_limit 63 = .ok (.iaload, 1) := by decide +kernel
theorem dX12_limit_64 : decode cX12_limit 64 = .ok (.istore 4, 2) := by decide +kernel
theorem dX12_limit_66 : decode cX12_limit 66 = .ok (.aload_n 0, 1) := by decide +kernel
theorem dX12_limit_67 : decode cX12_limit 67 = .ok (.iload_n 1, 1) := by decide +kernel
theorem dX12_limit_68 : decode cX12_limit 68 = .ok (.invokevirtual 51, 3) := by decide +kernel
theorem dX12_limit_71 : decode cX12_limit 71 = .ok (.getfield 65, 3) := by decide +kernel
theorem dX12_limit_74 : decode cX12_limit 74 = .ok (.iload_n 2, 1) := by decide +kernel
theorem dX12_limit_75 : decode cX12_limit 75 = .ok (.iload_n 3, 1) := by decide +kernel
theorem dX12_limit_76 : decode cX12_limit 76 = .ok (.iastore, 1) := by decide +kernel
theorem dX12_limit_77 : decode cX12_limit 77 = .ok (.iload 4, 2) := by decide +kernel
theorem dX12_limit_79 : decode cX12_limit 79 = .ok (.ireturn, 1) := by decide +kernel
theorem dX12_away_0 : decode cX12_away 0 = .ok (.aload_n 0, 1) := by decide +kernel
theorem dX12_away_1 : decode cX12_away 1 = .ok (.aload_n 0, 1) := by decide +kernel
theorem dX12_away_2 : decode cX12_away 2 = .ok (.iload_n 1, 1) := by decide +kernel
theorem dX12_away_3 : decode cX12_away 3 = .ok (.invokevirtual 44, 3) := by decide +kernel
theorem dX12_away_6 : decode cX12_away 6 = .ok (.ifCond .ne 11, 3) := by decide +kernel
theorem dX12_away_9 : decode cX12_away 9 = .ok (.aload_n 0, 1) := by decide +kernel
theorem dX12_away_10 : decode cX12_away 10 = .ok (.iload_n 3, 1) := by decide +kernel
theorem dX12_away_11 : decode cX12_away 11 = .ok (.invokevirtual 44, 3) := by decide +kernel
theorem dX12_away_14 : decode cX12_away 14 = .ok (.ifCond .eq 7, 3) := by decide +kernel
theorem dX12_away_17 : decode cX12_away 17 = .ok (.iconst 1, 1) := by decide +kernel
theorem dX12_away_18 : decode cX12_away 18 = .ok (.goto 4, 3) := by decide +kernel
theorem dX12_away_21 : decode cX12_away 21 = .ok (.iconst 0, 1) := by decide +kernel
theorem dX12_away_22 : decode cX12_away 22 = .ok (.iconst 1, 1) := by decide +kernel
theorem dX12_away_23 : decode cX12_away 23 = .ok (.invokevirtual 48, 3) := by decide +kernel
theorem dX12_away_26 : decode cX12_away 26 = .ok (.ifCond .ne 28, 3) := by decide +kernel
theorem dX12_away_29 : decode cX12_away 29 = .ok (.aload_n 0, 1) := by decide +kernel
theorem dX12_away_30 : decode cX12_away 30 = .ok (.iload_n 2, 1) := by decide +kernel
theorem dX12_away_31 : decode cX12_away 31 = .ok (.invokestatic 69, 3) := by decide +kernel
theorem dX12_away_34 : decode cX12_away 34 = .ok (.ifCond .ne 8, 3) := by decide +kernel
theorem dX12_away_37 : decode cX12_away 37 = .ok (.iload_n 3, 1) := by decide +kernel
theorem dX12_away_38 : decode cX12_away 38 = .ok (.iload_n 1, 1) := by decide +kernel
theorem dX12_away_39 : decode cX12_away 39 = .ok (.if_icmp .ne 7, 3) := by decide +kernel
theorem dX12_away_42 : decode cX12_away 42 = .ok (.iconst 1, 1) := by decide +kernel
theorem dX12_away_43 : decode cX12_away 43 = .ok (.goto 4, 3) := by decide +kernel
theorem dX12_away_46 : decode cX12_away 46 = .ok (.iconst 0, 1) := by decide +kernel
theorem dX12_away_47 : decode cX12_away 47 = .ok (.iconst 2, 1) := by decide +kernel
theorem dX12_away_48 : decode cX12_away 48 = .ok (.invokevirtual 20, 3) := by decide +kernel
theorem dX12_away_51 : decode cX12_away 51 = .ok (.ifCond .eq 5, 3) := by decide +kernel
theorem dX12_away_54 : decode cX12_away 54 = .ok (.iconst 0, 1) := by decide +kernel
theorem dX12_away_55 : decode cX12_away 55 = .ok (.ireturn, 1) := by decide +kernel
theorem dX12_away_56 : decode cX12_away 56 = .ok (.aload_n 0, 1) := by decide +kernel
theorem dX12_away_57 : decode cX12_away 57 = .ok (.getfield 10, 3) := by decide +kernel
theorem dX12_away_60 : decode cX12_away 60 = .ok (.iload_n 1, 1) := by decide +kernel
theorem dX12_away_61 : decode cX12_away 61 = .ok (.invokevirtual 72, 3) := by decide +kernel
theorem dX12_away_64 : decode cX12_away 64 = .ok (.istore 4, 2) := by decide +kernel
theorem dX12_away_66 : decode cX12_away 66 = .ok (.aload_n 0, 1) := by decide +kernel
theorem dX12_away_67 : decode cX12_away 67 = .ok (.iload_n 1, 1) := by decide +kernel
theorem dX12_away_68 : decode cX12_away 68 = .ok (.invokevirtual 51, 3) := by decide +kernel
theorem dX12_away_71 : decode cX12_away 71 = .ok (.iload_n 2, 1) := by decide +kernel
theorem dX12_away_72 : decode cX12_away 72 = .ok (.putfield 75, 3) := by decide +kernel
theorem dX12_away_75 : decode cX12_away 75 = .ok (.aload_n 0, 1) := by decide +kernel
theorem dX12_away_76 : decode cX12_away 76 = .ok (.iload_n 1, 1) := by decide +kernel
theorem dX12_away_77 : decode cX12_away 77 = .ok (.invokevirtual 51, 3) := by decide +kernel
theorem dX12_away_80 : decode cX12_away 80 = .ok (.iload_n 3, 1) := by decide +kernel
theorem dX12_away_81 : decode cX12_away 81 = .ok (.putfield 78, 3) := by decide +kernel
theorem dX12_away_84 : decode cX12_away 84 = .ok (.aload_n 0, 1) := by decide +kernel
theorem dX12_away_85 : decode cX12_away 85 = .ok (.getfield 10, 3) := by decide +kernel
theorem dX12_away_88 : decode cX12_away 88 = .ok (.invokevirtual 81, 3) := by decide +kernel
theorem dX12_away_91 : decode cX12_away 91 = .ok (.iload 4, 2) := by decide +kernel
theorem dX12_away_93 : decode cX12_away 93 = .ok (.ireturn, 1) := by decide +kernel
theorem dX12_trip_0 : decode cX12_trip 0 = .ok (.aload_n 0, 1) := by decide +kernel
theorem dX12_trip_1 : decode cX12_trip 1 = .ok (.aload_n 0, 1) := by decide +kernel
theorem dX12_trip_2 : decode cX12_trip 2 = .ok (.iload_n 1, 1) := by decide +kernel
theorem dX12_trip_3 : decode cX12_trip 3 = .ok (.invokevirtual 44, 3) := by decide +kernel
theorem dX12_trip_6 : decode cX12_trip 6 = .ok (.ifCond .ne 10, 3) := by decide +kernel
theorem dX12_trip_9 : decode cX12_trip 9 = .ok (.iload_n 2, 1) := by decide +kernel
theorem dX12_trip_10 : decode cX12_trip 10 = .ok (.invokestatic 84, 3) := by decide +kernel
theorem dX12_trip_13 : decode cX12_trip 13 = .ok (.ifCond .eq 7, 3) := by decide +kernel
theorem dX12_trip_16 : decode cX12_trip 16 = .ok (.iconst 1, 1) := by decide +kernel
theorem dX12_trip_17 : decode cX12_trip 17 = .ok (.goto 4, 3) := by decide +kernel
theorem dX12_trip_20 : decode cX12_trip 20 = .ok (.iconst 0, 1) := by decide +kernel
theorem dX12_trip_21 : decode cX12_trip 21 = .ok (.iconst 1, 1) := by decide +kernel
theorem dX12_trip_22 : decode cX12_trip 22 = .ok (.invokevirtual 48, 3) := by decide +kernel
theorem dX12_trip_25 : decode cX12_trip 25 = .ok (.ifCond .ne 77, 3) := by decide +kernel
theorem dX12_trip_28 : decode cX12_trip 28 = .ok (.aload_n 0, 1) := by decide +kernel
theorem dX12_trip_29 : decode cX12_trip 29 = .ok (.iload_n 3, 1) := by decide +kernel
theorem dX12_trip_30 : decode cX12_trip 30 = .ok (.invokestatic 69, 3) := by decide +kernel
theorem dX12_trip_33 : decode cX12_trip 33 = .ok (.ifCond .ne 29, 3) := by decide +kernel
theorem dX12_trip_36 : decode cX12_trip 36 = .ok (.iload 4, 2) := by decide +kernel
theorem dX12_trip_38 : decode cX12_trip 38 = .ok (.invokestatic 69, 3) := by decide +kernel
theorem dX12_trip_41 : decode cX12_trip 41 = .ok (.ifCond .ne 21, 3) := by decide +kernel
theorem dX12_trip_44 : decode cX12_trip 44 = .ok (.iload 4, 2) := by decide +kernel
theorem dX12_trip_46 : decode cX12_trip 46 = .ok (.iload_n 3, 1) := by decide +kernel
theorem dX12_trip_47 : decode cX12_trip 47 = .ok (.if_icmp .lt 15, 3) := by decide +kernel
theorem dX12_trip_50 : decode cX12_trip 50 = .ok (.iload 5, 2) := by decide +kernel
theorem dX12_trip_52 : decode cX12_trip 52 = .ok (.iconst 0, 1) := by decide +kernel
theorem dX12_trip_53 : decode cX12_trip 53 = .ok (.sipush 9999, 3) := by decide +kernel
theorem dX12_trip_56 : decode cX12_trip 56 = .ok (.invokestatic 34, 3) := by decide +kernel
theorem dX12_trip_59 : decode cX12_trip 59 = .ok (.ifCond .ne 7, 3) := by decide +kernel
theorem dX12_trip_62 : decode cX12_trip 62 = .ok (.iconst 1, 1) := by decide +kernel
theorem dX12_trip_63 : decode cX12_trip 63 = .ok (.goto 4, 3) := by decide +kernel
theorem dX12_trip_66 : decode cX12_trip 66 = .ok (.iconst 0, 1) := by decide +kernel
theorem dX12_trip_67 : decode cX12_trip 67 = .ok (.iconst 2, 1) := by decide +kernel
theorem dX12_trip_68 : decode cX12_trip 68 = .ok (.invokevirtual 20, 3) := by decide +kernel
theorem dX12_trip_71 : decode cX12_trip 71 = .ok (.ifCond .ne 31, 3) := by decide +kernel
theorem dX12_trip_74 : decode cX12_trip 74 = .ok (.aload_n 0, 1) := by decide +kernel
theorem dX12_trip_75 : decode cX12_trip 75 = .ok (.aload_n 0, 1) := by decide +kernel
theorem dX12_trip_76 : decode cX12_trip 76 = .ok (.getfield 10, 3) := by decide +kernel
theorem dX12_trip_79 : decode cX12_trip 79 = .ok (.getfield 87, 3) := by decide +kernel
theorem dX12_trip_82 : decode cX12_trip 82 = .ok (.invokevirtual 28, 3) := by decide +kernel
theorem dX12_trip_85 : decode cX12_trip 85 = .ok (.bipush 8, 2) := by decide +kernel
theorem dX12_trip_87 : decode cX12_trip 87 = .ok (.if_icmp .ne 7, 3) := by decide +kernel
theorem dX12_trip_90 : decode cX12_trip 90 = .ok (.iconst 1, 1) := by decide +kernel
theorem dX12_trip_91 : decode cX12_trip 91 = .ok (.goto 4, 3) := by decide +kernel
theorem dX12_trip_94 : decode cX12_trip 94 = .ok (.iconst 0, 1) := by decide +kernel
theorem dX12_trip_95 : decode cX12_trip 95 = .ok (.iconst 3, 1) := by decide +kernel
theorem dX12_trip_96 : decode cX12_trip 96 = .ok (.invokevirtual 20, 3) := by decide +kernel
theorem dX12_trip_99 : decode cX12_trip 99 = .ok (.ifCond .eq 5, 3) := by decide +kernel
theorem dX12_trip_102 : decode cX12_trip 102 = .ok (.iconst 0, 1) := by decide +kernel
theorem dX12_trip_103 : decode cX12_trip 103 = .ok (.ireturn, 1) := by decide +kernel
theorem dX12_trip_104 : decode cX12_trip 104 = .ok (.aload_n 0, 1) := by decide +kernel
theorem dX12_trip_105 : decode cX12_trip 105 = .ok (.getfield 10, 3) := by decide +kernel
theorem dX12_trip_108 : decode cX12_trip 108 = .ok (.getfield 87, 3) := by decide +kernel
theorem dX12_trip_111 : decode cX12_trip 111 = .ok (.new 90, 3) := by decide +kernel
theorem dX12_trip_114 : decode cX12_trip 114 = .ok (.dup, 1) := by decide +kernel
theorem dX12_trip_115 : decode cX12_trip 115 = .ok (.iload_n 1, 1) := by decide +kernel
theorem dX12_trip_116 : decode cX12_trip 116 = .ok (.iload_n 2, 1) := by decide +kernel
theorem dX12_trip_117 : decode cX12_trip 117 = .ok (.iload_n 3, 1) := by decide +kernel
theorem dX12_trip_118 : decode cX12_trip 118 = .ok (.iload 4, 2) := by decide +kernel
theorem dX12_trip_120 : decode cX12_trip 120 = .ok (.iload 5, 2) := by decide +kernel
theorem dX12_trip_122 : decode cX12_trip 122 = .ok (.invokespecial 92, 3) := by decide +kernel
theorem dX12_trip_125 : decode cX12_trip 125 = .ok (.invokevirtual 58, 3) := by decide +kernel
theorem dX12_trip_128 : decode cX12_trip 128 = .ok (.pop, 1) := by decide +kernel
theorem dX12_trip_129 : decode cX12_trip 129 = .ok (.aload_n 0, 1) := by decide +kernel
theorem dX12_trip_130 : decode cX12_trip 130 = .ok (.getfield 10, 3) := by decide +kernel
theorem dX12_trip_133 : decode cX12_trip 133 = .ok (.getfield 87, 3) := by decide +kernel
theorem dX12_trip_136 : decode cX12_trip 136 = .ok (.invokevirtual 28, 3) := by decide +kernel
theorem dX12_trip_139 : decode cX12_trip 139 = .ok (.iconst 1, 1) := by decide +kernel
theorem dX12_trip_140 : decode cX12_trip 140 = .ok (.isub, 1) := by decide +kernel
theorem dX12_trip_141 : decode cX12_trip 141 = .ok (.ireturn, 1) := by decide +kernel
theorem dX12_openOf_0 : decode cX12_openOf 0 = .ok (.iconst 0, 1) := by decide +kernel
theorem dX12_openOf_1 : decode cX12_openOf 1 = .ok (.istore_n 2, 1) := by decide +kernel
theorem dX12_openOf_2 : decode cX12_openOf 2 = .ok (.iconst 0, 1) := by decide +kernel
theorem dX12_openOf_3 : decode cX12_openOf 3 = .ok (.istore_n 3, 1) := by decide +kernel
theorem dX12_openOf_4 : decode cX12_openOf 4 = .ok (.iload_n 3, 1) := by decide +kernel
theorem dX12_openOf_5 : decode cX12_openOf 5 = .ok (.aload_n 0, 1) := by decide +kernel
theorem dX12_openOf_6 : decode cX12_openOf 6 = .ok (.getfield 10, 3) := by decide +kernel
theorem dX12_openOf_9 : decode cX12_openOf 9 = .ok (.getfield 95, 3) := by decide +kernel
theorem dX12_openOf_12 : decode cX12_openOf 12 = .ok (.invokevirtual 28, 3) := by decide +kernel
theorem dX12_openOf_15 : decode cX12_openOf 15 = .ok (.if_icmp .ge 58, 3) := by decide +kernel
theorem dX12_openOf_18 : decode cX12_openOf 18 = .ok (.iload_n 2, 1) := by decide +kernel
theorem dX12_openOf_19 : decode cX12_openOf 19 = .ok (.aload_n 0, 1) := by decide +kernel
theorem dX12_openOf_20 : decode cX12_openOf 20 = .ok (.getfield 10, 3) := by decide +kernel
theorem dX12_openOf_23 : decode cX12_openOf 23 = .ok (.getfield 95, 3) := by decide +kernel
theorem dX12_openOf_26 : decode cX12_openOf 26 = .ok (.iload_n 3, 1) := by decide +kernel
theorem dX12_openOf_27 : decode cX12_openOf 27 = .ok (.invokevirtual 38, 3) := by decide +kernel
theorem dX12_openOf_30 : decode cX12_openOf 30 = .ok (.checkcast 98, 3) := by decide +kernel
theorem dX12_openOf_33 : decode cX12_openOf 33 = .ok (.getfield 100, 3) := by decide +kernel
theorem dX12_openOf_36 : decode cX12_openOf 36 = .ok (.iload_n 1, 1) := by decide +kernel
theorem dX12_openOf_37 : decode cX12_openOf 37 = .ok (.if_icmp .ne 27, 3) := by decide +kernel
theorem dX12_openOf_40 : decode cX12_openOf 40 = .ok (.aload_n 0, 1) := by decide +kernel
theorem dX12_openOf_41 : decode cX12_openOf 41 = .ok (.getfield 10, 3) := by decide +kernel
theorem dX12_openOf_44 : decode cX12_openOf 44 = .ok (.getfield 95, 3) := by decide +kernel
theorem dX12_openOf_47 : decode cX12_openOf 47 = .ok (.iload_n 3, 1) := by decide +kernel
theorem dX12_openOf_48 : decode cX12_openOf 48 = .ok (.invokevirtual 38, 3) := by decide +kernel
theorem dX12_openOf_51 : decode cX12_openOf 51 = .ok (.checkcast 98, 3) := by decide +kernel
theorem dX12_openOf_54 : decode cX12_openOf 54 = .ok (.getfield 103, 3) := by decide +kernel
theorem dX12_openOf_57 : decode cX12_openOf 57 = .ok (.ifCond .ne 7, 3) := by decide +kernel
theorem dX12_openOf_60 : decode cX12_openOf 60 = .ok (.iconst 1, 1) := by decide +kernel
theorem dX12_openOf_61 : decode cX12_openOf 61 = .ok (.goto 4, 3) := by decide +kernel
theorem dX12_openOf_64 : decode cX12_openOf 64 = .ok (.iconst 0, 1) := by decide +kernel
theorem dX12_openOf_65 : decode cX12_openOf 65 = .ok (.iadd, 1) := by decide +kernel
theorem dX12_openOf_66 : decode cX12_openOf 66 = .ok (.istore_n 2, 1) := by decide +kernel
theorem dX12_openOf_67 : decode cX12_openOf 67 = .ok (.iinc 3 1, 3) := by decide +kernel
theorem dX12_openOf_70 : decode cX12_openOf 70 = .ok (.goto (-66), 3) := by decide +kernel
theorem dX12_openOf_73 : decode cX12_openOf 73 = .ok (.iload_n 2, 1) := by decide +kernel
theorem dX12_openOf_74 : decode cX12_openOf 74 = .ok (.ireturn, 1) := by decide +kernel
theorem dX12_repaidOf_0 : decode cX12_repaidOf 0 = .ok (.iconst 0, 1) := by decide +kernel
theorem dX12_repaidOf_1 : decode cX12_repaidOf 1 = .ok (.istore_n 2, 1) := by decide +kernel
theorem dX12_repaidOf_2 : decode cX12_repaidOf 2 = .ok (.iconst 0, 1) := by decide +kernel
theorem dX12_repaidOf_3 : decode cX12_repaidOf 3 = .ok (.istore_n 3, 1) := by decide +kernel
theorem dX12_repaidOf_4 : decode cX12_repaidOf 4 = .ok (.iload_n 3, 1) := by decide +kernel
theorem dX12_repaidOf_5 : decode cX12_repaidOf 5 = .ok (.aload_n 0, 1) := by decide +kernel
theorem dX12_repaidOf_6 : decode cX12_repaidOf 6 = .ok (.getfield 10, 3) := by decide +kernel
theorem dX12_repaidOf_9 : decode cX12_repaidOf 9 = .ok (.getfield 95, 3) := by decide +kernel
theorem dX12_repaidOf_12 : decode cX12_repaidOf 12 = .ok (.invokevirtual 28, 3) := by decide +kernel
theorem dX12_repaidOf_15 : decode cX12_repaidOf 15 = .ok (.if_icmp .ge 74, 3) := by decide +kernel
theorem dX12_repaidOf_18 : decode cX12_repaidOf 18 = .ok (.iload_n 2, 1) := by decide +kernel
theorem dX12_repaidOf_19 : decode cX12_repaidOf 19 = .ok (.aload_n 0, 1) := by decide +kernel
theorem dX12_repaidOf_20 : decode cX12_repaidOf 20 = .ok (.getfield 10, 3) := by decide +kernel
theorem dX12_repaidOf_23 : decode cX12_repaidOf 23 = .ok (.getfield 95, 3) := by decide +kernel
theorem dX12_repaidOf_26 : decode cX12_repaidOf 26 = .ok (.iload_n 3, 1) := by decide +kernel
theorem dX12_repaidOf_27 : decode cX12_repaidOf 27 = .ok (.invokevirtual 38, 3) := by decide +kernel
theorem dX12_repaidOf_30 : decode cX12_repaidOf 30 = .ok (.checkcast 98, 3) := by decide +kernel
theorem dX12_repaidOf_33 : decode cX12_repaidOf 33 = .ok (.getfield 100, 3) := by decide +kernel
theorem dX12_repaidOf_36 : decode cX12_repaidOf 36 = .ok (.iload_n 1, 1) := by decide +kernel
theorem dX12_repaidOf_37 : decode cX12_repaidOf 37 = .ok (.if_icmp .ne 43, 3) := by decide +kernel
theorem dX12_repaidOf_40 : decode cX12_repaidOf 40 = .ok (.aload_n 0, 1) := by decide +kernel
theorem dX12_repaidOf_41 : decode cX12_repaidOf 41 = .ok (.getfield 10, 3) := by decide +kernel
theorem dX12_repaidOf_44 : decode cX12_repaidOf 44 = .ok (.getfield 95, 3) := by decide +kernel
theorem dX12_repaidOf_47 : decode cX12_repaidOf 47 = .ok (.iload_n 3, 1) := by decide +kernel
theorem dX12_repaidOf_48 : decode cX12_repaidOf 48 = .ok (.invokevirtual 38, 3) := by decide +kernel
theorem dX12_repaidOf_51 : decode cX12_repaidOf 51 = .ok (.checkcast 98, 3) := by decide +kernel
theorem dX12_repaidOf_54 : decode cX12_repaidOf 54 = .ok (.invokevirtual 106, 3) := by decide +kernel
theorem dX12_repaidOf_57 : decode cX12_repaidOf 57 = .ok (.ifCond .eq 23, 3) := by decide +kernel
theorem dX12_repaidOf_60 : decode cX12_repaidOf 60 = .ok (.aload_n 0, 1) := by decide +kernel
theorem dX12_repaidOf_61 : decode cX12_repaidOf 61 = .ok (.getfield 10, 3) := by decide +kernel
theorem dX12_repaidOf_64 : decode cX12_repaidOf 64 = .ok (.getfield 95, 3) := by decide +kernel
theorem dX12_repaidOf_67 : decode cX12_repaidOf 67 = .ok (.iload_n 3, 1) := by decide +kernel
theorem dX12_repaidOf_68 : decode cX12_repaidOf 68 = .ok (.invokevirtual 38, 3) := by decide +kernel
theorem dX12_repaidOf_71 : decode cX12_repaidOf 71 = .ok (.checkcast 98, 3) := by decide +kernel
theorem dX12_repaidOf_74 : decode cX12_repaidOf 74 = .ok (.getfield 110, 3) := by decide +kernel
theorem dX12_repaidOf_77 : decode cX12_repaidOf 77 = .ok (.goto 4, 3) := by decide +kernel
theorem dX12_repaidOf_80 : decode cX12_repaidOf 80 = .ok (.iconst 0, 1) := by decide +kernel
theorem dX12_repaidOf_81 : decode cX12_repaidOf 81 = .ok (.iadd, 1) := by decide +kernel
theorem dX12_repaidOf_82 : decode cX12_repaidOf 82 = .ok (.istore_n 2, 1) := by decide +kernel
theorem dX12_repaidOf_83 : decode cX12_repaidOf 83 = .ok (.iinc 3 1, 3) := by decide +kernel
theorem dX12_repaidOf_86 : decode cX12_repaidOf 86 = .ok (.goto (-82), 3) := by decide +kernel
theorem dX12_repaidOf_89 : decode cX12_repaidOf 89 = .ok (.iload_n 2, 1) := by decide +kernel
theorem dX12_repaidOf_90 : decode cX12_repaidOf 90 = .ok (.ireturn, 1) := by decide +kernel
theorem dX12_waitingFor_0 : decode cX12_waitingFor 0 = .ok (.iconst 0, 1) := by decide +kernel
theorem dX12_waitingFor_1 : decode cX12_waitingFor 1 = .ok (.istore_n 2, 1) := by decide +kernel
theorem dX12_waitingFor_2 : decode cX12_waitingFor 2 = .ok (.iconst 0, 1) := by decide +kernel
theorem dX12_waitingFor_3 : decode cX12_waitingFor 3 = .ok (.istore_n 3, 1) := by decide +kernel
theorem dX12_waitingFor_4 : decode cX12_waitingFor 4 = .ok (.iload_n 3, 1) := by decide +kernel
theorem dX12_waitingFor_5 : decode cX12_waitingFor 5 = .ok (.aload_n 0, 1) := by decide +kernel
theorem dX12_waitingFor_6 : decode cX12_waitingFor 6 = .ok (.getfield 10, 3) := by decide +kernel
theorem dX12_waitingFor_9 : decode cX12_waitingFor 9 = .ok (.getfield 95, 3) := by decide +kernel
theorem dX12_waitingFor_12 : decode cX12_waitingFor 12 = .ok (.invokevirtual 28, 3) := by decide +kernel
theorem dX12_waitingFor_15 : decode cX12_waitingFor 15 = .ok (.if_icmp .ge 42, 3) := by decide +kernel
theorem dX12_waitingFor_18 : decode cX12_waitingFor 18 = .ok (.iload_n 2, 1) := by decide +kernel
theorem dX12_waitingFor_19 : decode cX12_waitingFor 19 = .ok (.aload_n 0, 1) := by decide +kernel
theorem dX12_waitingFor_20 : decode cX12_waitingFor 20 = .ok (.getfield 10, 3) := by decide +kernel
theorem dX12_waitingFor_23 : decode cX12_waitingFor 23 = .ok (.aload_n 0, 1) := by decide +kernel
theorem dX12_waitingFor_24 : decode cX12_waitingFor 24 = .ok (.getfield 10, 3) := by decide +kernel
theorem dX12_waitingFor_27 : decode cX12_waitingFor 27 = .ok (.getfield 95, 3) := by decide +kernel
theorem dX12_waitingFor_30 : decode cX12_waitingFor 30 = .ok (.iload_n 3, 1) := by decide +kernel
theorem dX12_waitingFor_31 : decode cX12_waitingFor 31 = .ok (.invokevirtual 38, 3) := by decide +kernel
theorem dX12_waitingFor_34 : decode cX12_waitingFor 34 = .ok (.checkcast 98, 3) := by decide +kernel
theorem dX12_waitingFor_37 : decode cX12_waitingFor 37 = .ok (.invokevirtual 113, 3) := by decide +kernel
theorem dX12_waitingFor_40 : decode cX12_waitingFor 40 = .ok (.iload_n 1, 1) := by decide +kernel
theorem dX12_waitingFor_41 : decode cX12_waitingFor 41 = .ok (.if_icmp .ne 7, 3) := by decide +kernel
theorem dX12_waitingFor_44 : decode cX12_waitingFor 44 = .ok (.iconst 1, 1) := by decide +kernel
theorem dX12_waitingFor_45 : decode cX12_waitingFor 45 = .ok (.goto 4, 3) := by decide +kernel
theorem dX12_waitingFor_48 : decode cX12_waitingFor 48 = .ok (.iconst 0, 1) := by decide +kernel
theorem dX12_waitingFor_49 : decode cX12_waitingFor 49 = .ok (.iadd, 1) := by decide +kernel
theorem dX12_waitingFor_50 : decode cX12_waitingFor 50 = .ok (.istore_n 2, 1) := by decide +kernel
theorem dX12_waitingFor_51 : decode cX12_waitingFor 51 = .ok (.iinc 3 1, 3) := by decide +kernel
theorem dX12_waitingFor_54 : decode cX12_waitingFor 54 = .ok (.goto (-50), 3) := by decide +kernel
theorem dX12_waitingFor_57 : decode cX12_waitingFor 57 = .ok (.iload_n 2, 1) := by decide +kernel
theorem dX12_waitingFor_58 : decode cX12_waitingFor 58 = .ok (.ireturn, 1) := by decide +kernel
theorem dX12_ofPersonNow_0 : decode cX12_ofPersonNow 0 = .ok (.aload_n 0, 1) := by decide +kernel
theorem dX12_ofPersonNow_1 : decode cX12_ofPersonNow 1 = .ok (.iload_n 1, 1) := by decide +kernel
theorem dX12_ofPersonNow_2 : decode cX12_ofPersonNow 2 = .ok (.invokevirtual 51, 3) := by decide +kernel
theorem dX12_ofPersonNow_5 : decode cX12_ofPersonNow 5 = .ok (.astore_n 3, 1) := by decide +kernel
theorem dX12_ofPersonNow_6 : decode cX12_ofPersonNow 6 = .ok (.bipush 7, 2) := by decide +kernel
theorem dX12_ofPersonNow_8 : decode cX12_ofPersonNow 8 = .ok (.newarray .int, 2) := by decide +kernel
theorem dX12_ofPersonNow_10 : decode cX12_ofPersonNow 10 = .ok (.dup, 1) := by decide +kernel
theorem dX12_ofPersonNow_11 : decode cX12_ofPersonNow 11 = .ok (.iconst 0, 1) := by decide +kernel
theorem dX12_ofPersonNow_12 : decode cX12_ofPersonNow 12 = .ok (.aload_n 3, 1) := by decide +kernel
theorem dX12_ofPersonNow_13 : decode cX12_ofPersonNow 13 = .ok (.getfield 117, 3) := by decide +kernel
theorem dX12_ofPersonNow_16 : decode cX12_ofPersonNow 16 = .ok (.ifnonnull 7, 3) := by decide +kernel
theorem dX12_ofPersonNow_19 : decode cX12_ofPersonNow 19 = .ok (.iconst (-1), 1) := by decide +kernel
theorem dX12_ofPersonNow_20 : decode cX12_ofPersonNow 20 = .ok (.goto 10, 3) := by decide +kernel
theorem dX12_ofPersonNow_23 : decode cX12_ofPersonNow 23 = .ok (.aload_n 3, 1) := by decide +kernel
theorem dX12_ofPersonNow_24 : decode cX12_ofPersonNow 24 = .ok (.getfield 117, 3) := by decide +kernel
theorem dX12_ofPersonNow_27 : decode cX12_ofPersonNow 27 = .ok (.getfield 121, 3) := by decide +kernel
theorem dX12_ofPersonNow_30 : decode cX12_ofPersonNow 30 = .ok (.iastore, 1) := by decide +kernel
theorem dX12_ofPersonNow_31 : decode cX12_ofPersonNow 31 = .ok (.dup, 1) := by decide +kernel
theorem dX12_ofPersonNow_32 : decode cX12_ofPersonNow 32 = .ok (.iconst 1, 1) := by decide +kernel
theorem dX12_ofPersonNow_33 : decode cX12_ofPersonNow 33 = .ok (.aload_n 3, 1) := by decide +kernel
theorem dX12_ofPersonNow_34 : decode cX12_ofPersonNow 34 = .ok (.getfield 124, 3) := by decide +kernel
theorem dX12_ofPersonNow_37 : decode cX12_ofPersonNow 37 = .ok (.iastore, 1) := by decide +kernel
theorem dX12_ofPersonNow_38 : decode cX12_ofPersonNow 38 = .ok (.dup, 1) := by decide +kernel
theorem dX12_ofPersonNow_39 : decode cX12_ofPersonNow 39 = .ok (.iconst 2, 1) := by decide +kernel
theorem dX12_ofPersonNow_40 : decode cX12_ofPersonNow 40 = .ok (.aload_n 3, 1) := by decide +kernel
theorem dX12_ofPersonNow_41 : decode cX12_ofPersonNow 41 = .ok (.getfield 127, 3) := by decide +kernel
theorem dX12_ofPersonNow_44 : decode cX12_ofPersonNow 44 = .ok (.iastore, 1) := by decide +kernel
theorem dX12_ofPersonNow_45 : decode cX12_ofPersonNow 45 = .ok (.dup, 1) := by decide +kernel
theorem dX12_ofPersonNow_46 : decode cX12_ofPersonNow 46 = .ok (.iconst 3, 1) := by decide +kernel
theorem dX12_ofPersonNow_47 : decode cX12_ofPersonNow 47 = .ok (.aload_n 0, 1) := by decide +kernel
theorem dX12_ofPersonNow_48 : decode cX12_ofPersonNow 48 = .ok (.getfield 10, 3) := by decide +kernel
theorem dX12_ofPersonNow_51 : decode cX12_ofPersonNow 51 = .ok (.iload_n 1, 1) := by decide +kernel
theorem dX12_ofPersonNow_52 : decode cX12_ofPersonNow 52 = .ok (.invokevirtual 72, 3) := by decide +kernel
theorem dX12_ofPersonNow_55 : decode cX12_ofPersonNow 55 = .ok (.ifCond .eq 7, 3) := by decide +kernel
theorem dX12_ofPersonNow_58 : decode cX12_ofPersonNow 58 = .ok (.iconst 1, 1) := by decide +kernel
theorem dX12_ofPersonNow_59 : decode cX12_ofPersonNow 59 = .ok (.goto 4, 3) := by decide +kernel
theorem dX12_ofPersonNow_62 : decode cX12_ofPersonNow 62 = .ok (.iconst 0, 1) := by decide +kernel
theorem dX12_ofPersonNow_63 : decode cX12_ofPersonNow 63 = .ok (.iastore, 1) := by decide +kernel
theorem dX12_ofPersonNow_64 : decode cX12_ofPersonNow 64 = .ok (.dup, 1) := by decide +kernel
theorem dX12_ofPersonNow_65 : decode cX12_ofPersonNow 65 = .ok (.iconst 4, 1) := by decide +kernel
theorem dX12_ofPersonNow_66 : decode cX12_ofPersonNow 66 = .ok (.aload_n 0, 1) := by decide +kernel
theorem dX12_ofPersonNow_67 : decode cX12_ofPersonNow 67 = .ok (.iload_n 1, 1) := by decide +kernel
theorem dX12_ofPersonNow_68 : decode cX12_ofPersonNow 68 = .ok (.invokevirtual 130, 3) := by decide +kernel
theorem dX12_ofPersonNow_71 : decode cX12_ofPersonNow 71 = .ok (.iastore, 1) := by decide +kernel
theorem dX12_ofPersonNow_72 : decode cX12_ofPersonNow 72 = .ok (.dup, 1) := by decide +kernel
theorem dX12_ofPersonNow_73 : decode cX12_ofPersonNow 73 = .ok (.iconst 5, 1) := by decide +kernel
theorem dX12_ofPersonNow_74 : decode cX12_ofPersonNow 74 = .ok (.aload_n 0, 1) := by decide +kernel
theorem dX12_ofPersonNow_75 : decode cX12_ofPersonNow 75 = .ok (.iload_n 1, 1) := by decide +kernel
theorem dX12_ofPersonNow_76 : decode cX12_ofPersonNow 76 = .ok (.invokevirtual 134, 3) := by decide +kernel
theorem dX12_ofPersonNow_79 : decode cX12_ofPersonNow 79 = .ok (.iastore, 1) := by decide +kernel
theorem dX12_ofPersonNow_80 : decode cX12_ofPersonNow 80 = .ok (.dup, 1) := by decide +kernel
theorem dX12_ofPersonNow_81 : decode cX12_ofPersonNow 81 = .ok (.bipush 6, 2) := by decide +kernel
theorem dX12_ofPersonNow_83 : decode cX12_ofPersonNow 83 = .ok (.aload_n 0, 1) := by decide +kernel
theorem dX12_ofPersonNow_84 : decode cX12_ofPersonNow 84 = .ok (.iload_n 1, 1) := by decide +kernel
theorem dX12_ofPersonNow_85 : decode cX12_ofPersonNow 85 = .ok (.invokevirtual 137, 3) := by decide +kernel
theorem dX12_ofPersonNow_88 : decode cX12_ofPersonNow 88 = .ok (.iastore, 1) := by decide +kernel
theorem dX12_ofPersonNow_89 : decode cX12_ofPersonNow 89 = .ok (.astore 4, 2) := by decide +kernel
theorem dX12_ofPersonNow_91 : decode cX12_ofPersonNow 91 = .ok (.aload 4, 2) := by decide +kernel
theorem dX12_ofPersonNow_93 : decode cX12_ofPersonNow 93 = .ok (.iload_n 2, 1) := by decide +kernel
theorem dX12_ofPersonNow_94 : decode cX12_ofPersonNow 94 = .ok (.iaload, 1) := by decide +kernel
theorem dX12_ofPersonNow_95 : decode cX12_ofPersonNow 95 = .ok (.ireturn, 1) := by decide +kernel
theorem dX12_ofPerson_0 : decode cX12_ofPerson 0 = .ok (.aload_n 0, 1) := by decide +kernel
theorem dX12_ofPerson_1 : decode cX12_ofPerson 1 = .ok (.aload_n 0, 1) := by decide +kernel
theorem dX12_ofPerson_2 : decode cX12_ofPerson 2 = .ok (.iload_n 1, 1) := by decide +kernel
theorem dX12_ofPerson_3 : decode cX12_ofPerson 3 = .ok (.invokevirtual 44, 3) := by decide +kernel
theorem dX12_ofPerson_6 : decode cX12_ofPerson 6 = .ok (.iconst 1, 1) := by decide +kernel
theorem dX12_ofPerson_7 : decode cX12_ofPerson 7 = .ok (.invokevirtual 48, 3) := by decide +kernel
theorem dX12_ofPerson_10 : decode cX12_ofPerson 10 = .ok (.ifCond .ne 26, 3) := by decide +kernel
theorem dX12_ofPerson_13 : decode cX12_ofPerson 13 = .ok (.aload_n 0, 1) := by decide +kernel
theorem dX12_ofPerson_14 : decode cX12_ofPerson 14 = .ok (.iload_n 2, 1) := by decide +kernel
theorem dX12_ofPerson_15 : decode cX12_ofPerson 15 = .ok (.iconst 0, 1) := by decide +kernel
theorem dX12_ofPerson_16 : decode cX12_ofPerson 16 = .ok (.bipush 6, 2) := by decide +kernel
theorem dX12_ofPerson_18 : decode cX12_ofPerson 18 = .ok (.invokestatic 34, 3) := by decide +kernel
theorem dX12_ofPerson_21 : decode cX12_ofPerson 21 = .ok (.ifCond .ne 7, 3) := by decide +kernel
theorem dX12_ofPerson_24 : decode cX12_ofPerson 24 = .ok (.iconst 1, 1) := by decide +kernel
theorem dX12_ofPerson_25 : decode cX12_ofPerson 25 = .ok (.goto 4, 3) := by decide +kernel
theorem dX12_ofPerson_28 : decode cX12_ofPerson 28 = .ok (.iconst 0, 1) := by decide +kernel
theorem dX12_ofPerson_29 : decode cX12_ofPerson 29 = .ok (.iconst 2, 1) := by decide +kernel
theorem dX12_ofPerson_30 : decode cX12_ofPerson 30 = .ok (.invokevirtual 20, 3) := by decide +kernel
theorem dX12_ofPerson_33 : decode cX12_ofPerson 33 = .ok (.ifCond .eq 7, 3) := by decide +kernel
theorem dX12_ofPerson_36 : decode cX12_ofPerson 36 = .ok (.iconst 0, 1) := by decide +kernel
theorem dX12_ofPerson_37 : decode cX12_ofPerson 37 = .ok (.goto 9, 3) := by decide +kernel
theorem dX12_ofPerson_40 : decode cX12_ofPerson 40 = .ok (.aload_n 0, 1) := by decide +kernel
theorem dX12_ofPerson_41 : decode cX12_ofPerson 41 = .ok (.iload_n 1, 1) := by decide +kernel
theorem dX12_ofPerson_42 : decode cX12_ofPerson 42 = .ok (.iload_n 2, 1) := by decide +kernel
theorem dX12_ofPerson_43 : decode cX12_ofPerson 43 = .ok (.invokevirtual 140, 3) := by decide +kernel
theorem dX12_ofPerson_46 : decode cX12_ofPerson 46 = .ok (.ireturn, 1) := by decide +kernel
theorem dX12_maySpend_0 : decode cX12_maySpend 0 = .ok (.aload_n 0, 1) := by decide +kernel
theorem dX12_maySpend_1 : decode cX12_maySpend 1 = .ok (.aload_n 0, 1) := by decide +kernel
theorem dX12_maySpend_2 : decode cX12_maySpend 2 = .ok (.iload_n 1, 1) := by decide +kernel
theorem dX12_maySpend_3 : decode cX12_maySpend 3 = .ok (.invokevirtual 44, 3) := by decide +kernel
theorem dX12_maySpend_6 : decode cX12_maySpend 6 = .ok (.ifCond .ne 17, 3) := by decide +kernel
theorem dX12_maySpend_9 : decode cX12_maySpend 9 = .ok (.iload_n 2, 1) := by decide +kernel
theorem dX12_maySpend_10 : decode cX12_maySpend 10 = .ok (.invokestatic 62, 3) := by decide +kernel
theorem dX12_maySpend_13 : decode cX12_maySpend 13 = .ok (.ifCond .ne 10, 3) := by decide +kernel
theorem dX12_maySpend_16 : decode cX12_maySpend 16 = .ok (.iload_n 3, 1) := by decide +kernel
theorem dX12_maySpend_17 : decode cX12_maySpend 17 = .ok (.invokestatic 84, 3) := by decide +kernel
theorem dX12_maySpend_20 : decode cX12_maySpend 20 = .ok (.ifCond .eq 7, 3) := by decide +kernel
theorem dX12_maySpend_23 : decode cX12_maySpend 23 = .ok (.iconst 1, 1) := by decide +kernel
theorem dX12_maySpend_24 : decode cX12_maySpend 24 = .ok (.goto 4, 3) := by decide +kernel
theorem dX12_maySpend_27 : decode cX12_maySpend 27 = .ok (.iconst 0, 1) := by decide +kernel
theorem dX12_maySpend_28 : decode cX12_maySpend 28 = .ok (.iconst 1, 1) := by decide +kernel
theorem dX12_maySpend_29 : decode cX12_maySpend 29 = .ok (.invokevirtual 48, 3) := by decide +kernel
theorem dX12_maySpend_32 : decode cX12_maySpend 32 = .ok (.ifCond .eq 7, 3) := by decide +kernel
theorem dX12_maySpend_35 : decode cX12_maySpend 35 = .ok (.iconst 0, 1) := by decide +kernel
theorem dX12_maySpend_36 : decode cX12_maySpend 36 = .ok (.goto 13, 3) := by decide +kernel
theorem dX12_maySpend_39 : decode cX12_maySpend 39 = .ok (.aload_n 0, 1) := by decide +kernel
theorem dX12_maySpend_40 : decode cX12_maySpend 40 = .ok (.getfield 10, 3) := by decide +kernel
theorem dX12_maySpend_43 : decode cX12_maySpend 43 = .ok (.iload_n 1, 1) := by decide +kernel
theorem dX12_maySpend_44 : decode cX12_maySpend 44 = .ok (.iload_n 2, 1) := by decide +kernel
theorem dX12_maySpend_45 : decode cX12_maySpend 45 = .ok (.iload_n 3, 1) := by decide +kernel
theorem dX12_maySpend_46 : decode cX12_maySpend 46 = .ok (.invokevirtual 144, 3) := by decide +kernel
theorem dX12_maySpend_49 : decode cX12_maySpend 49 = .ok (.ireturn, 1) := by decide +kernel
theorem dX12_isNoBudget_0 : decode cX12_isNoBudget 0 = .ok (.aload_n 0, 1) := by decide +kernel
theorem dX12_isNoBudget_1 : decode cX12_isNoBudget 1 = .ok (.iload_n 1, 1) := by decide +kernel
theorem dX12_isNoBudget_2 : decode cX12_isNoBudget 2 = .ok (.invokestatic 62, 3) := by decide +kernel
theorem dX12_isNoBudget_5 : decode cX12_isNoBudget 5 = .ok (.ifCond .ne 12, 3) := by decide +kernel
theorem dX12_isNoBudget_8 : decode cX12_isNoBudget 8 = .ok (.iload_n 2, 1) := by decide +kernel
theorem dX12_isNoBudget_9 : decode cX12_isNoBudget 9 = .ok (.iconst 0, 1) := by decide +kernel
theorem dX12_isNoBudget_10 : decode cX12_isNoBudget 10 = .ok (.iconst 3, 1) := by decide +kernel
theorem dX12_isNoBudget_11 : decode cX12_isNoBudget 11 = .ok (.invokestatic 34, 3) := by decide +kernel
theorem dX12_isNoBudget_14 : decode cX12_isNoBudget 14 = .ok (.ifCond .ne 7, 3) := by decide +kernel
theorem dX12_isNoBudget_17 : decode cX12_isNoBudget 17 = .ok (.iconst 1, 1) := by decide +kernel
theorem dX12_isNoBudget_18 : decode cX12_isNoBudget 18 = .ok (.goto 4, 3) := by decide +kernel
theorem dX12_isNoBudget_21 : decode cX12_isNoBudget 21 = .ok (.iconst 0, 1) := by decide +kernel
theorem dX12_isNoBudget_22 : decode cX12_isNoBudget 22 = .ok (.iconst 1, 1) := by decide +kernel
theorem dX12_isNoBudget_23 : decode cX12_isNoBudget 23 = .ok (.invokevirtual 48, 3) := by decide +kernel
theorem dX12_isNoBudget_26 : decode cX12_isNoBudget 26 = .ok (.ireturn, 1) := by decide +kernel
theorem dX12_plan_0 : decode cX12_plan 0 = .ok (.aload_n 0, 1) := by decide +kernel
theorem dX12_plan_1 : decode cX12_plan 1 = .ok (.iload_n 1, 1) := by decide +kernel
theorem dX12_plan_2 : decode cX12_plan 2 = .ok (.iload_n 2, 1) := by decide +kernel
theorem dX12_plan_3 : decode cX12_plan 3 = .ok (.invokevirtual 148, 3) := by decide +kernel
theorem dX12_plan_6 : decode cX12_plan 6 = .ok (.ifCond .ne 26, 3) := by decide +kernel
theorem dX12_plan_9 : decode cX12_plan 9 = .ok (.aload_n 0, 1) := by decide +kernel
theorem dX12_plan_10 : decode cX12_plan 10 = .ok (.iload_n 3, 1) := by decide +kernel
theorem dX12_plan_11 : decode cX12_plan 11 = .ok (.iconst 0, 1) := by decide +kernel
theorem dX12_plan_12 : decode cX12_plan 12 = .ok (.ldc 152, 2) := by decide +kernel
theorem dX12_plan_14 : decode cX12_plan 14 = .ok (.invokestatic 34, 3) := by decide +kernel
theorem dX12_plan_17 : decode cX12_plan 17 = .ok (.ifCond .ne 7, 3) := by decide +kernel
theorem dX12_plan_20 : decode cX12_plan 20 = .ok (.iconst 1, 1) := by decide +kernel
theorem dX12_plan_21 : decode cX12_plan 21 = .ok (.goto 4, 3) := by decide +kernel
theorem dX12_plan_24 : decode cX12_plan 24 = .ok (.iconst 0, 1) := by decide +kernel
theorem dX12_plan_25 : decode cX12_plan 25 = .ok (.iconst 2, 1) := by decide +kernel
theorem dX12_plan_26 : decode cX12_plan 26 = .ok (.invokevirtual 20, 3) := by decide +kernel
theorem dX12_plan_29 : decode cX12_plan 29 = .ok (.ifCond .eq 5, 3) := by decide +kernel
theorem dX12_plan_32 : decode cX12_plan 32 = .ok (.iconst 0, 1) := by decide +kernel
theorem dX12_plan_33 : decode cX12_plan 33 = .ok (.ireturn, 1) := by decide +kernel
theorem dX12_plan_34 : decode cX12_plan 34 = .ok (.aload_n 0, 1) := by decide +kernel
theorem dX12_plan_35 : decode cX12_plan 35 = .ok (.getfield 10, 3) := by decide +kernel
theorem dX12_plan_38 : decode cX12_plan 38 = .ok (.getfield 153, 3) := by decide +kernel
theorem dX12_plan_41 : decode cX12_plan 41 = .ok (.iload_n 1, 1) := by decide +kernel
theorem dX12_plan_42 : decode cX12_plan 42 = .ok (.aaload, 1) := by decide +kernel
theorem dX12_plan_43 : decode cX12_plan 43 = .ok (.iload_n 2, 1) := by decide +kernel
theorem dX12_plan_44 : decode cX12_plan 44 = .ok (.iaload, 1) := by decide +kernel
theorem dX12_plan_45 : decode cX12_plan 45 = .ok (.istore 4, 2) := by decide +kernel
theorem dX12_plan_47 : decode cX12_plan 47 = .ok (.aload_n 0, 1) := by decide +kernel
theorem dX12_plan_48 : decode cX12_plan 48 = .ok (.getfield 10, 3) := by decide +kernel
theorem dX12_plan_51 : decode cX12_plan 51 = .ok (.getfield 153, 3) := by decide +kernel
theorem dX12_plan_54 : decode cX12_plan 54 = .ok (.iload_n 1, 1) := by decide +kernel
theorem dX12_plan_55 : decode cX12_plan 55 = .ok (.aaload, 1) := by decide +kernel
theorem dX12_plan_56 : decode cX12_plan 56 = .ok (.iload_n 2, 1) := by decide +kernel
theorem dX12_plan_57 : decode cX12_plan 57 = .ok (.iload_n 3, 1) := by decide +kernel
theorem dX12_plan_58 : decode cX12_plan 58 = .ok (.iastore, 1) := by decide +kernel
theorem dX12_plan_59 : decode cX12_plan 59 = .ok (.iload 4, 2) := by decide +kernel
theorem dX12_plan_61 : decode cX12_plan 61 = .ok (.ireturn, 1) := by decide +kernel
theorem dX12_carry_0 : decode cX12_carry 0 = .ok (.aload_n 0, 1) := by decide +kernel
theorem dX12_carry_1 : decode cX12_carry 1 = .ok (.iload_n 1, 1) := by decide +kernel
theorem dX12_carry_2 : decode cX12_carry 2 = .ok (.invokestatic 62, 3) := by decide +kernel
theorem dX12_carry_5 : decode cX12_carry 5 = .ok (.iconst 1, 1) := by decide +kernel
theorem dX12_carry_6 : decode cX12_carry 6 = .ok (.invokevirtual 48, 3) := by decide +kernel
theorem dX12_carry_9 : decode cX12_carry 9 = .ok (.ifCond .ne 26, 3) := by decide +kernel
theorem dX12_carry_12 : decode cX12_carry 12 = .ok (.aload_n 0, 1) := by decide +kernel
theorem dX12_carry_13 : decode cX12_carry 13 = .ok (.iload_n 2, 1) := by decide +kernel
theorem dX12_carry_14 : decode cX12_carry 14 = .ok (.iconst 0, 1) := by decide +kernel
theorem dX12_carry_15 : decode cX12_carry 15 = .ok (.bipush 100, 2) := by decide +kernel
theorem dX12_carry_17 : decode cX12_carry 17 = .ok (.invokestatic 34, 3) := by decide +kernel
theorem dX12_carry_20 : decode cX12_carry 20 = .ok (.ifCond .ne 7, 3) := by decide +kernel
theorem dX12_carry_23 : decode cX12_carry 23 = .ok (.iconst 1, 1) := by decide +kernel
theorem dX12_carry_24 : decode cX12_carry 24 = .ok (.goto 4, 3) := by decide +kernel
theorem dX12_carry_27 : decode cX12_carry 27 = .ok (.iconst 0, 1) := by decide +kernel
theorem dX12_carry_28 : decode cX12_carry 28 = .ok (.iconst 2, 1) := by decide +kernel
theorem dX12_carry_29 : decode cX12_carry 29 = .ok (.invokevirtual 20, 3) := by decide +kernel
theorem dX12_carry_32 : decode cX12_carry 32 = .ok (.ifCond .eq 5, 3) := by decide +kernel
theorem dX12_carry_35 : decode cX12_carry 35 = .ok (.iconst 0, 1) := by decide +kernel
theorem dX12_carry_36 : decode cX12_carry 36 = .ok (.ireturn, 1) := by decide +kernel
theorem dX12_carry_37 : decode cX12_carry 37 = .ok (.aload_n 0, 1) := by decide +kernel
theorem dX12_carry_38 : decode cX12_carry 38 = .ok (.getfield 10, 3) := by decide +kernel
theorem dX12_carry_41 : decode cX12_carry 41 = .ok (.getfield 157, 3) := by decide +kernel
theorem dX12_carry_44 : decode cX12_carry 44 = .ok (.iload_n 1, 1) := by decide +kernel
theorem dX12_carry_45 : decode cX12_carry 45 = .ok (.iaload, 1) := by decide +kernel
theorem dX12_carry_46 : decode cX12_carry 46 = .ok (.istore_n 3, 1) := by decide +kernel
theorem dX12_carry_47 : decode cX12_carry 47 = .ok (.aload_n 0, 1) := by decide +kernel
theorem dX12_carry_48 : decode cX12_carry 48 = .ok (.getfield 10, 3) := by decide +kernel
theorem dX12_carry_51 : decode cX12_carry 51 = .ok (.getfield 157, 3) := by decide +kernel
theorem dX12_carry_54 : decode cX12_carry 54 = .ok (.iload_n 1, 1) := by decide +kernel
theorem dX12_carry_55 : decode cX12_carry 55 = .ok (.iload_n 2, 1) := by decide +kernel
theorem dX12_carry_56 : decode cX12_carry 56 = .ok (.iastore, 1) := by decide +kernel
theorem dX12_carry_57 : decode cX12_carry 57 = .ok (.iload_n 3, 1) := by decide +kernel
theorem dX12_carry_58 : decode cX12_carry 58 = .ok (.ireturn, 1) := by decide +kernel
theorem dX12_rate_0 : decode cX12_rate 0 = .ok (.aload_n 0, 1) := by decide +kernel
theorem dX12_rate_1 : decode cX12_rate 1 = .ok (.iload_n 1, 1) := by decide +kernel
theorem dX12_rate_2 : decode cX12_rate 2 = .ok (.invokestatic 84, 3) := by decide +kernel
theorem dX12_rate_5 : decode cX12_rate 5 = .ok (.ifCond .ne 10, 3) := by decide +kernel
theorem dX12_rate_8 : decode cX12_rate 8 = .ok (.iload_n 2, 1) := by decide +kernel
theorem dX12_rate_9 : decode cX12_rate 9 = .ok (.invokestatic 62, 3) := by decide +kernel
theorem dX12_rate_12 : decode cX12_rate 12 = .ok (.ifCond .eq 7, 3) := by decide +kernel
theorem dX12_rate_15 : decode cX12_rate 15 = .ok (.iconst 1, 1) := by decide +kernel
theorem dX12_rate_16 : decode cX12_rate 16 = .ok (.goto 4, 3) := by decide +kernel
theorem dX12_rate_19 : decode cX12_rate 19 = .ok (.iconst 0, 1) := by decide +kernel
theorem dX12_rate_20 : decode cX12_rate 20 = .ok (.iconst 1, 1) := by decide +kernel
theorem dX12_rate_21 : decode cX12_rate 21 = .ok (.invokevirtual 48, 3) := by decide +kernel
theorem dX12_rate_24 : decode cX12_rate 24 = .ok (.ifCond .ne 26, 3) := by decide +kernel
theorem dX12_rate_27 : decode cX12_rate 27 = .ok (.aload_n 0, 1) := by decide +kernel
theorem dX12_rate_28 : decode cX12_rate 28 = .ok (.iload_n 3, 1) := by decide +kernel
theorem dX12_rate_29 : decode cX12_rate 29 = .ok (.iconst 0, 1) := by decide +kernel
theorem dX12_rate_30 : decode cX12_rate 30 = .ok (.bipush 30, 2) := by decide +kernel
theorem dX12_rate_32 : decode cX12_rate 32 = .ok (.invokestatic 34, 3) := by decide +kernel
theorem dX12_rate_35 : decode cX12_rate 35 = .ok (.ifCond .ne 7, 3) := by decide +kernel
theorem dX12_rate_38 : decode cX12_rate 38 = .ok (.iconst 1, 1) := by decide +kernel
theorem dX12_rate_39 : decode cX12_rate 39 = .ok (.goto 4, 3) := by decide +kernel
theorem dX12_rate_42 : decode cX12_rate 42 = .ok (.iconst 0, 1) := by decide +kernel
theorem dX12_rate_43 : decode cX12_rate 43 = .ok (.iconst 2, 1) := by decide +kernel
theorem dX12_rate_44 : decode cX12_rate 44 = .ok (.invokevirtual 20, 3) := by decide +kernel
theorem dX12_rate_47 : decode cX12_rate 47 = .ok (.ifCond .eq 5, 3) := by decide +kernel
theorem dX12_rate_50 : decode cX12_rate 50 = .ok (.iconst 0, 1) := by decide +kernel
theorem dX12_rate_51 : decode cX12_rate 51 = .ok (.ireturn, 1) := by decide +kernel
theorem dX12_rate_52 : decode cX12_rate 52 = .ok (.aload_n 0, 1) := by decide +kernel
theorem dX12_rate_53 : decode cX12_rate 53 = .ok (.getfield 10, 3) := by decide +kernel
theorem dX12_rate_56 : decode cX12_rate 56 = .ok (.getfield 160, 3) := by decide +kernel
theorem dX12_rate_59 : decode cX12_rate 59 = .ok (.iload_n 1, 1) := by decide +kernel
theorem dX12_rate_60 : decode cX12_rate 60 = .ok (.aaload, 1) := by decide +kernel
theorem dX12_rate_61 : decode cX12_rate 61 = .ok (.iload_n 2, 1) := by decide +kernel
theorem dX12_rate_62 : decode cX12_rate 62 = .ok (.iaload, 1) := by decide +kernel
theorem dX12_rate_63 : decode cX12_rate 63 = .ok (.istore 4, 2) := by decide +kernel
theorem dX12_rate_65 : decode cX12_rate 65 = .ok (.aload_n 0, 1) := by decide +kernel
theorem dX12_rate_66 : decode cX12_rate 66 = .ok (.getfield 10, 3) := by decide +kernel
theorem dX12_rate_69 : decode cX12_rate 69 = .ok (.getfield 160, 3) := by decide +kernel
theorem dX12_rate_72 : decode cX12_rate 72 = .ok (.iload_n 1, 1) := by decide +kernel
theorem dX12_rate_73 : decode cX12_rate 73 = .ok (.aaload, 1) := by decide +kernel
theorem dX12_rate_74 : decode cX12_rate 74 = .ok (.iload_n 2, 1) := by decide +kernel
theorem dX12_rate_75 : decode cX12_rate 75 = .ok (.iload_n 3, 1) := by decide +kernel
theorem dX12_rate_76 : decode cX12_rate 76 = .ok (.iastore, 1) := by decide +kernel
theorem dX12_rate_77 : decode cX12_rate 77 = .ok (.iload 4, 2) := by decide +kernel
theorem dX12_rate_79 : decode cX12_rate 79 = .ok (.ireturn, 1) := by decide +kernel
theorem dX12_left_0 : decode cX12_left 0 = .ok (.aload_n 0, 1) := by decide +kernel
theorem dX12_left_1 : decode cX12_left 1 = .ok (.iload_n 1, 1) := by decide +kernel
theorem dX12_left_2 : decode cX12_left 2 = .ok (.iload_n 2, 1) := by decide +kernel
theorem dX12_left_3 : decode cX12_left 3 = .ok (.invokevirtual 148, 3) := by decide +kernel
theorem dX12_left_6 : decode cX12_left 6 = .ok (.ifCond .eq 7, 3) := by decide +kernel
theorem dX12_left_9 : decode cX12_left 9 = .ok (.iconst 0, 1) := by decide +kernel
theorem dX12_left_10 : decode cX12_left 10 = .ok (.goto 13, 3) := by decide +kernel
theorem dX12_left_13 : decode cX12_left 13 = .ok (.aload_n 0, 1) := by decide +kernel
theorem dX12_left_14 : decode cX12_left 14 = .ok (.getfield 10, 3) := by decide +kernel
theorem dX12_left_17 : decode cX12_left 17 = .ok (.iload_n 1, 1) := by decide +kernel
theorem dX12_left_18 : decode cX12_left 18 = .ok (.iload_n 2, 1) := by decide +kernel
theorem dX12_left_19 : decode cX12_left 19 = .ok (.iconst 0, 1) := by decide +kernel
theorem dX12_left_20 : decode cX12_left 20 = .ok (.invokevirtual 163, 3) := by decide +kernel
theorem dX12_left_23 : decode cX12_left 23 = .ok (.ireturn, 1) := by decide +kernel
theorem dX12_isNoText_0 : decode cX12_isNoText 0 = .ok (.iload_n 0, 1) := by decide +kernel
theorem dX12_isNoText_1 : decode cX12_isNoText 1 = .ok (.iconst 0, 1) := by decide +kernel
theorem dX12_isNoText_2 : decode cX12_isNoText 2 = .ok (.bipush 9, 2) := by decide +kernel
theorem dX12_isNoText_4 : decode cX12_isNoText 4 = .ok (.invokestatic 34, 3) := by decide +kernel
theorem dX12_isNoText_7 : decode cX12_isNoText 7 = .ok (.ifCond .ne 7, 3) := by decide +kernel
theorem dX12_isNoText_10 : decode cX12_isNoText 10 = .ok (.iconst 1, 1) := by decide +kernel
theorem dX12_isNoText_11 : decode cX12_isNoText 11 = .ok (.goto 4, 3) := by decide +kernel
theorem dX12_isNoText_14 : decode cX12_isNoText 14 = .ok (.iconst 0, 1) := by decide +kernel
theorem dX12_isNoText_15 : decode cX12_isNoText 15 = .ok (.ireturn, 1) := by decide +kernel
theorem dX12_charge_0 : decode cX12_charge 0 = .ok (.aload_n 0, 1) := by decide +kernel
theorem dX12_charge_1 : decode cX12_charge 1 = .ok (.aload_n 0, 1) := by decide +kernel
theorem dX12_charge_2 : decode cX12_charge 2 = .ok (.iload_n 1, 1) := by decide +kernel
theorem dX12_charge_3 : decode cX12_charge 3 = .ok (.invokevirtual 44, 3) := by decide +kernel
theorem dX12_charge_6 : decode cX12_charge 6 = .ok (.ifCond .ne 17, 3) := by decide +kernel
theorem dX12_charge_9 : decode cX12_charge 9 = .ok (.iload_n 2, 1) := by decide +kernel
theorem dX12_charge_10 : decode cX12_charge 10 = .ok (.invokestatic 62, 3) := by decide +kernel
theorem dX12_charge_13 : decode cX12_charge 13 = .ok (.ifCond .ne 10, 3) := by decide +kernel
theorem dX12_charge_16 : decode cX12_charge 16 = .ok (.iload_n 3, 1) := by decide +kernel
theorem dX12_charge_17 : decode cX12_charge 17 = .ok (.invokestatic 84, 3) := by decide +kernel
theorem dX12_charge_20 : decode cX12_charge 20 = .ok (.ifCond .eq 7, 3) := by decide +kernel
theorem dX12_charge_23 : decode cX12_charge 23 = .ok (.iconst 1, 1) := by decide +kernel
theorem dX12_charge_24 : decode cX12_charge 24 = .ok (.goto 4, 3) := by decide +kernel
theorem dX12_charge_27 : decode cX12_charge 27 = .ok (.iconst 0, 1) := by decide +kernel
theorem dX12_charge_28 : decode cX12_charge 28 = .ok (.iconst 1, 1) := by decide +kernel
theorem dX12_charge_29 : decode cX12_charge 29 = .ok (.invokevirtual 48, 3) := by decide +kernel
theorem dX12_charge_32 : decode cX12_charge 32 = .ok (.ifCond .ne 36, 3) := by decide +kernel
theorem dX12_charge_35 : decode cX12_charge 35 = .ok (.aload_n 0, 1) := by decide +kernel
theorem dX12_charge_36 : decode cX12_charge 36 = .ok (.iload 4, 2) := by decide +kernel
theorem dX12_charge_38 : decode cX12_charge 38 = .ok (.iconst 1, 1) := by decide +kernel
theorem dX12_charge_39 : decode cX12_charge 39 = .ok (.sipush 9999, 3) := by decide +kernel
theorem dX12_charge_42 : decode cX12_charge 42 = .ok (.invokestatic 34, 3) := by decide +kernel
theorem dX12_charge_45 : decode cX12_charge 45 = .ok (.ifCond .eq 11, 3) := by decide +kernel
theorem dX12_charge_48 : decode cX12_charge 48 = .ok (.iload 5, 2) := by decide +kernel
theorem dX12_charge_50 : decode cX12_charge 50 = .ok (.invokestatic 167, 3) := by decide +kernel
theorem dX12_charge_53 : decode cX12_charge 53 = .ok (.ifCond .eq 7, 3) := by decide +kernel
theorem dX12_charge_56 : decode cX12_charge 56 = .ok (.iconst 1, 1) := by decide +kernel
theorem dX12_charge_57 : decode cX12_charge 57 = .ok (.goto 4, 3) := by decide +kernel
theorem dX12_charge_60 : decode cX12_charge 60 = .ok (.iconst 0, 1) := by decide +kernel
theorem dX12_charge_61 : decode cX12_charge 61 = .ok (.iconst 2, 1) := by decide +kernel
theorem dX12_charge_62 : decode cX12_charge 62 = .ok (.invokevirtual 20, 3) := by decide +kernel
theorem dX12_charge_65 : decode cX12_charge 65 = .ok (.ifCond .eq 5, 3) := by decide +kernel
theorem dX12_charge_68 : decode cX12_charge 68 = .ok (.iconst 0, 1) := by decide +kernel
theorem dX12_charge_69 : decode cX12_charge 69 = .ok (.ireturn, 1) := by decide +kernel
theorem dX12_charge_70 : decode cX12_charge 70 = .ok (.aload_n 0, 1) := by decide +kernel
theorem dX12_charge_71 : decode cX12_charge 71 = .ok (.aload_n 0, 1) := by decide +kernel
theorem dX12_charge_72 : decode cX12_charge 72 = .ok (.getfield 10, 3) := by decide +kernel
theorem dX12_charge_75 : decode cX12_charge 75 = .ok (.getfield 95, 3) := by decide +kernel
theorem dX12_charge_78 : decode cX12_charge 78 = .ok (.invokevirtual 28, 3) := by decide +kernel
theorem dX12_charge_81 : decode cX12_charge 81 = .ok (.bipush 30, 2) := by decide +kernel
theorem dX12_charge_83 : decode cX12_charge 83 = .ok (.if_icmp .eq 42, 3) := by decide +kernel
theorem dX12_charge_86 : decode cX12_charge 86 = .ok (.iload 4, 2) := by decide +kernel
theorem dX12_charge_88 : decode cX12_charge 88 = .ok (.aload_n 0, 1) := by decide +kernel
theorem dX12_charge_89 : decode cX12_charge 89 = .ok (.getfield 10, 3) := by decide +kernel
theorem dX12_charge_92 : decode cX12_charge 92 = .ok (.iload_n 1, 1) := by decide +kernel
theorem dX12_charge_93 : decode cX12_charge 93 = .ok (.iload_n 2, 1) := by decide +kernel
theorem dX12_charge_94 : decode cX12_charge 94 = .ok (.iload_n 3, 1) := by decide +kernel
theorem dX12_charge_95 : decode cX12_charge 95 = .ok (.invokevirtual 144, 3) := by decide +kernel
theorem dX12_charge_98 : decode cX12_charge 98 = .ok (.if_icmp .gt 27, 3) := by decide +kernel
theorem dX12_charge_101 : decode cX12_charge 101 = .ok (.iload 4, 2) := by decide +kernel
theorem dX12_charge_103 : decode cX12_charge 103 = .ok (.aload_n 0, 1) := by decide +kernel
theorem dX12_charge_104 : decode cX12_charge 104 = .ok (.getfield 10, 3) := by decide +kernel
theorem dX12_charge_107 : decode cX12_charge 107 = .ok (.iload_n 2, 1) := by decide +kernel
theorem dX12_charge_108 : decode cX12_charge 108 = .ok (.aload_n 0, 1) := by decide +kernel
theorem dX12_charge_109 : decode cX12_charge 109 = .ok (.getfield 10, 3) := by decide +kernel
theorem dX12_charge_112 : decode cX12_charge 112 = .ok (.getfield 170, 3) := by decide +kernel
theorem dX12_charge_115 : decode cX12_charge 115 = .ok (.bipush 30, 2) := by decide +kernel
theorem dX12_charge_117 : decode cX12_charge 117 = .ok (.idiv, 1) := by decide +kernel
theorem dX12_charge_118 : decode cX12_charge 118 = .ok (.iconst 0, 1) := by decide +kernel
theorem dX12_charge_119 : decode cX12_charge 119 = .ok (.invokevirtual 163, 3) := by decide +kernel
theorem dX12_charge_122 : decode cX12_charge 122 = .ok (.if_icmp .le 7, 3) := by decide +kernel
theorem dX12_charge_125 : decode cX12_charge 125 = .ok (.iconst 1, 1) := by decide +kernel
theorem dX12_charge_126 : decode cX12_charge 126 = .ok (.goto 4, 3) := by decide +kernel
theorem dX12_charge_129 : decode cX12_charge 129 = .ok (.iconst 0, 1) := by decide +kernel
theorem dX12_charge_130 : decode cX12_charge 130 = .ok (.iconst 3, 1) := by decide +kernel
theorem dX12_charge_131 : decode cX12_charge 131 = .ok (.invokevirtual 20, 3) := by decide +kernel
theorem dX12_charge_134 : decode cX12_charge 134 = .ok (.ifCond .eq 5, 3) := by decide +kernel
theorem dX12_charge_137 : decode cX12_charge 137 = .ok (.iconst 0, 1) := by decide +kernel
theorem dX12_charge_138 : decode cX12_charge 138 = .ok (.ireturn, 1) := by decide +kernel
theorem dX12_charge_139 : decode cX12_charge 139 = .ok (.aload_n 0, 1) := by decide +kernel
theorem dX12_charge_140 : decode cX12_charge 140 = .ok (.getfield 10, 3) := by decide +kernel
theorem dX12_charge_143 : decode cX12_charge 143 = .ok (.getfield 95, 3) := by decide +kernel
theorem dX12_charge_146 : decode cX12_charge 146 = .ok (.new 98, 3) := by decide +kernel
theorem dX12_charge_149 : decode cX12_charge 149 = .ok (.dup, 1) := by decide +kernel
theorem dX12_charge_150 : decode cX12_charge 150 = .ok (.iload_n 1, 1) := by decide +kernel
theorem dX12_charge_151 : decode cX12_charge 151 = .ok (.iload_n 2, 1) := by decide +kernel
theorem dX12_charge_152 : decode cX12_charge 152 = .ok (.iload_n 3, 1) := by decide +kernel
theorem dX12_charge_153 : decode cX12_charge 153 = .ok (.iload 4, 2) := by decide +kernel
theorem dX12_charge_155 : decode cX12_charge 155 = .ok (.iload 5, 2) := by decide +kernel
theorem dX12_charge_157 : decode cX12_charge 157 = .ok (.aload_n 0, 1) := by decide +kernel
theorem dX12_charge_158 : decode cX12_charge 158 = .ok (.getfield 10, 3) := by decide +kernel
theorem dX12_charge_161 : decode cX12_charge 161 = .ok (.getfield 170, 3) := by decide +kernel
theorem dX12_charge_164 : decode cX12_charge 164 = .ok (.aload_n 0, 1) := by decide +kernel
theorem dX12_charge_165 : decode cX12_charge 165 = .ok (.getfield 10, 3) := by decide +kernel
theorem dX12_charge_168 : decode cX12_charge 168 = .ok (.iload_n 1, 1) := by decide +kernel
theorem dX12_charge_169 : decode cX12_charge 169 = .ok (.iload_n 3, 1) := by decide +kernel
theorem dX12_charge_170 : decode cX12_charge 170 = .ok (.invokevirtual 173, 3) := by decide +kernel
theorem dX12_charge_173 : decode cX12_charge 173 = .ok (.invokespecial 176, 3) := by decide +kernel
theorem dX12_charge_176 : decode cX12_charge 176 = .ok (.invokevirtual 58, 3) := by decide +kernel
theorem dX12_charge_179 : decode cX12_charge 179 = .ok (.pop, 1) := by decide +kernel
theorem dX12_charge_180 : decode cX12_charge 180 = .ok (.aload_n 0, 1) := by decide +kernel
theorem dX12_charge_181 : decode cX12_charge 181 = .ok (.getfield 10, 3) := by decide +kernel
theorem dX12_charge_184 : decode cX12_charge 184 = .ok (.invokevirtual 179, 3) := by decide +kernel
theorem dX12_charge_187 : decode cX12_charge 187 = .ok (.aload_n 0, 1) := by decide +kernel
theorem dX12_charge_188 : decode cX12_charge 188 = .ok (.getfield 10, 3) := by decide +kernel
theorem dX12_charge_191 : decode cX12_charge 191 = .ok (.invokevirtual 81, 3) := by decide +kernel
theorem dX12_charge_194 : decode cX12_charge 194 = .ok (.aload_n 0, 1) := by decide +kernel
theorem dX12_charge_195 : decode cX12_charge 195 = .ok (.getfield 10, 3) := by decide +kernel
theorem dX12_charge_198 : decode cX12_charge 198 = .ok (.getfield 95, 3) := by decide +kernel
theorem dX12_charge_201 : decode cX12_charge 201 = .ok (.invokevirtual 28, 3) := by decide +kernel
theorem dX12_charge_204 : decode cX12_charge 204 = .ok (.iconst 1, 1) := by decide +kernel
theorem dX12_charge_205 : decode cX12_charge 205 = .ok (.isub, 1) := by decide +kernel
theorem dX12_charge_206 : decode cX12_charge 206 = .ok (.ireturn, 1) := by decide +kernel
theorem dX12_isNoReceipt_0 : decode cX12_isNoReceipt 0 = .ok (.aload_n 0, 1) := by decide +kernel
theorem dX12_isNoReceipt_1 : decode cX12_isNoReceipt 1 = .ok (.iload_n 1, 1) := by decide +kernel
theorem dX12_isNoReceipt_2 : decode cX12_isNoReceipt 2 = .ok (.iconst 1, 1) := by decide +kernel
theorem dX12_isNoReceipt_3 : decode cX12_isNoReceipt 3 = .ok (.sipush 9999, 3) := by decide +kernel
theorem dX12_isNoReceipt_6 : decode cX12_isNoReceipt 6 = .ok (.invokestatic 34, 3) := by decide +kernel
theorem dX12_isNoReceipt_9 : decode cX12_isNoReceipt 9 = .ok (.ifCond .eq 17, 3) := by decide +kernel
theorem dX12_isNoReceipt_12 : decode cX12_isNoReceipt 12 = .ok (.iload_n 2, 1) := by decide +kernel
theorem dX12_isNoReceipt_13 : decode cX12_isNoReceipt 13 = .ok (.invokestatic 69, 3) := by decide +kernel
theorem dX12_isNoReceipt_16 : decode cX12_isNoReceipt 16 = .ok (.ifCond .ne 10, 3) := by decide +kernel
theorem dX12_isNoReceipt_19 : decode cX12_isNoReceipt 19 = .ok (.iload_n 3, 1) := by decide +kernel
theorem dX12_isNoReceipt_20 : decode cX12_isNoReceipt 20 = .ok (.invokestatic 167, 3) := by decide +kernel
theorem dX12_isNoReceipt_23 : decode cX12_isNoReceipt 23 = .ok (.ifCond .eq 7, 3) := by decide +kernel
theorem dX12_isNoReceipt_26 : decode cX12_isNoReceipt 26 = .ok (.iconst 1, 1) := by decide +kernel
theorem dX12_isNoReceipt_27 : decode cX12_isNoReceipt 27 = .ok (.goto 4, 3) := by decide +kernel
theorem dX12_isNoReceipt_30 : decode cX12_isNoReceipt 30 = .ok (.iconst 0, 1) := by decide +kernel
theorem dX12_isNoReceipt_31 : decode cX12_isNoReceipt 31 = .ok (.iconst 1, 1) := by decide +kernel
theorem dX12_isNoReceipt_32 : decode cX12_isNoReceipt 32 = .ok (.invokevirtual 48, 3) := by decide +kernel
theorem dX12_isNoReceipt_35 : decode cX12_isNoReceipt 35 = .ok (.ireturn, 1) := by decide +kernel
theorem dX12_receipt_0 : decode cX12_receipt 0 = .ok (.aload_n 0, 1) := by decide +kernel
theorem dX12_receipt_1 : decode cX12_receipt 1 = .ok (.iload_n 1, 1) := by decide +kernel
theorem dX12_receipt_2 : decode cX12_receipt 2 = .ok (.iload_n 2, 1) := by decide +kernel
theorem dX12_receipt_3 : decode cX12_receipt 3 = .ok (.iload_n 3, 1) := by decide +kernel
theorem dX12_receipt_4 : decode cX12_receipt 4 = .ok (.invokevirtual 182, 3) := by decide +kernel
theorem dX12_receipt_7 : decode cX12_receipt 7 = .ok (.ifCond .ne 31, 3) := by decide +kernel
theorem dX12_receipt_10 : decode cX12_receipt 10 = .ok (.aload_n 0, 1) := by decide +kernel
theorem dX12_receipt_11 : decode cX12_receipt 11 = .ok (.aload_n 0, 1) := by decide +kernel
theorem dX12_receipt_12 : decode cX12_receipt 12 = .ok (.getfield 10, 3) := by decide +kernel
theorem dX12_receipt_15 : decode cX12_receipt 15 = .ok (.getfield 185, 3) := by decide +kernel
theorem dX12_receipt_18 : decode cX12_receipt 18 = .ok (.invokevirtual 28, 3) := by decide +kernel
theorem dX12_receipt_21 : decode cX12_receipt 21 = .ok (.bipush 30, 2) := by decide +kernel
theorem dX12_receipt_23 : decode cX12_receipt 23 = .ok (.if_icmp .ne 7, 3) := by decide +kernel
theorem dX12_receipt_26 : decode cX12_receipt 26 = .ok (.iconst 1, 1) := by decide +kernel
theorem dX12_receipt_27 : decode cX12_receipt 27 = .ok (.goto 4, 3) := by decide +kernel
theorem dX12_receipt_30 : decode cX12_receipt 30 = .ok (.iconst 0, 1) := by decide +kernel
theorem dX12_receipt_31 : decode cX12_receipt 31 = .ok (.iconst 2, 1) := by decide +kernel
theorem dX12_receipt_32 : decode cX12_receipt 32 = .ok (.invokevirtual 20, 3) := by decide +kernel
theorem dX12_receipt_35 : decode cX12_receipt 35 = .ok (.ifCond .eq 5, 3) := by decide +kernel
theorem dX12_receipt_38 : decode cX12_receipt 38 = .ok (.iconst 0, 1) := by decide +kernel
theorem dX12_receipt_39 : decode cX12_receipt 39 = .ok (.ireturn, 1) := by decide +kernel
theorem dX12_receipt_40 : decode cX12_receipt 40 = .ok (.new 188, 3) := by decide +kernel
theorem dX12_receipt_43 : decode cX12_receipt 43 = .ok (.dup, 1) := by decide +kernel
theorem dX12_receipt_44 : decode cX12_receipt 44 = .ok (.iload_n 1, 1) := by decide +kernel
theorem dX12_receipt_45 : decode cX12_receipt 45 = .ok (.iload_n 2, 1) := by decide +kernel
theorem dX12_receipt_46 : decode cX12_receipt 46 = .ok (.iload_n 3, 1) := by decide +kernel
theorem dX12_receipt_47 : decode cX12_receipt 47 = .ok (.invokespecial 190, 3) := by decide +kernel
theorem dX12_receipt_50 : decode cX12_receipt 50 = .ok (.astore 4, 2) := by decide +kernel
theorem dX12_receipt_52 : decode cX12_receipt 52 = .ok (.aload_n 0, 1) := by decide +kernel
theorem dX12_receipt_53 : decode cX12_receipt 53 = .ok (.getfield 10, 3) := by decide +kernel
theorem dX12_receipt_56 : decode cX12_receipt 56 = .ok (.getfield 185, 3) := by decide +kernel
theorem dX12_receipt_59 : decode cX12_receipt 59 = .ok (.aload 4, 2) := by decide +kernel
theorem dX12_receipt_61 : decode cX12_receipt 61 = .ok (.invokevirtual 58, 3) := by decide +kernel
theorem dX12_receipt_64 : decode cX12_receipt 64 = .ok (.pop, 1) := by decide +kernel
theorem dX12_receipt_65 : decode cX12_receipt 65 = .ok (.aload_n 0, 1) := by decide +kernel
theorem dX12_receipt_66 : decode cX12_receipt 66 = .ok (.getfield 10, 3) := by decide +kernel
theorem dX12_receipt_69 : decode cX12_receipt 69 = .ok (.invokevirtual 179, 3) := by decide +kernel
theorem dX12_receipt_72 : decode cX12_receipt 72 = .ok (.aload_n 0, 1) := by decide +kernel
theorem dX12_receipt_73 : decode cX12_receipt 73 = .ok (.getfield 10, 3) := by decide +kernel
theorem dX12_receipt_76 : decode cX12_receipt 76 = .ok (.invokevirtual 81, 3) := by decide +kernel
theorem dX12_receipt_79 : decode cX12_receipt 79 = .ok (.aload 4, 2) := by decide +kernel
theorem dX12_receipt_81 : decode cX12_receipt 81 = .ok (.getfield 193, 3) := by decide +kernel
theorem dX12_receipt_84 : decode cX12_receipt 84 = .ok (.ireturn, 1) := by decide +kernel
theorem dX12_isNoCharge_0 : decode cX12_isNoCharge 0 = .ok (.aload_n 0, 1) := by decide +kernel
theorem dX12_isNoCharge_1 : decode cX12_isNoCharge 1 = .ok (.iload_n 1, 1) := by decide +kernel
theorem dX12_isNoCharge_2 : decode cX12_isNoCharge 2 = .ok (.iconst 0, 1) := by decide +kernel
theorem dX12_isNoCharge_3 : decode cX12_isNoCharge 3 = .ok (.aload_n 0, 1) := by decide +kernel
theorem dX12_isNoCharge_4 : decode cX12_isNoCharge 4 = .ok (.getfield 10, 3) := by decide +kernel
theorem dX12_isNoCharge_7 : decode cX12_isNoCharge 7 = .ok (.getfield 95, 3) := by decide +kernel
theorem dX12_isNoCharge_10 : decode cX12_isNoCharge 10 = .ok (.invokevirtual 28, 3) := by decide +kernel
theorem dX12_isNoCharge_13 : decode cX12_isNoCharge 13 = .ok (.iconst 1, 1) := by decide +kernel
theorem dX12_isNoCharge_14 : decode cX12_isNoCharge 14 = .ok (.isub, 1) := by decide +kernel
theorem dX12_isNoCharge_15 : decode cX12_isNoCharge 15 = .ok (.invokestatic 34, 3) := by decide +kernel
theorem dX12_isNoCharge_18 : decode cX12_isNoCharge 18 = .ok (.ifCond .ne 7, 3) := by decide +kernel
theorem dX12_isNoCharge_21 : decode cX12_isNoCharge 21 = .ok (.iconst 1, 1) := by decide +kernel
theorem dX12_isNoCharge_22 : decode cX12_isNoCharge 22 = .ok (.goto 4, 3) := by decide +kernel
theorem dX12_isNoCharge_25 : decode cX12_isNoCharge 25 = .ok (.iconst 0, 1) := by decide +kernel
theorem dX12_isNoCharge_26 : decode cX12_isNoCharge 26 = .ok (.iconst 1, 1) := by decide +kernel
theorem dX12_isNoCharge_27 : decode cX12_isNoCharge 27 = .ok (.invokevirtual 48, 3) := by decide +kernel
theorem dX12_isNoCharge_30 : decode cX12_isNoCharge 30 = .ok (.ireturn, 1) := by decide +kernel
theorem dX12_charge__0 : decode cX12_charge_ 0 = .ok (.aload_n 0, 1) := by decide +kernel
theorem dX12_charge__1 : decode cX12_charge_ 1 = .ok (.getfield 10, 3) := by decide +kernel
theorem dX12_charge__4 : decode cX12_charge_ 4 = .ok (.getfield 95, 3) := by decide +kernel
theorem dX12_charge__7 : decode cX12_charge_ 7 = .ok (.iload_n 1, 1) := by decide +kernel
theorem dX12_charge__8 : decode cX12_charge_ 8 = .ok (.invokevirtual 38, 3) := by decide +kernel
theorem dX12_charge__11 : decode cX12_charge_ 11 = .ok (.checkcast 98, 3) := by decide +kernel
theorem dX12_charge__14 : decode cX12_charge_ 14 = .ok (.areturn, 1) := by decide +kernel
theorem dX12_split_0 : decode cX12_split 0 = .ok (.aload_n 0, 1) := by decide +kernel
theorem dX12_split_1 : decode cX12_split 1 = .ok (.iload_n 1, 1) := by decide +kernel
theorem dX12_split_2 : decode cX12_split 2 = .ok (.invokevirtual 195, 3) := by decide +kernel
theorem dX12_split_5 : decode cX12_split 5 = .ok (.ifCond .ne 28, 3) := by decide +kernel
theorem dX12_split_8 : decode cX12_split 8 = .ok (.aload_n 0, 1) := by decide +kernel
theorem dX12_split_9 : decode cX12_split 9 = .ok (.aload_n 0, 1) := by decide +kernel
theorem dX12_split_10 : decode cX12_split 10 = .ok (.iload_n 1, 1) := by decide +kernel
theorem dX12_split_11 : decode cX12_split 11 = .ok (.invokevirtual 198, 3) := by decide +kernel
theorem dX12_split_14 : decode cX12_split 14 = .ok (.getfield 103, 3) := by decide +kernel
theorem dX12_split_17 : decode cX12_split 17 = .ok (.iconst 1, 1) := by decide +kernel
theorem dX12_split_18 : decode cX12_split 18 = .ok (.if_icmp .eq 7, 3) := by decide +kernel
theorem dX12_split_21 : decode cX12_split 21 = .ok (.iconst 1, 1) := by decide +kernel
theorem dX12_split_22 : decode cX12_split 22 = .ok (.goto 4, 3) := by decide +kernel
theorem dX12_split_25 : decode cX12_split 25 = .ok (.iconst 0, 1) := by decide +kernel
theorem dX12_split_26 : decode cX12_split 26 = .ok (.iconst 2, 1) := by decide +kernel
theorem dX12_split_27 : decode cX12_split 27 = .ok (.invokevirtual 20, 3) := by decide +kernel
theorem dX12_split_30 : decode cX12_split 30 = .ok (.ifCond .eq 5, 3) := by decide +kernel
theorem dX12_split_33 : decode cX12_split 33 = .ok (.iconst 0, 1) := by decide +kernel
theorem dX12_split_34 : decode cX12_split 34 = .ok (.ireturn, 1) := by decide +kernel
theorem dX12_split_35 : decode cX12_split 35 = .ok (.aload_n 0, 1) := by decide +kernel
theorem dX12_split_36 : decode cX12_split 36 = .ok (.iload_n 1, 1) := by decide +kernel
theorem dX12_split_37 : decode cX12_split 37 = .ok (.invokevirtual 198, 3) := by decide +kernel
theorem dX12_split_40 : decode cX12_split 40 = .ok (.astore_n 2, 1) := by decide +kernel
theorem dX12_split_41 : decode cX12_split 41 = .ok (.aload_n 2, 1) := by decide +kernel
theorem dX12_split_42 : decode cX12_split 42 = .ok (.getfield 202, 3) := by decide +kernel
theorem dX12_split_45 : decode cX12_split 45 = .ok (.aload_n 2, 1) := by decide +kernel
theorem dX12_split_46 : decode cX12_split 46 = .ok (.getfield 206, 3) := by decide +kernel
theorem dX12_split_49 : decode cX12_split 49 = .ok (.iconst 1, 1) := by decide +kernel
theorem dX12_split_50 : decode cX12_split 50 = .ok (.bastore, 1) := by decide +kernel
theorem dX12_split_51 : decode cX12_split 51 = .ok (.aload_n 0, 1) := by decide +kernel
theorem dX12_split_52 : decode cX12_split 52 = .ok (.getfield 10, 3) := by decide +kernel
theorem dX12_split_55 : decode cX12_split 55 = .ok (.getfield 185, 3) := by decide +kernel
theorem dX12_split_58 : decode cX12_split 58 = .ok (.aload_n 2, 1) := by decide +kernel
theorem dX12_split_59 : decode cX12_split 59 = .ok (.getfield 206, 3) := by decide +kernel
theorem dX12_split_62 : decode cX12_split 62 = .ok (.invokevirtual 38, 3) := by decide +kernel
theorem dX12_split_65 : decode cX12_split 65 = .ok (.checkcast 188, 3) := by decide +kernel
theorem dX12_split_68 : decode cX12_split 68 = .ok (.iconst (-1), 1) := by decide +kernel
theorem dX12_split_69 : decode cX12_split 69 = .ok (.putfield 193, 3) := by decide +kernel
theorem dX12_split_72 : decode cX12_split 72 = .ok (.aload_n 2, 1) := by decide +kernel
theorem dX12_split_73 : decode cX12_split 73 = .ok (.iconst (-1), 1) := by decide +kernel
theorem dX12_split_74 : decode cX12_split 74 = .ok (.putfield 206, 3) := by decide +kernel
theorem dX12_split_77 : decode cX12_split 77 = .ok (.aload_n 2, 1) := by decide +kernel
theorem dX12_split_78 : decode cX12_split 78 = .ok (.iconst 0, 1) := by decide +kernel
theorem dX12_split_79 : decode cX12_split 79 = .ok (.putfield 209, 3) := by decide +kernel
theorem dX12_split_82 : decode cX12_split 82 = .ok (.aload_n 2, 1) := by decide +kernel
theorem dX12_split_83 : decode cX12_split 83 = .ok (.iconst 0, 1) := by decide +kernel
theorem dX12_split_84 : decode cX12_split 84 = .ok (.putfield 103, 3) := by decide +kernel
theorem dX12_split_87 : decode cX12_split 87 = .ok (.aload_n 0, 1) := by decide +kernel
theorem dX12_split_88 : decode cX12_split 88 = .ok (.getfield 10, 3) := by decide +kernel
theorem dX12_split_91 : decode cX12_split 91 = .ok (.invokevirtual 179, 3) := by decide +kernel
theorem dX12_split_94 : decode cX12_split 94 = .ok (.aload_n 0, 1) := by decide +kernel
theorem dX12_split_95 : decode cX12_split 95 = .ok (.getfield 10, 3) := by decide +kernel
theorem dX12_split_98 : decode cX12_split 98 = .ok (.invokevirtual 81, 3) := by decide +kernel
theorem dX12_split_101 : decode cX12_split 101 = .ok (.aload_n 2, 1) := by decide +kernel
theorem dX12_split_102 : decode cX12_split 102 = .ok (.getfield 103, 3) := by decide +kernel
theorem dX12_split_105 : decode cX12_split 105 = .ok (.ireturn, 1) := by decide +kernel
theorem dX12_isNotDue_0 : decode cX12_isNotDue 0 = .ok (.aload_n 0, 1) := by decide +kernel
theorem dX12_isNotDue_1 : decode cX12_isNotDue 1 = .ok (.iload_n 1, 1) := by decide +kernel
theorem dX12_isNotDue_2 : decode cX12_isNotDue 2 = .ok (.iconst 0, 1) := by decide +kernel
theorem dX12_isNotDue_3 : decode cX12_isNotDue 3 = .ok (.aload_n 0, 1) := by decide +kernel
theorem dX12_isNotDue_4 : decode cX12_isNotDue 4 = .ok (.getfield 10, 3) := by decide +kernel
theorem dX12_isNotDue_7 : decode cX12_isNotDue 7 = .ok (.getfield 95, 3) := by decide +kernel
theorem dX12_isNotDue_10 : decode cX12_isNotDue 10 = .ok (.invokevirtual 28, 3) := by decide +kernel
theorem dX12_isNotDue_13 : decode cX12_isNotDue 13 = .ok (.iconst 1, 1) := by decide +kernel
theorem dX12_isNotDue_14 : decode cX12_isNotDue 14 = .ok (.isub, 1) := by decide +kernel
theorem dX12_isNotDue_15 : decode cX12_isNotDue 15 = .ok (.invokestatic 34, 3) := by decide +kernel
theorem dX12_isNotDue_18 : decode cX12_isNotDue 18 = .ok (.ifCond .eq 11, 3) := by decide +kernel
theorem dX12_isNotDue_21 : decode cX12_isNotDue 21 = .ok (.aload_n 0, 1) := by decide +kernel
theorem dX12_isNotDue_22 : decode cX12_isNotDue 22 = .ok (.iload_n 2, 1) := by decide +kernel
theorem dX12_isNotDue_23 : decode cX12_isNotDue 23 = .ok (.invokevirtual 44, 3) := by decide +kernel
theorem dX12_isNotDue_26 : decode cX12_isNotDue 26 = .ok (.ifCond .eq 7, 3) := by decide +kernel
theorem dX12_isNotDue_29 : decode cX12_isNotDue 29 = .ok (.iconst 1, 1) := by decide +kernel
theorem dX12_isNotDue_30 : decode cX12_isNotDue 30 = .ok (.goto 4, 3) := by decide +kernel
theorem dX12_isNotDue_33 : decode cX12_isNotDue 33 = .ok (.iconst 0, 1) := by decide +kernel
theorem dX12_isNotDue_34 : decode cX12_isNotDue 34 = .ok (.iconst 1, 1) := by decide +kernel
theorem dX12_isNotDue_35 : decode cX12_isNotDue 35 = .ok (.invokevirtual 48, 3) := by decide +kernel
theorem dX12_isNotDue_38 : decode cX12_isNotDue 38 = .ok (.ifCond .ne 32, 3) := by decide +kernel
theorem dX12_isNotDue_41 : decode cX12_isNotDue 41 = .ok (.aload_n 0, 1) := by decide +kernel
theorem dX12_isNotDue_42 : decode cX12_isNotDue 42 = .ok (.aload_n 0, 1) := by decide +kernel
theorem dX12_isNotDue_43 : decode cX12_isNotDue 43 = .ok (.getfield 10, 3) := by decide +kernel
theorem dX12_isNotDue_46 : decode cX12_isNotDue 46 = .ok (.aload_n 0, 1) := by decide +kernel
theorem dX12_isNotDue_47 : decode cX12_isNotDue 47 = .ok (.iload_n 1, 1) := by decide +kernel
theorem dX12_isNotDue_48 : decode cX12_isNotDue 48 = .ok (.invokevirtual 198, 3) := by decide +kernel
theorem dX12_isNotDue_51 : decode cX12_isNotDue 51 = .ok (.invokevirtual 113, 3) := by decide +kernel
theorem dX12_isNotDue_54 : decode cX12_isNotDue 54 = .ok (.iload_n 2, 1) := by decide +kernel
theorem dX12_isNotDue_55 : decode cX12_isNotDue 55 = .ok (.if_icmp .eq 7, 3) := by decide +kernel
theorem dX12_isNotDue_58 : decode cX12_isNotDue 58 = .ok (.iconst 1, 1) := by decide +kernel
theorem dX12_isNotDue_59 : decode cX12_isNotDue 59 = .ok (.goto 4, 3) := by decide +kernel
theorem dX12_isNotDue_62 : decode cX12_isNotDue 62 = .ok (.iconst 0, 1) := by decide +kernel
theorem dX12_isNotDue_63 : decode cX12_isNotDue 63 = .ok (.iconst 2, 1) := by decide +kernel
theorem dX12_isNotDue_64 : decode cX12_isNotDue 64 = .ok (.invokevirtual 20, 3) := by decide +kernel
theorem dX12_isNotDue_67 : decode cX12_isNotDue 67 = .ok (.ifCond .eq 7, 3) := by decide +kernel
theorem dX12_isNotDue_70 : decode cX12_isNotDue 70 = .ok (.iconst 1, 1) := by decide +kernel
theorem dX12_isNotDue_71 : decode cX12_isNotDue 71 = .ok (.goto 4, 3) := by decide +kernel
theorem dX12_isNotDue_74 : decode cX12_isNotDue 74 = .ok (.iconst 0, 1) := by decide +kernel
theorem dX12_isNotDue_75 : decode cX12_isNotDue 75 = .ok (.ireturn, 1) := by decide +kernel
theorem dX12_approve_0 : decode cX12_approve 0 = .ok (.aload_n 0, 1) := by decide +kernel
theorem dX12_approve_1 : decode cX12_approve 1 = .ok (.iload_n 1, 1) := by decide +kernel
theorem dX12_approve_2 : decode cX12_approve 2 = .ok (.iload_n 2, 1) := by decide +kernel
theorem dX12_approve_3 : decode cX12_approve 3 = .ok (.invokevirtual 212, 3) := by decide +kernel
theorem dX12_approve_6 : decode cX12_approve 6 = .ok (.ifCond .eq 5, 3) := by decide +kernel
theorem dX12_approve_9 : decode cX12_approve 9 = .ok (.iconst 0, 1) := by decide +kernel
theorem dX12_approve_10 : decode cX12_approve 10 = .ok (.ireturn, 1) := by decide +kernel
theorem dX12_approve_11 : decode cX12_approve 11 = .ok (.aload_n 0, 1) := by decide +kernel
theorem dX12_approve_12 : decode cX12_approve 12 = .ok (.iload_n 1, 1) := by decide +kernel
theorem dX12_approve_13 : decode cX12_approve 13 = .ok (.invokevirtual 198, 3) := by decide +kernel
theorem dX12_approve_16 : decode cX12_approve 16 = .ok (.dup, 1) := by decide +kernel
theorem dX12_approve_17 : decode cX12_approve 17 = .ok (.getfield 209, 3) := by decide +kernel
theorem dX12_approve_20 : decode cX12_approve 20 = .ok (.iconst 1, 1) := by decide +kernel
theorem dX12_approve_21 : decode cX12_approve 21 = .ok (.iadd, 1) := by decide +kernel
theorem dX12_approve_22 : decode cX12_approve 22 = .ok (.putfield 209, 3) := by decide +kernel
theorem dX12_approve_25 : decode cX12_approve 25 = .ok (.aload_n 0, 1) := by decide +kernel
theorem dX12_approve_26 : decode cX12_approve 26 = .ok (.getfield 10, 3) := by decide +kernel
theorem dX12_approve_29 : decode cX12_approve 29 = .ok (.invokevirtual 81, 3) := by decide +kernel
theorem dX12_approve_32 : decode cX12_approve 32 = .ok (.aload_n 0, 1) := by decide +kernel
theorem dX12_approve_33 : decode cX12_approve 33 = .ok (.iload_n 1, 1) := by decide +kernel
theorem dX12_approve_34 : decode cX12_approve 34 = .ok (.invokevirtual 198, 3) := by decide +kernel
theorem dX12_approve_37 : decode cX12_approve 37 = .ok (.getfield 103, 3) := by decide +kernel
theorem dX12_approve_40 : decode cX12_approve 40 = .ok (.ireturn, 1) := by decide +kernel
theorem dX12_refuse__0 : decode cX12_refuse_ 0 = .ok (.aload_n 0, 1) := by decide +kernel
theorem dX12_refuse__1 : decode cX12_refuse_ 1 = .ok (.iload_n 1, 1) := by decide +kernel
theorem dX12_refuse__2 : decode cX12_refuse_ 2 = .ok (.iload_n 2, 1) := by decide +kernel
theorem dX12_refuse__3 : decode cX12_refuse_ 3 = .ok (.invokevirtual 212, 3) := by decide +kernel
theorem dX12_refuse__6 : decode cX12_refuse_ 6 = .ok (.ifCond .eq 5, 3) := by decide +kernel
theorem dX12_refuse__9 : decode cX12_refuse_ 9 = .ok (.iconst 0, 1) := by decide +kernel
theorem dX12_refuse__10 : decode cX12_refuse_ 10 = .ok (.ireturn, 1) := by decide +kernel
theorem dX12_refuse__11 : decode cX12_refuse_ 11 = .ok (.aload_n 0, 1) := by decide +kernel
theorem dX12_refuse__12 : decode cX12_refuse_ 12 = .ok (.iload_n 1, 1) := by decide +kernel
theorem dX12_refuse__13 : decode cX12_refuse_ 13 = .ok (.invokevirtual 198, 3) := by decide +kernel
theorem dX12_refuse__16 : decode cX12_refuse_ 16 = .ok (.iconst 4, 1) := by decide +kernel
theorem dX12_refuse__17 : decode cX12_refuse_ 17 = .ok (.putfield 103, 3) := by decide +kernel
theorem dX12_refuse__20 : decode cX12_refuse_ 20 = .ok (.aload_n 0, 1) := by decide +kernel
theorem dX12_refuse__21 : decode cX12_refuse_ 21 = .ok (.getfield 10, 3) := by decide +kernel
theorem dX12_refuse__24 : decode cX12_refuse_ 24 = .ok (.iconst 4, 1) := by decide +kernel
theorem dX12_refuse__25 : decode cX12_refuse_ 25 = .ok (.invokevirtual 215, 3) := by decide +kernel
theorem dX12_refuse__28 : decode cX12_refuse_ 28 = .ok (.ireturn, 1) := by decide +kernel
theorem dX12_settle_0 : decode cX12_settle 0 = .ok (.aload_n 0, 1) := by decide +kernel
theorem dX12_settle_1 : decode cX12_settle 1 = .ok (.iload_n 1, 1) := by decide +kernel
theorem dX12_settle_2 : decode cX12_settle 2 = .ok (.invokevirtual 195, 3) := by decide +kernel
theorem dX12_settle_5 : decode cX12_settle 5 = .ok (.ifCond .ne 28, 3) := by decide +kernel
theorem dX12_settle_8 : decode cX12_settle 8 = .ok (.aload_n 0, 1) := by decide +kernel
theorem dX12_settle_9 : decode cX12_settle 9 = .ok (.aload_n 0, 1) := by decide +kernel
theorem dX12_settle_10 : decode cX12_settle 10 = .ok (.iload_n 1, 1) := by decide +kernel
theorem dX12_settle_11 : decode cX12_settle 11 = .ok (.invokevirtual 198, 3) := by decide +kernel
theorem dX12_settle_14 : decode cX12_settle 14 = .ok (.getfield 103, 3) := by decide +kernel
theorem dX12_settle_17 : decode cX12_settle 17 = .ok (.iconst 4, 1) := by decide +kernel
theorem dX12_settle_18 : decode cX12_settle 18 = .ok (.if_icmp .eq 7, 3) := by decide +kernel
theorem dX12_settle_21 : decode cX12_settle 21 = .ok (.iconst 1, 1) := by decide +kernel
theorem dX12_settle_22 : decode cX12_settle 22 = .ok (.goto 4, 3) := by decide +kernel
theorem dX12_settle_25 : decode cX12_settle 25 = .ok (.iconst 0, 1) := by decide +kernel
theorem dX12_settle_26 : decode cX12_settle 26 = .ok (.iconst 2, 1) := by decide +kernel
theorem dX12_settle_27 : decode cX12_settle 27 = .ok (.invokevirtual 20, 3) := by decide +kernel
theorem dX12_settle_30 : decode cX12_settle 30 = .ok (.ifCond .eq 5, 3) := by decide +kernel
theorem dX12_settle_33 : decode cX12_settle 33 = .ok (.iconst 0, 1) := by decide +kernel
theorem dX12_settle_34 : decode cX12_settle 34 = .ok (.ireturn, 1) := by decide +kernel
theorem dX12_settle_35 : decode cX12_settle 35 = .ok (.aload_n 0, 1) := by decide +kernel
theorem dX12_settle_36 : decode cX12_settle 36 = .ok (.iload_n 1, 1) := by decide +kernel
theorem dX12_settle_37 : decode cX12_settle 37 = .ok (.invokevirtual 198, 3) := by decide +kernel
theorem dX12_settle_40 : decode cX12_settle 40 = .ok (.iload_n 2, 1) := by decide +kernel
theorem dX12_settle_41 : decode cX12_settle 41 = .ok (.ifCond .eq 7, 3) := by decide +kernel
theorem dX12_settle_44 : decode cX12_settle 44 = .ok (.iconst 3, 1) := by decide +kernel
theorem dX12_settle_45 : decode cX12_settle 45 = .ok (.goto 4, 3) := by decide +kernel
theorem dX12_settle_48 : decode cX12_settle 48 = .ok (.iconst 1, 1) := by decide +kernel
theorem dX12_settle_49 : decode cX12_settle 49 = .ok (.putfield 103, 3) := by decide +kernel
theorem dX12_settle_52 : decode cX12_settle 52 = .ok (.iload_n 2, 1) := by decide +kernel
theorem dX12_settle_53 : decode cX12_settle 53 = .ok (.ifCond .ne 12, 3) := by decide +kernel
theorem dX12_settle_56 : decode cX12_settle 56 = .ok (.aload_n 0, 1) := by decide +kernel
theorem dX12_settle_57 : decode cX12_settle 57 = .ok (.iload_n 1, 1) := by decide +kernel
theorem dX12_settle_58 : decode cX12_settle 58 = .ok (.invokevirtual 198, 3) := by decide +kernel
theorem dX12_settle_61 : decode cX12_settle 61 = .ok (.iconst 0, 1) := by decide +kernel
theorem dX12_settle_62 : decode cX12_settle 62 = .ok (.putfield 209, 3) := by decide +kernel
theorem dX12_settle_65 : decode cX12_settle 65 = .ok (.aload_n 0, 1) := by decide +kernel
theorem dX12_settle_66 : decode cX12_settle 66 = .ok (.getfield 10, 3) := by decide +kernel
theorem dX12_settle_69 : decode cX12_settle 69 = .ok (.invokevirtual 81, 3) := by decide +kernel
theorem dX12_settle_72 : decode cX12_settle 72 = .ok (.aload_n 0, 1) := by decide +kernel
theorem dX12_settle_73 : decode cX12_settle 73 = .ok (.iload_n 1, 1) := by decide +kernel
theorem dX12_settle_74 : decode cX12_settle 74 = .ok (.invokevirtual 198, 3) := by decide +kernel
theorem dX12_settle_77 : decode cX12_settle 77 = .ok (.getfield 103, 3) := by decide +kernel
theorem dX12_settle_80 : decode cX12_settle 80 = .ok (.ireturn, 1) := by decide +kernel
theorem dX12_ofChargeNow_0 : decode cX12_ofChargeNow 0 = .ok (.bipush 12, 2) := by decide +kernel
theorem dX12_ofChargeNow_2 : decode cX12_ofChargeNow 2 = .ok (.newarray .int, 2) := by decide +kernel
theorem dX12_ofChargeNow_4 : decode cX12_ofChargeNow 4 = .ok (.dup, 1) := by decide +kernel
theorem dX12_ofChargeNow_5 : decode cX12_ofChargeNow 5 = .ok (.iconst 0, 1) := by decide +kernel
theorem dX12_ofChargeNow_6 : decode cX12_ofChargeNow 6 = .ok (.aload_n 1, 1) := by decide +kernel
theorem dX12_ofChargeNow_7 : decode cX12_ofChargeNow 7 = .ok (.getfield 100, 3) := by decide +kernel
theorem dX12_ofChargeNow_10 : decode cX12_ofChargeNow 10 = .ok (.iastore, 1) := by decide +kernel
theorem dX12_ofChargeNow_11 : decode cX12_ofChargeNow 11 = .ok (.dup, 1) := by decide +kernel
theorem dX12_ofChargeNow_12 : decode cX12_ofChargeNow 12 = .ok (.iconst 1, 1) := by decide +kernel
theorem dX12_ofChargeNow_13 : decode cX12_ofChargeNow 13 = .ok (.aload_n 1, 1) := by decide +kernel
theorem dX12_ofChargeNow_14 : decode cX12_ofChargeNow 14 = .ok (.getfield 218, 3) := by decide +kernel
theorem dX12_ofChargeNow_17 : decode cX12_ofChargeNow 17 = .ok (.iastore, 1) := by decide +kernel
theorem dX12_ofChargeNow_18 : decode cX12_ofChargeNow 18 = .ok (.dup, 1) := by decide +kernel
theorem dX12_ofChargeNow_19 : decode cX12_ofChargeNow 19 = .ok (.iconst 2, 1) := by decide +kernel
theorem dX12_ofChargeNow_20 : decode cX12_ofChargeNow 20 = .ok (.aload_n 1, 1) := by decide +kernel
theorem dX12_ofChargeNow_21 : decode cX12_ofChargeNow 21 = .ok (.getfield 110, 3) := by decide +kernel
theorem dX12_ofChargeNow_24 : decode cX12_ofChargeNow 24 = .ok (.iastore, 1) := by decide +kernel
theorem dX12_ofChargeNow_25 : decode cX12_ofChargeNow 25 = .ok (.dup, 1) := by decide +kernel
theorem dX12_ofChargeNow_26 : decode cX12_ofChargeNow 26 = .ok (.iconst 3, 1) := by decide +kernel
theorem dX12_ofChargeNow_27 : decode cX12_ofChargeNow 27 = .ok (.aload_n 1, 1) := by decide +kernel
theorem dX12_ofChargeNow_28 : decode cX12_ofChargeNow 28 = .ok (.getfield 221, 3) := by decide +kernel
theorem dX12_ofChargeNow_31 : decode cX12_ofChargeNow 31 = .ok (.iastore, 1) := by decide +kernel
theorem dX12_ofChargeNow_32 : decode cX12_ofChargeNow 32 = .ok (.dup, 1) := by decide +kernel
theorem dX12_ofChargeNow_33 : decode cX12_ofChargeNow 33 = .ok (.iconst 4, 1) := by decide +kernel
theorem dX12_ofChargeNow_34 : decode cX12_ofChargeNow 34 = .ok (.aload_n 1, 1) := by decide +kernel
theorem dX12_ofChargeNow_35 : decode cX12_ofChargeNow 35 = .ok (.getfield 103, 3) := by decide +kernel
theorem dX12_ofChargeNow_38 : decode cX12_ofChargeNow 38 = .ok (.iastore, 1) := by decide +kernel
theorem dX12_ofChargeNow_39 : decode cX12_ofChargeNow 39 = .ok (.dup, 1) := by decide +kernel
theorem dX12_ofChargeNow_40 : decode cX12_ofChargeNow 40 = .ok (.iconst 5, 1) := by decide +kernel
theorem dX12_ofChargeNow_41 : decode cX12_ofChargeNow 41 = .ok (.aload_n 1, 1) := by decide +kernel
theorem dX12_ofChargeNow_42 : decode cX12_ofChargeNow 42 = .ok (.getfield 206, 3) := by decide +kernel
theorem dX12_ofChargeNow_45 : decode cX12_ofChargeNow 45 = .ok (.iastore, 1) := by decide +kernel
theorem dX12_ofChargeNow_46 : decode cX12_ofChargeNow 46 = .ok (.dup, 1) := by decide +kernel
theorem dX12_ofChargeNow_47 : decode cX12_ofChargeNow 47 = .ok (.bipush 6, 2) := by decide +kernel
theorem dX12_ofChargeNow_49 : decode cX12_ofChargeNow 49 = .ok (.aload_n 1, 1) := by decide +kernel
theorem dX12_ofChargeNow_50 : decode cX12_ofChargeNow 50 = .ok (.getfield 222, 3) := by decide +kernel
theorem dX12_ofChargeNow_53 : decode cX12_ofChargeNow 53 = .ok (.iastore, 1) := by decide +kernel
theorem dX12_ofChargeNow_54 : decode cX12_ofChargeNow 54 = .ok (.dup, 1) := by decide +kernel
theorem dX12_ofChargeNow_55 : decode cX12_ofChargeNow 55 = .ok (.bipush 7, 2) := by decide +kernel
theorem dX12_ofChargeNow_57 : decode cX12_ofChargeNow 57 = .ok (.aload_n 0, 1) := by decide +kernel
theorem dX12_ofChargeNow_58 : decode cX12_ofChargeNow 58 = .ok (.getfield 10, 3) := by decide +kernel
theorem dX12_ofChargeNow_61 : decode cX12_ofChargeNow 61 = .ok (.aload_n 1, 1) := by decide +kernel
theorem dX12_ofChargeNow_62 : decode cX12_ofChargeNow 62 = .ok (.invokevirtual 225, 3) := by decide +kernel
theorem dX12_ofChargeNow_65 : decode cX12_ofChargeNow 65 = .ok (.iastore, 1) := by decide +kernel
theorem dX12_ofChargeNow_66 : decode cX12_ofChargeNow 66 = .ok (.dup, 1) := by decide +kernel
theorem dX12_ofChargeNow_67 : decode cX12_ofChargeNow 67 = .ok (.bipush 8, 2) := by decide +kernel
theorem dX12_ofChargeNow_69 : decode cX12_ofChargeNow 69 = .ok (.aload_n 0, 1) := by decide +kernel
theorem dX12_ofChargeNow_70 : decode cX12_ofChargeNow 70 = .ok (.getfield 10, 3) := by decide +kernel
theorem dX12_ofChargeNow_73 : decode cX12_ofChargeNow 73 = .ok (.aload_n 1, 1) := by decide +kernel
theorem dX12_ofChargeNow_74 : decode cX12_ofChargeNow 74 = .ok (.iconst 0, 1) := by decide +kernel
theorem dX12_ofChargeNow_75 : decode cX12_ofChargeNow 75 = .ok (.invokevirtual 228, 3) := by decide +kernel
theorem dX12_ofChargeNow_78 : decode cX12_ofChargeNow 78 = .ok (.iastore, 1) := by decide +kernel
theorem dX12_ofChargeNow_79 : decode cX12_ofChargeNow 79 = .ok (.dup, 1) := by decide +kernel
theorem dX12_ofChargeNow_80 : decode cX12_ofChargeNow 80 = .ok (.bipush 9, 2) := by decide +kernel
theorem dX12_ofChargeNow_82 : decode cX12_ofChargeNow 82 = .ok (.aload_n 1, 1) := by decide +kernel
theorem dX12_ofChargeNow_83 : decode cX12_ofChargeNow 83 = .ok (.getfield 209, 3) := by decide +kernel
theorem dX12_ofChargeNow_86 : decode cX12_ofChargeNow 86 = .ok (.iastore, 1) := by decide +kernel
theorem dX12_ofChargeNow_87 : decode cX12_ofChargeNow 87 = .ok (.dup, 1) := by decide +kernel
theorem dX12_ofChargeNow_88 : decode cX12_ofChargeNow 88 = .ok (.bipush 10, 2) := by decide +kernel
theorem dX12_ofChargeNow_90 : decode cX12_ofChargeNow 90 = .ok (.aload_n 0, 1) := by decide +kernel
theorem dX12_ofChargeNow_91 : decode cX12_ofChargeNow 91 = .ok (.getfield 10, 3) := by decide +kernel
theorem dX12_ofChargeNow_94 : decode cX12_ofChargeNow 94 = .ok (.aload_n 1, 1) := by decide +kernel
theorem dX12_ofChargeNow_95 : decode cX12_ofChargeNow 95 = .ok (.invokevirtual 113, 3) := by decide +kernel
theorem dX12_ofChargeNow_98 : decode cX12_ofChargeNow 98 = .ok (.iastore, 1) := by decide +kernel
theorem dX12_ofChargeNow_99 : decode cX12_ofChargeNow 99 = .ok (.dup, 1) := by decide +kernel
theorem dX12_ofChargeNow_100 : decode cX12_ofChargeNow 100 = .ok (.bipush 11, 2) := by decide +kernel
theorem dX12_ofChargeNow_102 : decode cX12_ofChargeNow 102 = .ok (.aload_n 1, 1) := by decide +kernel
theorem dX12_ofChargeNow_103 : decode cX12_ofChargeNow 103 = .ok (.getfield 232, 3) := by decide +kernel
theorem dX12_ofChargeNow_106 : decode cX12_ofChargeNow 106 = .ok (.ifCond .eq 7, 3) := by decide +kernel
theorem dX12_ofChargeNow_109 : decode cX12_ofChargeNow 109 = .ok (.iconst 1, 1) := by decide +kernel
theorem dX12_ofChargeNow_110 : decode cX12_ofChargeNow 110 = .ok (.goto 4, 3) := by decide +kernel
theorem dX12_ofChargeNow_113 : decode cX12_ofChargeNow 113 = .ok (.iconst 0, 1) := by decide +kernel
theorem dX12_ofChargeNow_114 : decode cX12_ofChargeNow 114 = .ok (.iastore, 1) := by decide +kernel
theorem dX12_ofChargeNow_115 : decode cX12_ofChargeNow 115 = .ok (.astore_n 3, 1) := by decide +kernel
theorem dX12_ofChargeNow_116 : decode cX12_ofChargeNow 116 = .ok (.aload_n 3, 1) := by decide +kernel
theorem dX12_ofChargeNow_117 : decode cX12_ofChargeNow 117 = .ok (.iload_n 2, 1) := by decide +kernel
theorem dX12_ofChargeNow_118 : decode cX12_ofChargeNow 118 = .ok (.iaload, 1) := by decide +kernel
theorem dX12_ofChargeNow_119 : decode cX12_ofChargeNow 119 = .ok (.ireturn, 1) := by decide +kernel
theorem dX12_ofCharge_0 : decode cX12_ofCharge 0 = .ok (.aload_n 0, 1) := by decide +kernel
theorem dX12_ofCharge_1 : decode cX12_ofCharge 1 = .ok (.iload_n 1, 1) := by decide +kernel
theorem dX12_ofCharge_2 : decode cX12_ofCharge 2 = .ok (.invokevirtual 195, 3) := by decide +kernel
theorem dX12_ofCharge_5 : decode cX12_ofCharge 5 = .ok (.ifCond .ne 26, 3) := by decide +kernel
theorem dX12_ofCharge_8 : decode cX12_ofCharge 8 = .ok (.aload_n 0, 1) := by decide +kernel
theorem dX12_ofCharge_9 : decode cX12_ofCharge 9 = .ok (.iload_n 2, 1) := by decide +kernel
theorem dX12_ofCharge_10 : decode cX12_ofCharge 10 = .ok (.iconst 0, 1) := by decide +kernel
theorem dX12_ofCharge_11 : decode cX12_ofCharge 11 = .ok (.bipush 11, 2) := by decide +kernel
theorem dX12_ofCharge_13 : decode cX12_ofCharge 13 = .ok (.invokestatic 34, 3) := by decide +kernel
theorem dX12_ofCharge_16 : decode cX12_ofCharge 16 = .ok (.ifCond .ne 7, 3) := by decide +kernel
theorem dX12_ofCharge_19 : decode cX12_ofCharge 19 = .ok (.iconst 1, 1) := by decide +kernel
theorem dX12_ofCharge_20 : decode cX12_ofCharge 20 = .ok (.goto 4, 3) := by decide +kernel
theorem dX12_ofCharge_23 : decode cX12_ofCharge 23 = .ok (.iconst 0, 1) := by decide +kernel
theorem dX12_ofCharge_24 : decode cX12_ofCharge 24 = .ok (.iconst 2, 1) := by decide +kernel
theorem dX12_ofCharge_25 : decode cX12_ofCharge 25 = .ok (.invokevirtual 20, 3) := by decide +kernel
theorem dX12_ofCharge_28 : decode cX12_ofCharge 28 = .ok (.ifCond .eq 7, 3) := by decide +kernel
theorem dX12_ofCharge_31 : decode cX12_ofCharge 31 = .ok (.iconst 0, 1) := by decide +kernel
theorem dX12_ofCharge_32 : decode cX12_ofCharge 32 = .ok (.goto 13, 3) := by decide +kernel
theorem dX12_ofCharge_35 : decode cX12_ofCharge 35 = .ok (.aload_n 0, 1) := by decide +kernel
theorem dX12_ofCharge_36 : decode cX12_ofCharge 36 = .ok (.aload_n 0, 1) := by decide +kernel
theorem dX12_ofCharge_37 : decode cX12_ofCharge 37 = .ok (.iload_n 1, 1) := by decide +kernel
theorem dX12_ofCharge_38 : decode cX12_ofCharge 38 = .ok (.invokevirtual 198, 3) := by decide +kernel
theorem dX12_ofCharge_41 : decode cX12_ofCharge 41 = .ok (.iload_n 2, 1) := by decide +kernel
theorem dX12_ofCharge_42 : decode cX12_ofCharge 42 = .ok (.invokevirtual 236, 3) := by decide +kernel
theorem dX12_ofCharge_45 : decode cX12_ofCharge 45 = .ok (.ireturn, 1) := by decide +kernel
theorem dX12_isNoOne_0 : decode cX12_isNoOne 0 = .ok (.iload_n 1, 1) := by decide +kernel
theorem dX12_isNoOne_1 : decode cX12_isNoOne 1 = .ok (.iconst 0, 1) := by decide +kernel
theorem dX12_isNoOne_2 : decode cX12_isNoOne 2 = .ok (.aload_n 0, 1) := by decide +kernel
theorem dX12_isNoOne_3 : decode cX12_isNoOne 3 = .ok (.getfield 10, 3) := by decide +kernel
theorem dX12_isNoOne_6 : decode cX12_isNoOne 6 = .ok (.getfield 185, 3) := by decide +kernel
theorem dX12_isNoOne_9 : decode cX12_isNoOne 9 = .ok (.invokevirtual 28, 3) := by decide +kernel
theorem dX12_isNoOne_12 : decode cX12_isNoOne 12 = .ok (.iconst 1, 1) := by decide +kernel
theorem dX12_isNoOne_13 : decode cX12_isNoOne 13 = .ok (.isub, 1) := by decide +kernel
theorem dX12_isNoOne_14 : decode cX12_isNoOne 14 = .ok (.invokestatic 34, 3) := by decide +kernel
theorem dX12_isNoOne_17 : decode cX12_isNoOne 17 = .ok (.ifCond .ne 7, 3) := by decide +kernel
theorem dX12_isNoOne_20 : decode cX12_isNoOne 20 = .ok (.iconst 1, 1) := by decide +kernel
theorem dX12_isNoOne_21 : decode cX12_isNoOne 21 = .ok (.goto 4, 3) := by decide +kernel
theorem dX12_isNoOne_24 : decode cX12_isNoOne 24 = .ok (.iconst 0, 1) := by decide +kernel
theorem dX12_isNoOne_25 : decode cX12_isNoOne 25 = .ok (.ireturn, 1) := by decide +kernel
theorem dX12_ofReceipt_0 : decode cX12_ofReceipt 0 = .ok (.aload_n 0, 1) := by decide +kernel
theorem dX12_ofReceipt_1 : decode cX12_ofReceipt 1 = .ok (.aload_n 0, 1) := by decide +kernel
theorem dX12_ofReceipt_2 : decode cX12_ofReceipt 2 = .ok (.iload_n 1, 1) := by decide +kernel
theorem dX12_ofReceipt_3 : decode cX12_ofReceipt 3 = .ok (.invokevirtual 240, 3) := by decide +kernel
theorem dX12_ofReceipt_6 : decode cX12_ofReceipt 6 = .ok (.iconst 1, 1) := by decide +kernel
theorem dX12_ofReceipt_7 : decode cX12_ofReceipt 7 = .ok (.invokevirtual 48, 3) := by decide +kernel
theorem dX12_ofReceipt_10 : decode cX12_ofReceipt 10 = .ok (.ifCond .eq 7, 3) := by decide +kernel
theorem dX12_ofReceipt_13 : decode cX12_ofReceipt 13 = .ok (.iconst 0, 1) := by decide +kernel
theorem dX12_ofReceipt_14 : decode cX12_ofReceipt 14 = .ok (.goto 20, 3) := by decide +kernel
theorem dX12_ofReceipt_17 : decode cX12_ofReceipt 17 = .ok (.aload_n 0, 1) := by decide +kernel
theorem dX12_ofReceipt_18 : decode cX12_ofReceipt 18 = .ok (.getfield 10, 3) := by decide +kernel
theorem dX12_ofReceipt_21 : decode cX12_ofReceipt 21 = .ok (.getfield 185, 3) := by decide +kernel
theorem dX12_ofReceipt_24 : decode cX12_ofReceipt 24 = .ok (.iload_n 1, 1) := by decide +kernel
theorem dX12_ofReceipt_25 : decode cX12_ofReceipt 25 = .ok (.invokevirtual 38, 3) := by decide +kernel
theorem dX12_ofReceipt_28 : decode cX12_ofReceipt 28 = .ok (.checkcast 188, 3) := by decide +kernel
theorem dX12_ofReceipt_31 : decode cX12_ofReceipt 31 = .ok (.getfield 193, 3) := by decide +kernel
theorem dX12_ofReceipt_34 : decode cX12_ofReceipt 34 = .ok (.ireturn, 1) := by decide +kernel
theorem dX12_score_0 : decode cX12_score 0 = .ok (.aload_n 0, 1) := by decide +kernel
theorem dX12_score_1 : decode cX12_score 1 = .ok (.iload_n 1, 1) := by decide +kernel
theorem dX12_score_2 : decode cX12_score 2 = .ok (.invokevirtual 195, 3) := by decide +kernel
theorem dX12_score_5 : decode cX12_score 5 = .ok (.ifCond .ne 16, 3) := by decide +kernel
theorem dX12_score_8 : decode cX12_score 8 = .ok (.aload_n 0, 1) := by decide +kernel
theorem dX12_score_9 : decode cX12_score 9 = .ok (.aload_n 0, 1) := by decide +kernel
theorem dX12_score_10 : decode cX12_score 10 = .ok (.iload_n 2, 1) := by decide +kernel
theorem dX12_score_11 : decode cX12_score 11 = .ok (.invokevirtual 240, 3) := by decide +kernel
theorem dX12_score_14 : decode cX12_score 14 = .ok (.iconst 1, 1) := by decide +kernel
theorem dX12_score_15 : decode cX12_score 15 = .ok (.invokevirtual 20, 3) := by decide +kernel
theorem dX12_score_18 : decode cX12_score 18 = .ok (.ifCond .eq 7, 3) := by decide +kernel
theorem dX12_score_21 : decode cX12_score 21 = .ok (.iconst 0, 1) := by decide +kernel
theorem dX12_score_22 : decode cX12_score 22 = .ok (.goto 25, 3) := by decide +kernel
theorem dX12_score_25 : decode cX12_score 25 = .ok (.aload_n 0, 1) := by decide +kernel
theorem dX12_score_26 : decode cX12_score 26 = .ok (.iload_n 1, 1) := by decide +kernel
theorem dX12_score_27 : decode cX12_score 27 = .ok (.invokevirtual 198, 3) := by decide +kernel
theorem dX12_score_30 : decode cX12_score 30 = .ok (.aload_n 0, 1) := by decide +kernel
theorem dX12_score_31 : decode cX12_score 31 = .ok (.getfield 10, 3) := by decide +kernel
theorem dX12_score_34 : decode cX12_score 34 = .ok (.getfield 185, 3) := by decide +kernel
theorem dX12_score_37 : decode cX12_score 37 = .ok (.iload_n 2, 1) := by decide +kernel
theorem dX12_score_38 : decode cX12_score 38 = .ok (.invokevirtual 38, 3) := by decide +kernel
theorem dX12_score_41 : decode cX12_score 41 = .ok (.checkcast 188, 3) := by decide +kernel
theorem dX12_score_44 : decode cX12_score 44 = .ok (.invokevirtual 243, 3) := by decide +kernel
theorem dX12_score_47 : decode cX12_score 47 = .ok (.ireturn, 1) := by decide +kernel
theorem dX12_day_0 : decode cX12_day 0 = .ok (.aload_n 0, 1) := by decide +kernel
theorem dX12_day_1 : decode cX12_day 1 = .ok (.aload_n 0, 1) := by decide +kernel
theorem dX12_day_2 : decode cX12_day 2 = .ok (.getfield 10, 3) := by decide +kernel
theorem dX12_day_5 : decode cX12_day 5 = .ok (.getfield 170, 3) := by decide +kernel
theorem dX12_day_8 : decode cX12_day 8 = .ok (.bipush 119, 2) := by decide +kernel
theorem dX12_day_10 : decode cX12_day 10 = .ok (.if_icmp .ne 7, 3) := by decide +kernel
theorem dX12_day_13 : decode cX12_day 13 = .ok (.iconst 1, 1) := by decide +kernel
theorem dX12_day_14 : decode cX12_day 14 = .ok (.goto 4, 3) := by decide +kernel
theorem dX12_day_17 : decode cX12_day 17 = .ok (.iconst 0, 1) := by decide +kernel
theorem dX12_day_18 : decode cX12_day 18 = .ok (.iconst 1, 1) := by decide +kernel
theorem dX12_day_19 : decode cX12_day 19 = .ok (.invokevirtual 48, 3) := by decide +kernel
theorem dX12_day_22 : decode cX12_day 22 = .ok (.ifCond .eq 7, 3) := by decide +kernel
theorem dX12_day_25 : decode cX12_day 25 = .ok (.iconst 0, 1) := by decide +kernel
theorem dX12_day_26 : decode cX12_day 26 = .ok (.goto 10, 3) := by decide +kernel
theorem dX12_day_29 : decode cX12_day 29 = .ok (.aload_n 0, 1) := by decide +kernel
theorem dX12_day_30 : decode cX12_day 30 = .ok (.getfield 10, 3) := by decide +kernel
theorem dX12_day_33 : decode cX12_day 33 = .ok (.invokevirtual 247, 3) := by decide +kernel
theorem dX12_day_36 : decode cX12_day 36 = .ok (.ireturn, 1) := by decide +kernel
theorem dX12_free_0 : decode cX12_free 0 = .ok (.iconst 0, 1) := by decide +kernel
theorem dX12_free_1 : decode cX12_free 1 = .ok (.istore_n 1, 1) := by decide +kernel
theorem dX12_free_2 : decode cX12_free 2 = .ok (.iconst 0, 1) := by decide +kernel
theorem dX12_free_3 : decode cX12_free 3 = .ok (.istore_n 2, 1) := by decide +kernel
theorem dX12_free_4 : decode cX12_free 4 = .ok (.iload_n 2, 1) := by decide +kernel
theorem dX12_free_5 : decode cX12_free 5 = .ok (.aload_n 0, 1) := by decide +kernel
theorem dX12_free_6 : decode cX12_free 6 = .ok (.getfield 10, 3) := by decide +kernel
theorem dX12_free_9 : decode cX12_free 9 = .ok (.getfield 185, 3) := by decide +kernel
theorem dX12_free_12 : decode cX12_free 12 = .ok (.invokevirtual 28, 3) := by decide +kernel
theorem dX12_free_15 : decode cX12_free 15 = .ok (.if_icmp .ge 38, 3) := by decide +kernel
theorem dX12_free_18 : decode cX12_free 18 = .ok (.iload_n 1, 1) := by decide +kernel
theorem dX12_free_19 : decode cX12_free 19 = .ok (.aload_n 0, 1) := by decide +kernel
theorem dX12_free_20 : decode cX12_free 20 = .ok (.getfield 10, 3) := by decide +kernel
theorem dX12_free_23 : decode cX12_free 23 = .ok (.getfield 185, 3) := by decide +kernel
theorem dX12_free_26 : decode cX12_free 26 = .ok (.iload_n 2, 1) := by decide +kernel
theorem dX12_free_27 : decode cX12_free 27 = .ok (.invokevirtual 38, 3) := by decide +kernel
theorem dX12_free_30 : decode cX12_free 30 = .ok (.checkcast 188, 3) := by decide +kernel
theorem dX12_free_33 : decode cX12_free 33 = .ok (.getfield 193, 3) := by decide +kernel
theorem dX12_free_36 : decode cX12_free 36 = .ok (.iconst (-1), 1) := by decide +kernel
theorem dX12_free_37 : decode cX12_free 37 = .ok (.if_icmp .ne 7, 3) := by decide +kernel
theorem dX12_free_40 : decode cX12_free 40 = .ok (.iconst 1, 1) := by decide +kernel
theorem dX12_free_41 : decode cX12_free 41 = .ok (.goto 4, 3) := by decide +kernel
theorem dX12_free_44 : decode cX12_free 44 = .ok (.iconst 0, 1) := by decide +kernel
theorem dX12_free_45 : decode cX12_free 45 = .ok (.iadd, 1) := by decide +kernel
theorem dX12_free_46 : decode cX12_free 46 = .ok (.istore_n 1, 1) := by decide +kernel
theorem dX12_free_47 : decode cX12_free 47 = .ok (.iinc 2 1, 3) := by decide +kernel
theorem dX12_free_50 : decode cX12_free 50 = .ok (.goto (-46), 3) := by decide +kernel
theorem dX12_free_53 : decode cX12_free 53 = .ok (.iload_n 1, 1) := by decide +kernel
theorem dX12_free_54 : decode cX12_free 54 = .ok (.ireturn, 1) := by decide +kernel
theorem dX12_sum_0 : decode cX12_sum 0 = .ok (.iconst 0, 1) := by decide +kernel
theorem dX12_sum_1 : decode cX12_sum 1 = .ok (.istore_n 2, 1) := by decide +kernel
theorem dX12_sum_2 : decode cX12_sum 2 = .ok (.iconst 0, 1) := by decide +kernel
theorem dX12_sum_3 : decode cX12_sum 3 = .ok (.istore_n 3, 1) := by decide +kernel
theorem dX12_sum_4 : decode cX12_sum 4 = .ok (.iload_n 3, 1) := by decide +kernel
theorem dX12_sum_5 : decode cX12_sum 5 = .ok (.aload_n 0, 1) := by decide +kernel
theorem dX12_sum_6 : decode cX12_sum 6 = .ok (.getfield 10, 3) := by decide +kernel
theorem dX12_sum_9 : decode cX12_sum 9 = .ok (.getfield 95, 3) := by decide +kernel
theorem dX12_sum_12 : decode cX12_sum 12 = .ok (.invokevirtual 28, 3) := by decide +kernel
theorem dX12_sum_15 : decode cX12_sum 15 = .ok (.if_icmp .ge 53, 3) := by decide +kernel
theorem dX12_sum_18 : decode cX12_sum 18 = .ok (.aload_n 0, 1) := by decide +kernel
theorem dX12_sum_19 : decode cX12_sum 19 = .ok (.iload_n 3, 1) := by decide +kernel
theorem dX12_sum_20 : decode cX12_sum 20 = .ok (.invokevirtual 198, 3) := by decide +kernel
theorem dX12_sum_23 : decode cX12_sum 23 = .ok (.astore 4, 2) := by decide +kernel
theorem dX12_sum_25 : decode cX12_sum 25 = .ok (.iload_n 2, 1) := by decide +kernel
theorem dX12_sum_26 : decode cX12_sum 26 = .ok (.iload_n 1, 1) := by decide +kernel
theorem dX12_sum_27 : decode cX12_sum 27 = .ok (.ifCond .eq 16, 3) := by decide +kernel
theorem dX12_sum_30 : decode cX12_sum 30 = .ok (.aload_n 0, 1) := by decide +kernel
theorem dX12_sum_31 : decode cX12_sum 31 = .ok (.getfield 10, 3) := by decide +kernel
theorem dX12_sum_34 : decode cX12_sum 34 = .ok (.aload 4, 2) := by decide +kernel
theorem dX12_sum_36 : decode cX12_sum 36 = .ok (.iconst 0, 1) := by decide +kernel
theorem dX12_sum_37 : decode cX12_sum 37 = .ok (.invokevirtual 228, 3) := by decide +kernel
theorem dX12_sum_40 : decode cX12_sum 40 = .ok (.goto 20, 3) := by decide +kernel
theorem dX12_sum_43 : decode cX12_sum 43 = .ok (.aload 4, 2) := by decide +kernel
theorem dX12_sum_45 : decode cX12_sum 45 = .ok (.invokevirtual 106, 3) := by decide +kernel
theorem dX12_sum_48 : decode cX12_sum 48 = .ok (.ifCond .eq 7, 3) := by decide +kernel
theorem dX12_sum_51 : decode cX12_sum 51 = .ok (.iconst 0, 1) := by decide +kernel
theorem dX12_sum_52 : decode cX12_sum 52 = .ok (.goto 8, 3) := by decide +kernel
theorem dX12_sum_55 : decode cX12_sum 55 = .ok (.aload 4, 2) := by decide +kernel
theorem dX12_sum_57 : decode cX12_sum 57 = .ok (.getfield 110, 3) := by decide +kernel
theorem dX12_sum_60 : decode cX12_sum 60 = .ok (.iadd, 1) := by decide +kernel
theorem dX12_sum_61 : decode cX12_sum 61 = .ok (.istore_n 2, 1) := by decide +kernel
theorem dX12_sum_62 : decode cX12_sum 62 = .ok (.iinc 3 1, 3) := by decide +kernel
theorem dX12_sum_65 : decode cX12_sum 65 = .ok (.goto (-61), 3) := by decide +kernel
theorem dX12_sum_68 : decode cX12_sum 68 = .ok (.iload_n 2, 1) := by decide +kernel
theorem dX12_sum_69 : decode cX12_sum 69 = .ok (.ireturn, 1) := by decide +kernel
theorem dX12_count_0 : decode cX12_count 0 = .ok (.iload_n 1, 1) := by decide +kernel
theorem dX12_count_1 : decode cX12_count 1 = .ok (.iconst 2, 1) := by decide +kernel
theorem dX12_count_2 : decode cX12_count 2 = .ok (.if_icmp .le 20, 3) := by decide +kernel
theorem dX12_count_5 : decode cX12_count 5 = .ok (.iload_n 1, 1) := by decide +kernel
theorem dX12_count_6 : decode cX12_count 6 = .ok (.bipush 8, 2) := by decide +kernel
theorem dX12_count_8 : decode cX12_count 8 = .ok (.if_icmp .ge 14, 3) := by decide +kernel
theorem dX12_count_11 : decode cX12_count 11 = .ok (.aload_n 0, 1) := by decide +kernel
theorem dX12_count_12 : decode cX12_count 12 = .ok (.getfield 10, 3) := by decide +kernel
theorem dX12_count_15 : decode cX12_count 15 = .ok (.iload_n 1, 1) := by decide +kernel
theorem dX12_count_16 : decode cX12_count 16 = .ok (.iconst 3, 1) := by decide +kernel
theorem dX12_count_17 : decode cX12_count 17 = .ok (.isub, 1) := by decide +kernel
theorem dX12_count_18 : decode cX12_count 18 = .ok (.invokevirtual 215, 3) := by decide +kernel
theorem dX12_count_21 : decode cX12_count 21 = .ok (.ireturn, 1) := by decide +kernel
theorem dX12_count_22 : decode cX12_count 22 = .ok (.iload_n 1, 1) := by decide +kernel
theorem dX12_count_23 : decode cX12_count 23 = .ok (.tableswitch 114 0 10 #[57, 68, 79, 114, 114, 114, 114, 114, 90, 101, 106], 57) := by decide +kernel
theorem dX12_count_80 : decode cX12_count 80 = .ok (.aload_n 0, 1) := by decide +kernel
theorem dX12_count_81 : decode cX12_count 81 = .ok (.getfield 10, 3) := by decide +kernel
theorem dX12_count_84 : decode cX12_count 84 = .ok (.getfield 24, 3) := by decide +kernel
theorem dX12_count_87 : decode cX12_count 87 = .ok (.invokevirtual 28, 3) := by decide +kernel
theorem dX12_count_90 : decode cX12_count 90 = .ok (.ireturn, 1) := by decide +kernel
theorem dX12_count_91 : decode cX12_count 91 = .ok (.aload_n 0, 1) := by decide +kernel
theorem dX12_count_92 : decode cX12_count 92 = .ok (.getfield 10, 3) := by decide +kernel
theorem dX12_count_95 : decode cX12_count 95 = .ok (.getfield 87, 3) := by decide +kernel
theorem dX12_count_98 : decode cX12_count 98 = .ok (.invokevirtual 28, 3) := by decide +kernel
theorem dX12_count_101 : decode cX12_count 101 = .ok (.ireturn, 1) := by decide +kernel
theorem dX12_count_102 : decode cX12_count 102 = .ok (.aload_n 0, 1) := by decide +kernel
theorem dX12_count_103 : decode cX12_count 103 = .ok (.getfield 10, 3) := by decide +kernel
theorem dX12_count_106 : decode cX12_count 106 = .ok (.getfield 95, 3) := by decide +kernel
theorem dX12_count_109 : decode cX12_count 109 = .ok (.invokevirtual 28, 3) := by decide +kernel
theorem dX12_count_112 : decode cX12_count 112 = .ok (.ireturn, 1) := by decide +kernel
theorem dX12_count_113 : decode cX12_count 113 = .ok (.aload_n 0, 1) := by decide +kernel
theorem dX12_count_114 : decode cX12_count 114 = .ok (.getfield 10, 3) := by decide +kernel
theorem dX12_count_117 : decode cX12_count 117 = .ok (.getfield 185, 3) := by decide +kernel
theorem dX12_count_120 : decode cX12_count 120 = .ok (.invokevirtual 28, 3) := by decide +kernel
theorem dX12_count_123 : decode cX12_count 123 = .ok (.ireturn, 1) := by decide +kernel
theorem dX12_count_124 : decode cX12_count 124 = .ok (.aload_n 0, 1) := by decide +kernel
theorem dX12_count_125 : decode cX12_count 125 = .ok (.invokevirtual 250, 3) := by decide +kernel
theorem dX12_count_128 : decode cX12_count 128 = .ok (.ireturn, 1) := by decide +kernel
theorem dX12_count_129 : decode cX12_count 129 = .ok (.aload_n 0, 1) := by decide +kernel
theorem dX12_count_130 : decode cX12_count 130 = .ok (.getfield 10, 3) := by decide +kernel
theorem dX12_count_133 : decode cX12_count 133 = .ok (.getfield 170, 3) := by decide +kernel
theorem dX12_count_136 : decode cX12_count 136 = .ok (.ireturn, 1) := by decide +kernel
theorem dX12_count_137 : decode cX12_count 137 = .ok (.aload_n 0, 1) := by decide +kernel
theorem dX12_count_138 : decode cX12_count 138 = .ok (.iload_n 1, 1) := by decide +kernel
theorem dX12_count_139 : decode cX12_count 139 = .ok (.bipush 12, 2) := by decide +kernel
theorem dX12_count_141 : decode cX12_count 141 = .ok (.if_icmp .ne 7, 3) := by decide +kernel
theorem dX12_count_144 : decode cX12_count 144 = .ok (.iconst 1, 1) := by decide +kernel
theorem dX12_count_145 : decode cX12_count 145 = .ok (.goto 4, 3) := by decide +kernel
theorem dX12_count_148 : decode cX12_count 148 = .ok (.iconst 0, 1) := by decide +kernel
theorem dX12_count_149 : decode cX12_count 149 = .ok (.invokevirtual 253, 3) := by decide +kernel
theorem dX12_count_152 : decode cX12_count 152 = .ok (.ireturn, 1) := by decide +kernel
theorem dX12_many_0 : decode cX12_many 0 = .ok (.aload_n 0, 1) := by decide +kernel
theorem dX12_many_1 : decode cX12_many 1 = .ok (.iload_n 1, 1) := by decide +kernel
theorem dX12_many_2 : decode cX12_many 2 = .ok (.iconst 0, 1) := by decide +kernel
theorem dX12_many_3 : decode cX12_many 3 = .ok (.bipush 12, 2) := by decide +kernel
theorem dX12_many_5 : decode cX12_many 5 = .ok (.invokestatic 34, 3) := by decide +kernel
theorem dX12_many_8 : decode cX12_many 8 = .ok (.ifCond .ne 7, 3) := by decide +kernel
theorem dX12_many_11 : decode cX12_many 11 = .ok (.iconst 1, 1) := by decide +kernel
theorem dX12_many_12 : decode cX12_many 12 = .ok (.goto 4, 3) := by decide +kernel
theorem dX12_many_15 : decode cX12_many 15 = .ok (.iconst 0, 1) := by decide +kernel
theorem dX12_many_16 : decode cX12_many 16 = .ok (.iconst 1, 1) := by decide +kernel
theorem dX12_many_17 : decode cX12_many 17 = .ok (.invokevirtual 48, 3) := by decide +kernel
theorem dX12_many_20 : decode cX12_many 20 = .ok (.ifCond .eq 7, 3) := by decide +kernel
theorem dX12_many_23 : decode cX12_many 23 = .ok (.iconst 0, 1) := by decide +kernel
theorem dX12_many_24 : decode cX12_many 24 = .ok (.goto 8, 3) := by decide +kernel
theorem dX12_many_27 : decode cX12_many 27 = .ok (.aload_n 0, 1) := by decide +kernel
theorem dX12_many_28 : decode cX12_many 28 = .ok (.iload_n 1, 1) := by decide +kernel
theorem dX12_many_29 : decode cX12_many 29 = .ok (.invokevirtual 257, 3) := by decide +kernel
theorem dX12_many_32 : decode cX12_many 32 = .ok (.ireturn, 1) := by decide +kernel
theorem dX12_meanTrust_0 : decode cX12_meanTrust 0 = .ok (.aload_n 0, 1) := by decide +kernel
theorem dX12_meanTrust_1 : decode cX12_meanTrust 1 = .ok (.iconst 0, 1) := by decide +kernel
theorem dX12_meanTrust_2 : decode cX12_meanTrust 2 = .ok (.putfield 16, 3) := by decide +kernel
theorem dX12_meanTrust_5 : decode cX12_meanTrust 5 = .ok (.iconst 0, 1) := by decide +kernel
theorem dX12_meanTrust_6 : decode cX12_meanTrust 6 = .ok (.istore_n 1, 1) := by decide +kernel
theorem dX12_meanTrust_7 : decode cX12_meanTrust 7 = .ok (.iconst 0, 1) := by decide +kernel
theorem dX12_meanTrust_8 : decode cX12_meanTrust 8 = .ok (.istore_n 2, 1) := by decide +kernel
theorem dX12_meanTrust_9 : decode cX12_meanTrust 9 = .ok (.iload_n 2, 1) := by decide +kernel
theorem dX12_meanTrust_10 : decode cX12_meanTrust 10 = .ok (.aload_n 0, 1) := by decide +kernel
theorem dX12_meanTrust_11 : decode cX12_meanTrust 11 = .ok (.getfield 10, 3) := by decide +kernel
theorem dX12_meanTrust_14 : decode cX12_meanTrust 14 = .ok (.getfield 24, 3) := by decide +kernel
theorem dX12_meanTrust_17 : decode cX12_meanTrust 17 = .ok (.invokevirtual 28, 3) := by decide +kernel
theorem dX12_meanTrust_20 : decode cX12_meanTrust 20 = .ok (.if_icmp .ge 20, 3) := by decide +kernel
theorem dX12_meanTrust_23 : decode cX12_meanTrust 23 = .ok (.iload_n 1, 1) := by decide +kernel
theorem dX12_meanTrust_24 : decode cX12_meanTrust 24 = .ok (.aload_n 0, 1) := by decide +kernel
theorem dX12_meanTrust_25 : decode cX12_meanTrust 25 = .ok (.iload_n 2, 1) := by decide +kernel
theorem dX12_meanTrust_26 : decode cX12_meanTrust 26 = .ok (.invokevirtual 51, 3) := by decide +kernel
theorem dX12_meanTrust_29 : decode cX12_meanTrust 29 = .ok (.getfield 124, 3) := by decide +kernel
theorem dX12_meanTrust_32 : decode cX12_meanTrust 32 = .ok (.iadd, 1) := by decide +kernel
theorem dX12_meanTrust_33 : decode cX12_meanTrust 33 = .ok (.istore_n 1, 1) := by decide +kernel
theorem dX12_meanTrust_34 : decode cX12_meanTrust 34 = .ok (.iinc 2 1, 3) := by decide +kernel
theorem dX12_meanTrust_37 : decode cX12_meanTrust 37 = .ok (.goto (-28), 3) := by decide +kernel
theorem dX12_meanTrust_40 : decode cX12_meanTrust 40 = .ok (.aload_n 0, 1) := by decide +kernel
theorem dX12_meanTrust_41 : decode cX12_meanTrust 41 = .ok (.getfield 10, 3) := by decide +kernel
theorem dX12_meanTrust_44 : decode cX12_meanTrust 44 = .ok (.getfield 24, 3) := by decide +kernel
theorem dX12_meanTrust_47 : decode cX12_meanTrust 47 = .ok (.invokevirtual 260, 3) := by decide +kernel
theorem dX12_meanTrust_50 : decode cX12_meanTrust 50 = .ok (.ifCond .eq 7, 3) := by decide +kernel
theorem dX12_meanTrust_53 : decode cX12_meanTrust 53 = .ok (.dconst 0, 1) := by decide +kernel
theorem dX12_meanTrust_54 : decode cX12_meanTrust 54 = .ok (.goto 17, 3) := by decide +kernel
theorem dX12_meanTrust_57 : decode cX12_meanTrust 57 = .ok (.iload_n 1, 1) := by decide +kernel
theorem dX12_meanTrust_58 : decode cX12_meanTrust 58 = .ok (.i2d, 1) := by decide +kernel
theorem dX12_meanTrust_59 : decode cX12_meanTrust 59 = .ok (.aload_n 0, 1) := by decide +kernel
theorem dX12_meanTrust_60 : decode cX12_meanTrust 60 = .ok (.getfield 10, 3) := by decide +kernel
theorem dX12_meanTrust_63 : decode cX12_meanTrust 63 = .ok (.getfield 24, 3) := by decide +kernel
theorem dX12_meanTrust_66 : decode cX12_meanTrust 66 = .ok (.invokevirtual 28, 3) := by decide +kernel
theorem dX12_meanTrust_69 : decode cX12_meanTrust 69 = .ok (.i2d, 1) := by decide +kernel
theorem dX12_meanTrust_70 : decode cX12_meanTrust 70 = .ok (.ddiv, 1) := by decide +kernel
theorem dX12_meanTrust_71 : decode cX12_meanTrust 71 = .ok (.dreturn, 1) := by decide +kernel
theorem dX12_wouldMatch_0 : decode cX12_wouldMatch 0 = .ok (.aload_n 0, 1) := by decide +kernel
theorem dX12_wouldMatch_1 : decode cX12_wouldMatch 1 = .ok (.iload_n 1, 1) := by decide +kernel
theorem dX12_wouldMatch_2 : decode cX12_wouldMatch 2 = .ok (.iload_n 2, 1) := by decide +kernel
theorem dX12_wouldMatch_3 : decode cX12_wouldMatch 3 = .ok (.iload_n 3, 1) := by decide +kernel
theorem dX12_wouldMatch_4 : decode cX12_wouldMatch 4 = .ok (.invokevirtual 182, 3) := by decide +kernel
theorem dX12_wouldMatch_7 : decode cX12_wouldMatch 7 = .ok (.ifCond .eq 5, 3) := by decide +kernel
theorem dX12_wouldMatch_10 : decode cX12_wouldMatch 10 = .ok (.iconst 0, 1) := by decide +kernel
theorem dX12_wouldMatch_11 : decode cX12_wouldMatch 11 = .ok (.ireturn, 1) := by decide +kernel
theorem dX12_wouldMatch_12 : decode cX12_wouldMatch 12 = .ok (.new 188, 3) := by decide +kernel
theorem dX12_wouldMatch_15 : decode cX12_wouldMatch 15 = .ok (.dup, 1) := by decide +kernel
theorem dX12_wouldMatch_16 : decode cX12_wouldMatch 16 = .ok (.iload_n 1, 1) := by decide +kernel
theorem dX12_wouldMatch_17 : decode cX12_wouldMatch 17 = .ok (.iload_n 2, 1) := by decide +kernel
theorem dX12_wouldMatch_18 : decode cX12_wouldMatch 18 = .ok (.iload_n 3, 1) := by decide +kernel
theorem dX12_wouldMatch_19 : decode cX12_wouldMatch 19 = .ok (.invokespecial 190, 3) := by decide +kernel
theorem dX12_wouldMatch_22 : decode cX12_wouldMatch 22 = .ok (.astore 4, 2) := by decide +kernel
theorem dX12_wouldMatch_24 : decode cX12_wouldMatch 24 = .ok (.iconst (-1), 1) := by decide +kernel
theorem dX12_wouldMatch_25 : decode cX12_wouldMatch 25 = .ok (.istore 5, 2) := by decide +kernel
theorem dX12_wouldMatch_27 : decode cX12_wouldMatch 27 = .ok (.iconst 0, 1) := by decide +kernel
theorem dX12_wouldMatch_28 : decode cX12_wouldMatch 28 = .ok (.istore 6, 2) := by decide +kernel
theorem dX12_wouldMatch_30 : decode cX12_wouldMatch 30 = .ok (.iload 6, 2) := by decide +kernel
theorem dX12_wouldMatch_32 : decode cX12_wouldMatch 32 = .ok (.aload_n 0, 1) := by decide +kernel
theorem dX12_wouldMatch_33 : decode cX12_wouldMatch 33 = .ok (.getfield 10, 3) := by decide +kernel
theorem dX12_wouldMatch_36 : decode cX12_wouldMatch 36 = .ok (.getfield 95, 3) := by decide +kernel
theorem dX12_wouldMatch_39 : decode cX12_wouldMatch 39 = .ok (.invokevirtual 28, 3) := by decide +kernel
theorem dX12_wouldMatch_42 : decode cX12_wouldMatch 42 = .ok (.if_icmp .ge 74, 3) := by decide +kernel
theorem dX12_wouldMatch_45 : decode cX12_wouldMatch 45 = .ok (.aload_n 0, 1) := by decide +kernel
theorem dX12_wouldMatch_46 : decode cX12_wouldMatch 46 = .ok (.iload 6, 2) := by decide +kernel
theorem dX12_wouldMatch_48 : decode cX12_wouldMatch 48 = .ok (.invokevirtual 198, 3) := by decide +kernel
theorem dX12_wouldMatch_51 : decode cX12_wouldMatch 51 = .ok (.getfield 103, 3) := by decide +kernel
theorem dX12_wouldMatch_54 : decode cX12_wouldMatch 54 = .ok (.ifCond .ne 56, 3) := by decide +kernel
theorem dX12_wouldMatch_57 : decode cX12_wouldMatch 57 = .ok (.aload_n 0, 1) := by decide +kernel
theorem dX12_wouldMatch_58 : decode cX12_wouldMatch 58 = .ok (.iload 6, 2) := by decide +kernel
theorem dX12_wouldMatch_60 : decode cX12_wouldMatch 60 = .ok (.invokevirtual 198, 3) := by decide +kernel
theorem dX12_wouldMatch_63 : decode cX12_wouldMatch 63 = .ok (.aload 4, 2) := by decide +kernel
theorem dX12_wouldMatch_65 : decode cX12_wouldMatch 65 = .ok (.invokevirtual 243, 3) := by decide +kernel
theorem dX12_wouldMatch_68 : decode cX12_wouldMatch 68 = .ok (.iconst (-1), 1) := by decide +kernel
theorem dX12_wouldMatch_69 : decode cX12_wouldMatch 69 = .ok (.if_icmp .ne 6, 3) := by decide +kernel
theorem dX12_wouldMatch_72 : decode cX12_wouldMatch 72 = .ok (.goto 38, 3) := by decide +kernel
theorem dX12_wouldMatch_75 : decode cX12_wouldMatch 75 = .ok (.iload 5, 2) := by decide +kernel
theorem dX12_wouldMatch_77 : decode cX12_wouldMatch 77 = .ok (.iconst (-1), 1) := by decide +kernel
theorem dX12_wouldMatch_78 : decode cX12_wouldMatch 78 = .ok (.if_icmp .eq 28, 3) := by decide +kernel
theorem dX12_wouldMatch_81 : decode cX12_wouldMatch 81 = .ok (.aload_n 0, 1) := by decide +kernel
theorem dX12_wouldMatch_82 : decode cX12_wouldMatch 82 = .ok (.iload 6, 2) := by decide +kernel
theorem dX12_wouldMatch_84 : decode cX12_wouldMatch 84 = .ok (.invokevirtual 198, 3) := by decide +kernel
theorem dX12_wouldMatch_87 : decode cX12_wouldMatch 87 = .ok (.aload 4, 2) := by decide +kernel
theorem dX12_wouldMatch_89 : decode cX12_wouldMatch 89 = .ok (.invokevirtual 243, 3) := by decide +kernel
theorem dX12_wouldMatch_92 : decode cX12_wouldMatch 92 = .ok (.aload_n 0, 1) := by decide +kernel
theorem dX12_wouldMatch_93 : decode cX12_wouldMatch 93 = .ok (.iload 5, 2) := by decide +kernel
theorem dX12_wouldMatch_95 : decode cX12_wouldMatch 95 = .ok (.invokevirtual 198, 3) := by decide +kernel
theorem dX12_wouldMatch_98 : decode cX12_wouldMatch 98 = .ok (.aload 4, 2) := by decide +kernel
theorem dX12_wouldMatch_100 : decode cX12_wouldMatch 100 = .ok (.invokevirtual 243, 3) := by decide +kernel
theorem dX12_wouldMatch_103 : decode cX12_wouldMatch 103 = .ok (.if_icmp .le 7, 3) := by decide +kernel
theorem dX12_wouldMatch_106 : decode cX12_wouldMatch 106 = .ok (.iload 6, 2) := by decide +kernel
theorem dX12_wouldMatch_108 : decode cX12_wouldMatch 108 = .ok (.istore 5, 2) := by decide +kernel
theorem dX12_wouldMatch_110 : decode cX12_wouldMatch 110 = .ok (.iinc 6 1, 3) := by decide +kernel
theorem dX12_wouldMatch_113 : decode cX12_wouldMatch 113 = .ok (.goto (-83), 3) := by decide +kernel
theorem dX12_wouldMatch_116 : decode cX12_wouldMatch 116 = .ok (.iload 5, 2) := by decide +kernel
theorem dX12_wouldMatch_118 : decode cX12_wouldMatch 118 = .ok (.ireturn, 1) := by decide +kernel
theorem dX12_trustBehind_0 : decode cX12_trustBehind 0 = .ok (.aload_n 0, 1) := by decide +kernel
theorem dX12_trustBehind_1 : decode cX12_trustBehind 1 = .ok (.aload_n 0, 1) := by decide +kernel
theorem dX12_trustBehind_2 : decode cX12_trustBehind 2 = .ok (.iload_n 1, 1) := by decide +kernel
theorem dX12_trustBehind_3 : decode cX12_trustBehind 3 = .ok (.invokevirtual 44, 3) := by decide +kernel
theorem dX12_trustBehind_6 : decode cX12_trustBehind 6 = .ok (.iconst 1, 1) := by decide +kernel
theorem dX12_trustBehind_7 : decode cX12_trustBehind 7 = .ok (.invokevirtual 48, 3) := by decide +kernel
theorem dX12_trustBehind_10 : decode cX12_trustBehind 10 = .ok (.ifCond .ne 26, 3) := by decide +kernel
theorem dX12_trustBehind_13 : decode cX12_trustBehind 13 = .ok (.aload_n 0, 1) := by decide +kernel
theorem dX12_trustBehind_14 : decode cX12_trustBehind 14 = .ok (.iload_n 2, 1) := by decide +kernel
theorem dX12_trustBehind_15 : decode cX12_trustBehind 15 = .ok (.iconst 0, 1) := by decide +kernel
theorem dX12_trustBehind_16 : decode cX12_trustBehind 16 = .ok (.bipush 30, 2) := by decide +kernel
theorem dX12_trustBehind_18 : decode cX12_trustBehind 18 = .ok (.invokestatic 34, 3) := by decide +kernel
theorem dX12_trustBehind_21 : decode cX12_trustBehind 21 = .ok (.ifCond .ne 7, 3) := by decide +kernel
theorem dX12_trustBehind_24 : decode cX12_trustBehind 24 = .ok (.iconst 1, 1) := by decide +kernel
theorem dX12_trustBehind_25 : decode cX12_trustBehind 25 = .ok (.goto 4, 3) := by decide +kernel
theorem dX12_trustBehind_28 : decode cX12_trustBehind 28 = .ok (.iconst 0, 1) := by decide +kernel
theorem dX12_trustBehind_29 : decode cX12_trustBehind 29 = .ok (.iconst 2, 1) := by decide +kernel
theorem dX12_trustBehind_30 : decode cX12_trustBehind 30 = .ok (.invokevirtual 20, 3) := by decide +kernel
theorem dX12_trustBehind_33 : decode cX12_trustBehind 33 = .ok (.ifCond .eq 7, 3) := by decide +kernel
theorem dX12_trustBehind_36 : decode cX12_trustBehind 36 = .ok (.iconst 0, 1) := by decide +kernel
theorem dX12_trustBehind_37 : decode cX12_trustBehind 37 = .ok (.goto 12, 3) := by decide +kernel
theorem dX12_trustBehind_40 : decode cX12_trustBehind 40 = .ok (.aload_n 0, 1) := by decide +kernel
theorem dX12_trustBehind_41 : decode cX12_trustBehind 41 = .ok (.getfield 10, 3) := by decide +kernel
theorem dX12_trustBehind_44 : decode cX12_trustBehind 44 = .ok (.iload_n 1, 1) := by decide +kernel
theorem dX12_trustBehind_45 : decode cX12_trustBehind 45 = .ok (.iload_n 2, 1) := by decide +kernel
theorem dX12_trustBehind_46 : decode cX12_trustBehind 46 = .ok (.invokevirtual 263, 3) := by decide +kernel
theorem dX12_trustBehind_49 : decode cX12_trustBehind 49 = .ok (.ireturn, 1) := by decide +kernel
theorem dX12_leftWith_0 : decode cX12_leftWith 0 = .ok (.aload_n 0, 1) := by decide +kernel
theorem dX12_leftWith_1 : decode cX12_leftWith 1 = .ok (.iload_n 1, 1) := by decide +kernel
theorem dX12_leftWith_2 : decode cX12_leftWith 2 = .ok (.iload_n 2, 1) := by decide +kernel
theorem dX12_leftWith_3 : decode cX12_leftWith 3 = .ok (.invokevirtual 148, 3) := by decide +kernel
theorem dX12_leftWith_6 : decode cX12_leftWith 6 = .ok (.ifCond .eq 7, 3) := by decide +kernel
theorem dX12_leftWith_9 : decode cX12_leftWith 9 = .ok (.iconst 0, 1) := by decide +kernel
theorem dX12_leftWith_10 : decode cX12_leftWith 10 = .ok (.goto 13, 3) := by decide +kernel
theorem dX12_leftWith_13 : decode cX12_leftWith 13 = .ok (.aload_n 0, 1) := by decide +kernel
theorem dX12_leftWith_14 : decode cX12_leftWith 14 = .ok (.getfield 10, 3) := by decide +kernel
theorem dX12_leftWith_17 : decode cX12_leftWith 17 = .ok (.iload_n 1, 1) := by decide +kernel
theorem dX12_leftWith_18 : decode cX12_leftWith 18 = .ok (.iload_n 2, 1) := by decide +kernel
theorem dX12_leftWith_19 : decode cX12_leftWith 19 = .ok (.iconst 1, 1) := by decide +kernel
theorem dX12_leftWith_20 : decode cX12_leftWith 20 = .ok (.invokevirtual 163, 3) := by decide +kernel
theorem dX12_leftWith_23 : decode cX12_leftWith 23 = .ok (.ireturn, 1) := by decide +kernel
theorem dX12_add_0 : decode cX12_add 0 = .ok (.lload_n 0, 1) := by decide +kernel
theorem dX12_add_1 : decode cX12_add 1 = .ok (.ldc2_w 266, 3) := by decide +kernel
theorem dX12_add_4 : decode cX12_add 4 = .ok (.lmul, 1) := by decide +kernel
theorem dX12_add_5 : decode cX12_add 5 = .ok (.lload_n 2, 1) := by decide +kernel
theorem dX12_add_6 : decode cX12_add 6 = .ok (.ladd, 1) := by decide +kernel
theorem dX12_add_7 : decode cX12_add 7 = .ok (.lreturn, 1) := by decide +kernel
theorem dX12_digest_0 : decode cX12_digest 0 = .ok (.aload_n 0, 1) := by decide +kernel
theorem dX12_digest_1 : decode cX12_digest 1 = .ok (.iconst 0, 1) := by decide +kernel
theorem dX12_digest_2 : decode cX12_digest 2 = .ok (.putfield 16, 3) := by decide +kernel
theorem dX12_digest_5 : decode cX12_digest 5 = .ok (.ldc2_w 268, 3) := by decide +kernel
theorem dX12_digest_8 : decode cX12_digest 8 = .ok (.lstore_n 1, 1) := by decide +kernel
theorem dX12_digest_9 : decode cX12_digest 9 = .ok (.iconst 0, 1) := by decide +kernel
theorem dX12_digest_10 : decode cX12_digest 10 = .ok (.istore_n 3, 1) := by decide +kernel
theorem dX12_digest_11 : decode cX12_digest 11 = .ok (.iload_n 3, 1) := by decide +kernel
theorem dX12_digest_12 : decode cX12_digest 12 = .ok (.bipush 13, 2) := by decide +kernel
theorem dX12_digest_14 : decode cX12_digest 14 = .ok (.if_icmp .ge 20, 3) := by decide +kernel
theorem dX12_digest_17 : decode cX12_digest 17 = .ok (.lload_n 1, 1) := by decide +kernel
theorem dX12_digest_18 : decode cX12_digest 18 = .ok (.aload_n 0, 1) := by decide +kernel
theorem dX12_digest_19 : decode cX12_digest 19 = .ok (.iload_n 3, 1) := by decide +kernel
theorem dX12_digest_20 : decode cX12_digest 20 = .ok (.invokevirtual 257, 3) := by decide +kernel
theorem dX12_digest_23 : decode cX12_digest 23 = .ok (.i2l, 1) := by decide +kernel
theorem dX12_digest_24 : decode cX12_digest 24 = .ok (.invokestatic 270, 3) := by decide +kernel
theorem dX12_digest_27 : decode cX12_digest 27 = .ok (.lstore_n 1, 1) := by decide +kernel
theorem dX12_digest_28 : decode cX12_digest 28 = .ok (.iinc 3 1, 3) := by decide +kernel
theorem dX12_digest_31 : decode cX12_digest 31 = .ok (.goto (-20), 3) := by decide +kernel
theorem dX12_digest_34 : decode cX12_digest 34 = .ok (.iconst 0, 1) := by decide +kernel
theorem dX12_digest_35 : decode cX12_digest 35 = .ok (.istore_n 3, 1) := by decide +kernel
theorem dX12_digest_36 : decode cX12_digest 36 = .ok (.iload_n 3, 1) := by decide +kernel
theorem dX12_digest_37 : decode cX12_digest 37 = .ok (.aload_n 0, 1) := by decide +kernel
theorem dX12_digest_38 : decode cX12_digest 38 = .ok (.getfield 10, 3) := by decide +kernel
theorem dX12_digest_41 : decode cX12_digest 41 = .ok (.getfield 24, 3) := by decide +kernel
theorem dX12_digest_44 : decode cX12_digest 44 = .ok (.invokevirtual 28, 3) := by decide +kernel
theorem dX12_digest_47 : decode cX12_digest 47 = .ok (.if_icmp .ge 85, 3) := by decide +kernel
theorem dX12_digest_50 : decode cX12_digest 50 = .ok (.iconst 0, 1) := by decide +kernel
theorem dX12_digest_51 : decode cX12_digest 51 = .ok (.istore 4, 2) := by decide +kernel
theorem dX12_digest_53 : decode cX12_digest 53 = .ok (.iload 4, 2) := by decide +kernel
theorem dX12_digest_55 : decode cX12_digest 55 = .ok (.bipush 7, 2) := by decide +kernel
theorem dX12_digest_57 : decode cX12_digest 57 = .ok (.if_icmp .ge 22, 3) := by decide +kernel
theorem dX12_digest_60 : decode cX12_digest 60 = .ok (.lload_n 1, 1) := by decide +kernel
theorem dX12_digest_61 : decode cX12_digest 61 = .ok (.aload_n 0, 1) := by decide +kernel
theorem dX12_digest_62 : decode cX12_digest 62 = .ok (.iload_n 3, 1) := by decide +kernel
theorem dX12_digest_63 : decode cX12_digest 63 = .ok (.iload 4, 2) := by decide +kernel
theorem dX12_digest_65 : decode cX12_digest 65 = .ok (.invokevirtual 140, 3) := by decide +kernel
theorem dX12_digest_68 : decode cX12_digest 68 = .ok (.i2l, 1) := by decide +kernel
theorem dX12_digest_69 : decode cX12_digest 69 = .ok (.invokestatic 270, 3) := by decide +kernel
theorem dX12_digest_72 : decode cX12_digest 72 = .ok (.lstore_n 1, 1) := by decide +kernel
theorem dX12_digest_73 : decode cX12_digest 73 = .ok (.iinc 4 1, 3) := by decide +kernel
theorem dX12_digest_76 : decode cX12_digest 76 = .ok (.goto (-23), 3) := by decide +kernel
theorem dX12_digest_79 : decode cX12_digest 79 = .ok (.iconst 0, 1) := by decide +kernel
theorem dX12_digest_80 : decode cX12_digest 80 = .ok (.istore 4, 2) := by decide +kernel
theorem dX12_digest_82 : decode cX12_digest 82 = .ok (.iload 4, 2) := by decide +kernel
theorem dX12_digest_84 : decode cX12_digest 84 = .ok (.iconst 4, 1) := by decide +kernel
theorem dX12_digest_85 : decode cX12_digest 85 = .ok (.if_icmp .ge 41, 3) := by decide +kernel
theorem dX12_digest_88 : decode cX12_digest 88 = .ok (.lload_n 1, 1) := by decide +kernel
theorem dX12_digest_89 : decode cX12_digest 89 = .ok (.aload_n 0, 1) := by decide +kernel
theorem dX12_digest_90 : decode cX12_digest 90 = .ok (.getfield 10, 3) := by decide +kernel
theorem dX12_digest_93 : decode cX12_digest 93 = .ok (.iload_n 3, 1) := by decide +kernel
theorem dX12_digest_94 : decode cX12_digest 94 = .ok (.iload 4, 2) := by decide +kernel
theorem dX12_digest_96 : decode cX12_digest 96 = .ok (.iconst 0, 1) := by decide +kernel
theorem dX12_digest_97 : decode cX12_digest 97 = .ok (.invokevirtual 144, 3) := by decide +kernel
theorem dX12_digest_100 : decode cX12_digest 100 = .ok (.i2l, 1) := by decide +kernel
theorem dX12_digest_101 : decode cX12_digest 101 = .ok (.invokestatic 270, 3) := by decide +kernel
theorem dX12_digest_104 : decode cX12_digest 104 = .ok (.aload_n 0, 1) := by decide +kernel
theorem dX12_digest_105 : decode cX12_digest 105 = .ok (.getfield 10, 3) := by decide +kernel
theorem dX12_digest_108 : decode cX12_digest 108 = .ok (.iload_n 3, 1) := by decide +kernel
theorem dX12_digest_109 : decode cX12_digest 109 = .ok (.iload 4, 2) := by decide +kernel
theorem dX12_digest_111 : decode cX12_digest 111 = .ok (.iconst 1, 1) := by decide +kernel
theorem dX12_digest_112 : decode cX12_digest 112 = .ok (.invokevirtual 144, 3) := by decide +kernel
theorem dX12_digest_115 : decode cX12_digest 115 = .ok (.i2l, 1) := by decide +kernel
theorem dX12_digest_116 : decode cX12_digest 116 = .ok (.invokestatic 270, 3) := by decide +kernel
theorem dX12_digest_119 : decode cX12_digest 119 = .ok (.lstore_n 1, 1) := by decide +kernel
theorem dX12_digest_120 : decode cX12_digest 120 = .ok (.iinc 4 1, 3) := by decide +kernel
theorem dX12_digest_123 : decode cX12_digest 123 = .ok (.goto (-41), 3) := by decide +kernel
theorem dX12_digest_126 : decode cX12_digest 126 = .ok (.iinc 3 1, 3) := by decide +kernel
theorem dX12_digest_129 : decode cX12_digest 129 = .ok (.goto (-93), 3) := by decide +kernel
theorem dX12_digest_132 : decode cX12_digest 132 = .ok (.iconst 0, 1) := by decide +kernel
theorem dX12_digest_133 : decode cX12_digest 133 = .ok (.istore_n 3, 1) := by decide +kernel
theorem dX12_digest_134 : decode cX12_digest 134 = .ok (.iload_n 3, 1) := by decide +kernel
theorem dX12_digest_135 : decode cX12_digest 135 = .ok (.iconst 4, 1) := by decide +kernel
theorem dX12_digest_136 : decode cX12_digest 136 = .ok (.if_icmp .ge 56, 3) := by decide +kernel
theorem dX12_digest_139 : decode cX12_digest 139 = .ok (.iconst 0, 1) := by decide +kernel
theorem dX12_digest_140 : decode cX12_digest 140 = .ok (.istore 4, 2) := by decide +kernel
theorem dX12_digest_142 : decode cX12_digest 142 = .ok (.iload 4, 2) := by decide +kernel
theorem dX12_digest_144 : decode cX12_digest 144 = .ok (.iconst 4, 1) := by decide +kernel
theorem dX12_digest_145 : decode cX12_digest 145 = .ok (.if_icmp .ge 41, 3) := by decide +kernel
theorem dX12_digest_148 : decode cX12_digest 148 = .ok (.lload_n 1, 1) := by decide +kernel
theorem dX12_digest_149 : decode cX12_digest 149 = .ok (.aload_n 0, 1) := by decide +kernel
theorem dX12_digest_150 : decode cX12_digest 150 = .ok (.getfield 10, 3) := by decide +kernel
theorem dX12_digest_153 : decode cX12_digest 153 = .ok (.iload_n 3, 1) := by decide +kernel
theorem dX12_digest_154 : decode cX12_digest 154 = .ok (.iload 4, 2) := by decide +kernel
theorem dX12_digest_156 : decode cX12_digest 156 = .ok (.iconst 0, 1) := by decide +kernel
theorem dX12_digest_157 : decode cX12_digest 157 = .ok (.invokevirtual 163, 3) := by decide +kernel
theorem dX12_digest_160 : decode cX12_digest 160 = .ok (.i2l, 1) := by decide +kernel
theorem dX12_digest_161 : decode cX12_digest 161 = .ok (.invokestatic 270, 3) := by decide +kernel
theorem dX12_digest_164 : decode cX12_digest 164 = .ok (.aload_n 0, 1) := by decide +kernel
theorem dX12_digest_165 : decode cX12_digest 165 = .ok (.getfield 10, 3) := by decide +kernel
theorem dX12_digest_168 : decode cX12_digest 168 = .ok (.iload_n 3, 1) := by decide +kernel
theorem dX12_digest_169 : decode cX12_digest 169 = .ok (.iload 4, 2) := by decide +kernel
theorem dX12_digest_171 : decode cX12_digest 171 = .ok (.iconst 1, 1) := by decide +kernel
theorem dX12_digest_172 : decode cX12_digest 172 = .ok (.invokevirtual 163, 3) := by decide +kernel
theorem dX12_digest_175 : decode cX12_digest 175 = .ok (.i2l, 1) := by decide +kernel
theorem dX12_digest_176 : decode cX12_digest 176 = .ok (.invokestatic 270, 3) := by decide +kernel
theorem dX12_digest_179 : decode cX12_digest 179 = .ok (.lstore_n 1, 1) := by decide +kernel
theorem dX12_digest_180 : decode cX12_digest 180 = .ok (.iinc 4 1, 3) := by decide +kernel
theorem dX12_digest_183 : decode cX12_digest 183 = .ok (.goto (-41), 3) := by decide +kernel
theorem dX12_digest_186 : decode cX12_digest 186 = .ok (.iinc 3 1, 3) := by decide +kernel
theorem dX12_digest_189 : decode cX12_digest 189 = .ok (.goto (-55), 3) := by decide +kernel
theorem dX12_digest_192 : decode cX12_digest 192 = .ok (.iconst 0, 1) := by decide +kernel
theorem dX12_digest_193 : decode cX12_digest 193 = .ok (.istore_n 3, 1) := by decide +kernel
theorem dX12_digest_194 : decode cX12_digest 194 = .ok (.iload_n 3, 1) := by decide +kernel
theorem dX12_digest_195 : decode cX12_digest 195 = .ok (.aload_n 0, 1) := by decide +kernel
theorem dX12_digest_196 : decode cX12_digest 196 = .ok (.getfield 10, 3) := by decide +kernel
theorem dX12_digest_199 : decode cX12_digest 199 = .ok (.getfield 95, 3) := by decide +kernel
theorem dX12_digest_202 : decode cX12_digest 202 = .ok (.invokevirtual 28, 3) := by decide +kernel
theorem dX12_digest_205 : decode cX12_digest 205 = .ok (.if_icmp .ge 42, 3) := by decide +kernel
theorem dX12_digest_208 : decode cX12_digest 208 = .ok (.iconst 0, 1) := by decide +kernel
theorem dX12_digest_209 : decode cX12_digest 209 = .ok (.istore 4, 2) := by decide +kernel
theorem dX12_digest_211 : decode cX12_digest 211 = .ok (.iload 4, 2) := by decide +kernel
theorem dX12_digest_213 : decode cX12_digest 213 = .ok (.bipush 12, 2) := by decide +kernel
theorem dX12_digest_215 : decode cX12_digest 215 = .ok (.if_icmp .ge 26, 3) := by decide +kernel
theorem dX12_digest_218 : decode cX12_digest 218 = .ok (.lload_n 1, 1) := by decide +kernel
theorem dX12_digest_219 : decode cX12_digest 219 = .ok (.aload_n 0, 1) := by decide +kernel
theorem dX12_digest_220 : decode cX12_digest 220 = .ok (.aload_n 0, 1) := by decide +kernel
theorem dX12_digest_221 : decode cX12_digest 221 = .ok (.iload_n 3, 1) := by decide +kernel
theorem dX12_digest_222 : decode cX12_digest 222 = .ok (.invokevirtual 198, 3) := by decide +kernel
theorem dX12_digest_225 : decode cX12_digest 225 = .ok (.iload 4, 2) := by decide +kernel
theorem dX12_digest_227 : decode cX12_digest 227 = .ok (.invokevirtual 236, 3) := by decide +kernel
theorem dX12_digest_230 : decode cX12_digest 230 = .ok (.i2l, 1) := by decide +kernel
theorem dX12_digest_231 : decode cX12_digest 231 = .ok (.invokestatic 270, 3) := by decide +kernel
theorem dX12_digest_234 : decode cX12_digest 234 = .ok (.lstore_n 1, 1) := by decide +kernel
theorem dX12_digest_235 : decode cX12_digest 235 = .ok (.iinc 4 1, 3) := by decide +kernel
theorem dX12_digest_238 : decode cX12_digest 238 = .ok (.goto (-27), 3) := by decide +kernel
theorem dX12_digest_241 : decode cX12_digest 241 = .ok (.iinc 3 1, 3) := by decide +kernel
theorem dX12_digest_244 : decode cX12_digest 244 = .ok (.goto (-50), 3) := by decide +kernel
theorem dX12_digest_247 : decode cX12_digest 247 = .ok (.iconst 0, 1) := by decide +kernel
theorem dX12_digest_248 : decode cX12_digest 248 = .ok (.istore_n 3, 1) := by decide +kernel
theorem dX12_digest_249 : decode cX12_digest 249 = .ok (.iload_n 3, 1) := by decide +kernel
theorem dX12_digest_250 : decode cX12_digest 250 = .ok (.aload_n 0, 1) := by decide +kernel
theorem dX12_digest_251 : decode cX12_digest 251 = .ok (.getfield 10, 3) := by decide +kernel
theorem dX12_digest_254 : decode cX12_digest 254 = .ok (.getfield 185, 3) := by decide +kernel
theorem dX12_digest_257 : decode cX12_digest 257 = .ok (.invokevirtual 28, 3) := by decide +kernel
theorem dX12_digest_260 : decode cX12_digest 260 = .ok (.if_icmp .ge 32, 3) := by decide +kernel
theorem dX12_digest_263 : decode cX12_digest 263 = .ok (.lload_n 1, 1) := by decide +kernel
theorem dX12_digest_264 : decode cX12_digest 264 = .ok (.aload_n 0, 1) := by decide +kernel
theorem dX12_digest_265 : decode cX12_digest 265 = .ok (.getfield 10, 3) := by decide +kernel
theorem dX12_digest_268 : decode cX12_digest 268 = .ok (.getfield 185, 3) := by decide +kernel
theorem dX12_digest_271 : decode cX12_digest 271 = .ok (.iload_n 3, 1) := by decide +kernel
theorem dX12_digest_272 : decode cX12_digest 272 = .ok (.invokevirtual 38, 3) := by decide +kernel
theorem dX12_digest_275 : decode cX12_digest 275 = .ok (.checkcast 188, 3) := by decide +kernel
theorem dX12_digest_278 : decode cX12_digest 278 = .ok (.getfield 193, 3) := by decide +kernel
theorem dX12_digest_281 : decode cX12_digest 281 = .ok (.i2l, 1) := by decide +kernel
theorem dX12_digest_282 : decode cX12_digest 282 = .ok (.invokestatic 270, 3) := by decide +kernel
theorem dX12_digest_285 : decode cX12_digest 285 = .ok (.lstore_n 1, 1) := by decide +kernel
theorem dX12_digest_286 : decode cX12_digest 286 = .ok (.iinc 3 1, 3) := by decide +kernel
theorem dX12_digest_289 : decode cX12_digest 289 = .ok (.goto (-40), 3) := by decide +kernel
theorem dX12_digest_292 : decode cX12_digest 292 = .ok (.iconst 0, 1) := by decide +kernel
theorem dX12_digest_293 : decode cX12_digest 293 = .ok (.istore_n 3, 1) := by decide +kernel
theorem dX12_digest_294 : decode cX12_digest 294 = .ok (.iload_n 3, 1) := by decide +kernel
theorem dX12_digest_295 : decode cX12_digest 295 = .ok (.aload_n 0, 1) := by decide +kernel
theorem dX12_digest_296 : decode cX12_digest 296 = .ok (.getfield 10, 3) := by decide +kernel
theorem dX12_digest_299 : decode cX12_digest 299 = .ok (.getfield 24, 3) := by decide +kernel
theorem dX12_digest_302 : decode cX12_digest 302 = .ok (.invokevirtual 28, 3) := by decide +kernel
theorem dX12_digest_305 : decode cX12_digest 305 = .ok (.if_icmp .ge 25, 3) := by decide +kernel
theorem dX12_digest_308 : decode cX12_digest 308 = .ok (.lload_n 1, 1) := by decide +kernel
theorem dX12_digest_309 : decode cX12_digest 309 = .ok (.aload_n 0, 1) := by decide +kernel
theorem dX12_digest_310 : decode cX12_digest 310 = .ok (.getfield 10, 3) := by decide +kernel
theorem dX12_digest_313 : decode cX12_digest 313 = .ok (.iload_n 3, 1) := by decide +kernel
theorem dX12_digest_314 : decode cX12_digest 314 = .ok (.bipush 20, 2) := by decide +kernel
theorem dX12_digest_316 : decode cX12_digest 316 = .ok (.invokevirtual 263, 3) := by decide +kernel
theorem dX12_digest_319 : decode cX12_digest 319 = .ok (.i2l, 1) := by decide +kernel
theorem dX12_digest_320 : decode cX12_digest 320 = .ok (.invokestatic 270, 3) := by decide +kernel
theorem dX12_digest_323 : decode cX12_digest 323 = .ok (.lstore_n 1, 1) := by decide +kernel
theorem dX12_digest_324 : decode cX12_digest 324 = .ok (.iinc 3 1, 3) := by decide +kernel
theorem dX12_digest_327 : decode cX12_digest 327 = .ok (.goto (-33), 3) := by decide +kernel
theorem dX12_digest_330 : decode cX12_digest 330 = .ok (.lload_n 1, 1) := by decide +kernel
theorem dX12_digest_331 : decode cX12_digest 331 = .ok (.lreturn, 1) := by decide +kernel
theorem dJ9_abs_0f7a4_0 : decode cJ9_abs_0f7a4 0 = .ok (.iload_n 0, 1) := by decide +kernel
theorem dJ9_abs_0f7a4_1 : decode cJ9_abs_0f7a4 1 = .ok (.ifCond .ge 8, 3) := by decide +kernel
theorem dJ9_abs_0f7a4_4 : decode cJ9_abs_0f7a4 4 = .ok (.iload_n 0, 1) := by decide +kernel
theorem dJ9_abs_0f7a4_5 : decode cJ9_abs_0f7a4 5 = .ok (.ineg, 1) := by decide +kernel
theorem dJ9_abs_0f7a4_6 : decode cJ9_abs_0f7a4 6 = .ok (.goto 4, 3) := by decide +kernel
theorem dJ9_abs_0f7a4_9 : decode cJ9_abs_0f7a4 9 = .ok (.iload_n 0, 1) := by decide +kernel
theorem dJ9_abs_0f7a4_10 : decode cJ9_abs_0f7a4 10 = .ok (.ireturn, 1) := by decide +kernel
theorem dJ9_max_7cf53_0 : decode cJ9_max_7cf53 0 = .ok (.iload_n 0, 1) := by decide +kernel
theorem dJ9_max_7cf53_1 : decode cJ9_max_7cf53 1 = .ok (.iload_n 1, 1) := by decide +kernel
theorem dJ9_max_7cf53_2 : decode cJ9_max_7cf53 2 = .ok (.if_icmp .lt 7, 3) := by decide +kernel
theorem dJ9_max_7cf53_5 : decode cJ9_max_7cf53 5 = .ok (.iload_n 0, 1) := by decide +kernel
theorem dJ9_max_7cf53_6 : decode cJ9_max_7cf53 6 = .ok (.goto 4, 3) := by decide +kernel
theorem dJ9_max_7cf53_9 : decode cJ9_max_7cf53 9 = .ok (.iload_n 1, 1) := by decide +kernel
theorem dJ9_max_7cf53_10 : decode cJ9_max_7cf53 10 = .ok (.ireturn, 1) := by decide +kernel
theorem dJ9_min_7cf53_0 : decode cJ9_min_7cf53 0 = .ok (.iload_n 0, 1) := by decide +kernel
theorem dJ9_min_7cf53_1 : decode cJ9_min_7cf53 1 = .ok (.iload_n 1, 1) := by decide +kernel
theorem dJ9_min_7cf53_2 : decode cJ9_min_7cf53 2 = .ok (.if_icmp .gt 7, 3) := by decide +kernel
theorem dJ9_min_7cf53_5 : decode cJ9_min_7cf53 5 = .ok (.iload_n 0, 1) := by decide +kernel
theorem dJ9_min_7cf53_6 : decode cJ9_min_7cf53 6 = .ok (.goto 4, 3) := by decide +kernel
theorem dJ9_min_7cf53_9 : decode cJ9_min_7cf53 9 = .ok (.iload_n 1, 1) := by decide +kernel
theorem dJ9_min_7cf53_10 : decode cJ9_min_7cf53 10 = .ok (.ireturn, 1) := by decide +kernel
theorem dJxa1e45_init_da8c8_0 : decode cJxa1e45_init_da8c8 0 = .ok (.aload_n 0, 1) := by decide +kernel
theorem dJxa1e45_init_da8c8_1 : decode cJxa1e45_init_da8c8 1 = .ok (.invokespecial 1, 3) := by decide +kernel
theorem dJxa1e45_init_da8c8_4 : decode cJxa1e45_init_da8c8 4 = .ok (.return_, 1) := by decide +kernel
theorem dJxc12de_init_da8c8_0 : decode cJxc12de_init_da8c8 0 = .ok (.aload_n 0, 1) := by decide +kernel
theorem dJxc12de_init_da8c8_1 : decode cJxc12de_init_da8c8 1 = .ok (.invokespecial 1, 3) := by decide +kernel
theorem dJxc12de_init_da8c8_4 : decode cJxc12de_init_da8c8 4 = .ok (.aload_n 0, 1) := by decide +kernel
theorem dJxc12de_init_da8c8_5 : decode cJxc12de_init_da8c8 5 = .ok (.iconst 0, 1) := by decide +kernel
theorem dJxc12de_init_da8c8_6 : decode cJxc12de_init_da8c8 6 = .ok (.putfield 7, 3) := by decide +kernel
theorem dJxc12de_init_da8c8_9 : decode cJxc12de_init_da8c8 9 = .ok (.return_, 1) := by decide +kernel
theorem dJx4a65c_init_da8c8_0 : decode cJx4a65c_init_da8c8 0 = .ok (.aload_n 0, 1) := by decide +kernel
theorem dJx4a65c_init_da8c8_1 : decode cJx4a65c_init_da8c8 1 = .ok (.invokespecial 1, 3) := by decide +kernel
theorem dJx4a65c_init_da8c8_4 : decode cJx4a65c_init_da8c8 4 = .ok (.aload_n 0, 1) := by decide +kernel
theorem dJx4a65c_init_da8c8_5 : decode cJx4a65c_init_da8c8 5 = .ok (.getstatic 39, 3) := by decide +kernel
theorem dJx4a65c_init_da8c8_8 : decode cJx4a65c_init_da8c8 8 = .ok (.putfield 9, 3) := by decide +kernel
theorem dJx4a65c_init_da8c8_11 : decode cJx4a65c_init_da8c8 11 = .ok (.return_, 1) := by decide +kernel
theorem dJx4a65c_grow_92f84_0 : decode cJx4a65c_grow_92f84 0 = .ok (.aload_n 0, 1) := by decide +kernel
theorem dJx4a65c_grow_92f84_1 : decode cJx4a65c_grow_92f84 1 = .ok (.getfield 9, 3) := by decide +kernel
theorem dJx4a65c_grow_92f84_4 : decode cJx4a65c_grow_92f84 4 = .ok (.arraylength, 1) := by decide +kernel
theorem dJx4a65c_grow_92f84_5 : decode cJx4a65c_grow_92f84 5 = .ok (.istore_n 2, 1) := by decide +kernel
theorem dJx4a65c_grow_92f84_6 : decode cJx4a65c_grow_92f84 6 = .ok (.iload_n 2, 1) := by decide +kernel
theorem dJx4a65c_grow_92f84_7 : decode cJx4a65c_grow_92f84 7 = .ok (.ifCond .gt 13, 3) := by decide +kernel
theorem dJx4a65c_grow_92f84_10 : decode cJx4a65c_grow_92f84 10 = .ok (.aload_n 0, 1) := by decide +kernel
theorem dJx4a65c_grow_92f84_11 : decode cJx4a65c_grow_92f84 11 = .ok (.getfield 9, 3) := by decide +kernel
theorem dJx4a65c_grow_92f84_14 : decode cJx4a65c_grow_92f84 14 = .ok (.getstatic 39, 3) := by decide +kernel
theorem dJx4a65c_grow_92f84_17 : decode cJx4a65c_grow_92f84 17 = .ok (.if_acmp .eq 28, 3) := by decide +kernel
theorem dJx4a65c_grow_92f84_20 : decode cJx4a65c_grow_92f84 20 = .ok (.iload_n 2, 1) := by decide +kernel
theorem dJx4a65c_grow_92f84_21 : decode cJx4a65c_grow_92f84 21 = .ok (.iload_n 1, 1) := by decide +kernel
theorem dJx4a65c_grow_92f84_22 : decode cJx4a65c_grow_92f84 22 = .ok (.iload_n 2, 1) := by decide +kernel
theorem dJx4a65c_grow_92f84_23 : decode cJx4a65c_grow_92f84 23 = .ok (.isub, 1) := by decide +kernel
theorem dJx4a65c_grow_92f84_24 : decode cJx4a65c_grow_92f84 24 = .ok (.iload_n 2, 1) := by decide +kernel
theorem dJx4a65c_grow_92f84_25 : decode cJx4a65c_grow_92f84 25 = .ok (.iconst 1, 1) := by decide +kernel
theorem dJx4a65c_grow_92f84_26 : decode cJx4a65c_grow_92f84 26 = .ok (.ishr, 1) := by decide +kernel
theorem dJx4a65c_grow_92f84_27 : decode cJx4a65c_grow_92f84 27 = .ok (.invokestatic 73, 3) := by decide +kernel
theorem dJx4a65c_grow_92f84_30 : decode cJx4a65c_grow_92f84 30 = .ok (.istore_n 3, 1) := by decide +kernel
theorem dJx4a65c_grow_92f84_31 : decode cJx4a65c_grow_92f84 31 = .ok (.aload_n 0, 1) := by decide +kernel
theorem dJx4a65c_grow_92f84_32 : decode cJx4a65c_grow_92f84 32 = .ok (.aload_n 0, 1) := by decide +kernel
theorem dJx4a65c_grow_92f84_33 : decode cJx4a65c_grow_92f84 33 = .ok (.getfield 9, 3) := by decide +kernel
theorem dJx4a65c_grow_92f84_36 : decode cJx4a65c_grow_92f84 36 = .ok (.iload_n 3, 1) := by decide +kernel
theorem dJx4a65c_grow_92f84_37 : decode cJx4a65c_grow_92f84 37 = .ok (.invokestatic 66, 3) := by decide +kernel
theorem dJx4a65c_grow_92f84_40 : decode cJx4a65c_grow_92f84 40 = .ok (.dup_x1, 1) := by decide +kernel
theorem dJx4a65c_grow_92f84_41 : decode cJx4a65c_grow_92f84 41 = .ok (.putfield 9, 3) := by decide +kernel
theorem dJx4a65c_grow_92f84_44 : decode cJx4a65c_grow_92f84 44 = .ok (.areturn, 1) := by decide +kernel
theorem dJx4a65c_grow_92f84_45 : decode cJx4a65c_grow_92f84 45 = .ok (.aload_n 0, 1) := by decide +kernel
theorem dJx4a65c_grow_92f84_46 : decode cJx4a65c_grow_92f84 46 = .ok (.bipush 10, 2) := by decide +kernel
theorem dJx4a65c_grow_92f84_48 : decode cJx4a65c_grow_92f84 48 = .ok (.iload_n 1, 1) := by decide +kernel
theorem dJx4a65c_grow_92f84_49 : decode cJx4a65c_grow_92f84 49 = .ok (.invokestatic 79, 3) := by decide +kernel
theorem dJx4a65c_grow_92f84_52 : decode cJx4a65c_grow_92f84 52 = .ok (.anewarray 7, 3) := by decide +kernel
theorem dJx4a65c_grow_92f84_55 : decode cJx4a65c_grow_92f84 55 = .ok (.dup_x1, 1) := by decide +kernel
theorem dJx4a65c_grow_92f84_56 : decode cJx4a65c_grow_92f84 56 = .ok (.putfield 9, 3) := by decide +kernel
theorem dJx4a65c_grow_92f84_59 : decode cJx4a65c_grow_92f84 59 = .ok (.areturn, 1) := by decide +kernel
theorem dJx4a65c_grow_d5877_0 : decode cJx4a65c_grow_d5877 0 = .ok (.aload_n 0, 1) := by decide +kernel
theorem dJx4a65c_grow_d5877_1 : decode cJx4a65c_grow_d5877 1 = .ok (.aload_n 0, 1) := by decide +kernel
theorem dJx4a65c_grow_d5877_2 : decode cJx4a65c_grow_d5877 2 = .ok (.getfield 48, 3) := by decide +kernel
theorem dJx4a65c_grow_d5877_5 : decode cJx4a65c_grow_d5877 5 = .ok (.iconst 1, 1) := by decide +kernel
theorem dJx4a65c_grow_d5877_6 : decode cJx4a65c_grow_d5877 6 = .ok (.iadd, 1) := by decide +kernel
theorem dJx4a65c_grow_d5877_7 : decode cJx4a65c_grow_d5877 7 = .ok (.invokevirtual 69, 3) := by decide +kernel
theorem dJx4a65c_grow_d5877_10 : decode cJx4a65c_grow_d5877 10 = .ok (.areturn, 1) := by decide +kernel
theorem dJx4a65c_size_8abf5_0 : decode cJx4a65c_size_8abf5 0 = .ok (.aload_n 0, 1) := by decide +kernel
theorem dJx4a65c_size_8abf5_1 : decode cJx4a65c_size_8abf5 1 = .ok (.getfield 48, 3) := by decide +kernel
theorem dJx4a65c_size_8abf5_4 : decode cJx4a65c_size_8abf5 4 = .ok (.ireturn, 1) := by decide +kernel
theorem dJx4a65c_isEmpty_aae02_0 : decode cJx4a65c_isEmpty_aae02 0 = .ok (.aload_n 0, 1) := by decide +kernel
theorem dJx4a65c_isEmpty_aae02_1 : decode cJx4a65c_isEmpty_aae02 1 = .ok (.getfield 48, 3) := by decide +kernel
theorem dJx4a65c_isEmpty_aae02_4 : decode cJx4a65c_isEmpty_aae02 4 = .ok (.ifCond .ne 7, 3) := by decide +kernel
theorem dJx4a65c_isEmpty_aae02_7 : decode cJx4a65c_isEmpty_aae02 7 = .ok (.iconst 1, 1) := by decide +kernel
theorem dJx4a65c_isEmpty_aae02_8 : decode cJx4a65c_isEmpty_aae02 8 = .ok (.goto 4, 3) := by decide +kernel
theorem dJx4a65c_isEmpty_aae02_11 : decode cJx4a65c_isEmpty_aae02 11 = .ok (.iconst 0, 1) := by decide +kernel
theorem dJx4a65c_isEmpty_aae02_12 : decode cJx4a65c_isEmpty_aae02 12 = .ok (.ireturn, 1) := by decide +kernel
theorem dJx4a65c_elementData_915e3_0 : decode cJx4a65c_elementData_915e3 0 = .ok (.aload_n 0, 1) := by decide +kernel
theorem dJx4a65c_elementData_915e3_1 : decode cJx4a65c_elementData_915e3 1 = .ok (.getfield 9, 3) := by decide +kernel
theorem dJx4a65c_elementData_915e3_4 : decode cJx4a65c_elementData_915e3 4 = .ok (.iload_n 1, 1) := by decide +kernel
theorem dJx4a65c_elementData_915e3_5 : decode cJx4a65c_elementData_915e3 5 = .ok (.aaload, 1) := by decide +kernel
theorem dJx4a65c_elementData_915e3_6 : decode cJx4a65c_elementData_915e3 6 = .ok (.areturn, 1) := by decide +kernel
theorem dJx4a65c_get_915e3_0 : decode cJx4a65c_get_915e3 0 = .ok (.iload_n 1, 1) := by decide +kernel
theorem dJx4a65c_get_915e3_1 : decode cJx4a65c_get_915e3 1 = .ok (.aload_n 0, 1) := by decide +kernel
theorem dJx4a65c_get_915e3_2 : decode cJx4a65c_get_915e3 2 = .ok (.getfield 48, 3) := by decide +kernel
theorem dJx4a65c_get_915e3_5 : decode cJx4a65c_get_915e3 5 = .ok (.invokestatic 118, 3) := by decide +kernel
theorem dJx4a65c_get_915e3_8 : decode cJx4a65c_get_915e3 8 = .ok (.pop, 1) := by decide +kernel
theorem dJx4a65c_get_915e3_9 : decode cJx4a65c_get_915e3 9 = .ok (.aload_n 0, 1) := by decide +kernel
theorem dJx4a65c_get_915e3_10 : decode cJx4a65c_get_915e3 10 = .ok (.iload_n 1, 1) := by decide +kernel
theorem dJx4a65c_get_915e3_11 : decode cJx4a65c_get_915e3 11 = .ok (.invokevirtual 123, 3) := by decide +kernel
theorem dJx4a65c_get_915e3_14 : decode cJx4a65c_get_915e3 14 = .ok (.areturn, 1) := by decide +kernel
theorem dJx4a65c_add_72be8_0 : decode cJx4a65c_add_72be8 0 = .ok (.iload_n 3, 1) := by decide +kernel
theorem dJx4a65c_add_72be8_1 : decode cJx4a65c_add_72be8 1 = .ok (.aload_n 2, 1) := by decide +kernel
theorem dJx4a65c_add_72be8_2 : decode cJx4a65c_add_72be8 2 = .ok (.arraylength, 1) := by decide +kernel
theorem dJx4a65c_add_72be8_3 : decode cJx4a65c_add_72be8 3 = .ok (.if_icmp .ne 8, 3) := by decide +kernel
theorem dJx4a65c_add_72be8_6 : decode cJx4a65c_add_72be8 6 = .ok (.aload_n 0, 1) := by decide +kernel
theorem dJx4a65c_add_72be8_7 : decode cJx4a65c_add_72be8 7 = .ok (.invokevirtual 129, 3) := by decide +kernel
theorem dJx4a65c_add_72be8_10 : decode cJx4a65c_add_72be8 10 = .ok (.astore_n 2, 1) := by decide +kernel
theorem dJx4a65c_add_72be8_11 : decode cJx4a65c_add_72be8 11 = .ok (.aload_n 2, 1) := by decide +kernel
theorem dJx4a65c_add_72be8_12 : decode cJx4a65c_add_72be8 12 = .ok (.iload_n 3, 1) := by decide +kernel
theorem dJx4a65c_add_72be8_13 : decode cJx4a65c_add_72be8 13 = .ok (.aload_n 1, 1) := by decide +kernel
theorem dJx4a65c_add_72be8_14 : decode cJx4a65c_add_72be8 14 = .ok (.aastore, 1) := by decide +kernel
theorem dJx4a65c_add_72be8_15 : decode cJx4a65c_add_72be8 15 = .ok (.aload_n 0, 1) := by decide +kernel
theorem dJx4a65c_add_72be8_16 : decode cJx4a65c_add_72be8 16 = .ok (.iload_n 3, 1) := by decide +kernel
theorem dJx4a65c_add_72be8_17 : decode cJx4a65c_add_72be8 17 = .ok (.iconst 1, 1) := by decide +kernel
theorem dJx4a65c_add_72be8_18 : decode cJx4a65c_add_72be8 18 = .ok (.iadd, 1) := by decide +kernel
theorem dJx4a65c_add_72be8_19 : decode cJx4a65c_add_72be8 19 = .ok (.putfield 48, 3) := by decide +kernel
theorem dJx4a65c_add_72be8_22 : decode cJx4a65c_add_72be8 22 = .ok (.return_, 1) := by decide +kernel
theorem dJx4a65c_add_9ea2d_0 : decode cJx4a65c_add_9ea2d 0 = .ok (.aload_n 0, 1) := by decide +kernel
theorem dJx4a65c_add_9ea2d_1 : decode cJx4a65c_add_9ea2d 1 = .ok (.dup, 1) := by decide +kernel
theorem dJx4a65c_add_9ea2d_2 : decode cJx4a65c_add_9ea2d 2 = .ok (.getfield 63, 3) := by decide +kernel
theorem dJx4a65c_add_9ea2d_5 : decode cJx4a65c_add_9ea2d 5 = .ok (.iconst 1, 1) := by decide +kernel
theorem dJx4a65c_add_9ea2d_6 : decode cJx4a65c_add_9ea2d 6 = .ok (.iadd, 1) := by decide +kernel
theorem dJx4a65c_add_9ea2d_7 : decode cJx4a65c_add_9ea2d 7 = .ok (.putfield 63, 3) := by decide +kernel
theorem dJx4a65c_add_9ea2d_10 : decode cJx4a65c_add_9ea2d 10 = .ok (.aload_n 0, 1) := by decide +kernel
theorem dJx4a65c_add_9ea2d_11 : decode cJx4a65c_add_9ea2d 11 = .ok (.aload_n 1, 1) := by decide +kernel
theorem dJx4a65c_add_9ea2d_12 : decode cJx4a65c_add_9ea2d 12 = .ok (.aload_n 0, 1) := by decide +kernel
theorem dJx4a65c_add_9ea2d_13 : decode cJx4a65c_add_9ea2d 13 = .ok (.getfield 9, 3) := by decide +kernel
theorem dJx4a65c_add_9ea2d_16 : decode cJx4a65c_add_9ea2d 16 = .ok (.aload_n 0, 1) := by decide +kernel
theorem dJx4a65c_add_9ea2d_17 : decode cJx4a65c_add_9ea2d 17 = .ok (.getfield 48, 3) := by decide +kernel
theorem dJx4a65c_add_9ea2d_20 : decode cJx4a65c_add_9ea2d 20 = .ok (.invokevirtual 131, 3) := by decide +kernel
theorem dJx4a65c_add_9ea2d_23 : decode cJx4a65c_add_9ea2d 23 = .ok (.iconst 1, 1) := by decide +kernel
theorem dJx4a65c_add_9ea2d_24 : decode cJx4a65c_add_9ea2d 24 = .ok (.ireturn, 1) := by decide +kernel
theorem dJ7_copyOf_1904c_0 : decode cJ7_copyOf_1904c 0 = .ok (.aload_n 0, 1) := by decide +kernel
theorem dJ7_copyOf_1904c_1 : decode cJ7_copyOf_1904c 1 = .ok (.iload_n 1, 1) := by decide +kernel
theorem dJ7_copyOf_1904c_2 : decode cJ7_copyOf_1904c 2 = .ok (.aload_n 0, 1) := by decide +kernel
theorem dJ7_copyOf_1904c_3 : decode cJ7_copyOf_1904c 3 = .ok (.invokevirtual 86, 3) := by decide +kernel
theorem dJ7_copyOf_1904c_6 : decode cJ7_copyOf_1904c 6 = .ok (.invokestatic 300, 3) := by decide +kernel
theorem dJ7_copyOf_1904c_9 : decode cJ7_copyOf_1904c 9 = .ok (.areturn, 1) := by decide +kernel
theorem dJ7_copyOf_6403c_0 : decode cJ7_copyOf_6403c 0 = .ok (.aload_n 2, 1) := by decide +kernel
theorem dJ7_copyOf_6403c_1 : decode cJ7_copyOf_6403c 1 = .ok (.ldc 110, 2) := by decide +kernel
theorem dJ7_copyOf_6403c_3 : decode cJ7_copyOf_6403c 3 = .ok (.if_acmp .ne 10, 3) := by decide +kernel
theorem dJ7_copyOf_6403c_6 : decode cJ7_copyOf_6403c 6 = .ok (.iload_n 1, 1) := by decide +kernel
theorem dJ7_copyOf_6403c_7 : decode cJ7_copyOf_6403c 7 = .ok (.anewarray 2, 3) := by decide +kernel
theorem dJ7_copyOf_6403c_10 : decode cJ7_copyOf_6403c 10 = .ok (.goto 14, 3) := by decide +kernel
theorem dJ7_copyOf_6403c_13 : decode cJ7_copyOf_6403c 13 = .ok (.aload_n 2, 1) := by decide +kernel
theorem dJ7_copyOf_6403c_14 : decode cJ7_copyOf_6403c 14 = .ok (.invokevirtual 90, 3) := by decide +kernel
theorem dJ7_copyOf_6403c_17 : decode cJ7_copyOf_6403c 17 = .ok (.iload_n 1, 1) := by decide +kernel
theorem dJ7_copyOf_6403c_18 : decode cJ7_copyOf_6403c 18 = .ok (.invokestatic 95, 3) := by decide +kernel
theorem dJ7_copyOf_6403c_21 : decode cJ7_copyOf_6403c 21 = .ok (.checkcast 110, 3) := by decide +kernel
theorem dJ7_copyOf_6403c_24 : decode cJ7_copyOf_6403c 24 = .ok (.astore_n 3, 1) := by decide +kernel
theorem dJ7_copyOf_6403c_25 : decode cJ7_copyOf_6403c 25 = .ok (.aload_n 0, 1) := by decide +kernel
theorem dJ7_copyOf_6403c_26 : decode cJ7_copyOf_6403c 26 = .ok (.iconst 0, 1) := by decide +kernel
theorem dJ7_copyOf_6403c_27 : decode cJ7_copyOf_6403c 27 = .ok (.aload_n 3, 1) := by decide +kernel
theorem dJ7_copyOf_6403c_28 : decode cJ7_copyOf_6403c 28 = .ok (.iconst 0, 1) := by decide +kernel
theorem dJ7_copyOf_6403c_29 : decode cJ7_copyOf_6403c 29 = .ok (.aload_n 0, 1) := by decide +kernel
theorem dJ7_copyOf_6403c_30 : decode cJ7_copyOf_6403c 30 = .ok (.arraylength, 1) := by decide +kernel
theorem dJ7_copyOf_6403c_31 : decode cJ7_copyOf_6403c 31 = .ok (.iload_n 1, 1) := by decide +kernel
theorem dJ7_copyOf_6403c_32 : decode cJ7_copyOf_6403c 32 = .ok (.invokestatic 304, 3) := by decide +kernel
theorem dJ7_copyOf_6403c_35 : decode cJ7_copyOf_6403c 35 = .ok (.invokestatic 150, 3) := by decide +kernel
theorem dJ7_copyOf_6403c_38 : decode cJ7_copyOf_6403c 38 = .ok (.aload_n 3, 1) := by decide +kernel
theorem dJ7_copyOf_6403c_39 : decode cJ7_copyOf_6403c 39 = .ok (.areturn, 1) := by decide +kernel
theorem dJ15_checkIndex_7cf53_0 : decode cJ15_checkIndex_7cf53 0 = .ok (.iload_n 0, 1) := by decide +kernel
theorem dJ15_checkIndex_7cf53_1 : decode cJ15_checkIndex_7cf53 1 = .ok (.iload_n 1, 1) := by decide +kernel
theorem dJ15_checkIndex_7cf53_2 : decode cJ15_checkIndex_7cf53 2 = .ok (.aconst_null, 1) := by decide +kernel
theorem dJ15_checkIndex_7cf53_3 : decode cJ15_checkIndex_7cf53 3 = .ok (.invokestatic 105, 3) := by decide +kernel
theorem dJ15_checkIndex_7cf53_6 : decode cJ15_checkIndex_7cf53 6 = .ok (.ireturn, 1) := by decide +kernel
theorem dJ8_newLength_cabcc_0 : decode cJ8_newLength_cabcc 0 = .ok (.iload_n 0, 1) := by decide +kernel
theorem dJ8_newLength_cabcc_1 : decode cJ8_newLength_cabcc 1 = .ok (.iload_n 1, 1) := by decide +kernel
theorem dJ8_newLength_cabcc_2 : decode cJ8_newLength_cabcc 2 = .ok (.iload_n 2, 1) := by decide +kernel
theorem dJ8_newLength_cabcc_3 : decode cJ8_newLength_cabcc 3 = .ok (.invokestatic 194, 3) := by decide +kernel
theorem dJ8_newLength_cabcc_6 : decode cJ8_newLength_cabcc 6 = .ok (.iadd, 1) := by decide +kernel
theorem dJ8_newLength_cabcc_7 : decode cJ8_newLength_cabcc 7 = .ok (.istore_n 3, 1) := by decide +kernel
theorem dJ8_newLength_cabcc_8 : decode cJ8_newLength_cabcc 8 = .ok (.iconst 0, 1) := by decide +kernel
theorem dJ8_newLength_cabcc_9 : decode cJ8_newLength_cabcc 9 = .ok (.iload_n 3, 1) := by decide +kernel
theorem dJ8_newLength_cabcc_10 : decode cJ8_newLength_cabcc 10 = .ok (.if_icmp .ge 11, 3) := by decide +kernel
theorem dJ8_newLength_cabcc_13 : decode cJ8_newLength_cabcc 13 = .ok (.iload_n 3, 1) := by decide +kernel
theorem dJ8_newLength_cabcc_14 : decode cJ8_newLength_cabcc 14 = .ok (.ldc 200, 2) := by decide +kernel
theorem dJ8_newLength_cabcc_16 : decode cJ8_newLength_cabcc 16 = .ok (.if_icmp .gt 5, 3) := by decide +kernel
theorem dJ8_newLength_cabcc_19 : decode cJ8_newLength_cabcc 19 = .ok (.iload_n 3, 1) := by decide +kernel
theorem dJ8_newLength_cabcc_20 : decode cJ8_newLength_cabcc 20 = .ok (.ireturn, 1) := by decide +kernel
theorem dJ8_newLength_cabcc_21 : decode cJ8_newLength_cabcc 21 = .ok (.iload_n 0, 1) := by decide +kernel
theorem dJ8_newLength_cabcc_22 : decode cJ8_newLength_cabcc 22 = .ok (.iload_n 1, 1) := by decide +kernel
theorem dJ8_newLength_cabcc_23 : decode cJ8_newLength_cabcc 23 = .ok (.invokestatic 201, 3) := by decide +kernel
theorem dJ8_newLength_cabcc_26 : decode cJ8_newLength_cabcc 26 = .ok (.ireturn, 1) := by decide +kernel
theorem dJ8_hugeLength_7cf53_0 : decode cJ8_hugeLength_7cf53 0 = .ok (.iload_n 0, 1) := by decide +kernel
theorem dJ8_hugeLength_7cf53_1 : decode cJ8_hugeLength_7cf53 1 = .ok (.iload_n 1, 1) := by decide +kernel
theorem dJ8_hugeLength_7cf53_2 : decode cJ8_hugeLength_7cf53 2 = .ok (.iadd, 1) := by decide +kernel
theorem dJ8_hugeLength_7cf53_3 : decode cJ8_hugeLength_7cf53 3 = .ok (.istore_n 2, 1) := by decide +kernel
theorem dJ8_hugeLength_7cf53_4 : decode cJ8_hugeLength_7cf53 4 = .ok (.iload_n 2, 1) := by decide +kernel
theorem dJ8_hugeLength_7cf53_5 : decode cJ8_hugeLength_7cf53 5 = .ok (.ifCond .ge 44, 3) := by decide +kernel
theorem dJ8_hugeLength_7cf53_8 : decode cJ8_hugeLength_7cf53 8 = .ok (.new 204, 3) := by decide +kernel
theorem dJ8_hugeLength_7cf53_11 : decode cJ8_hugeLength_7cf53 11 = .ok (.dup, 1) := by decide +kernel
theorem dJ8_hugeLength_7cf53_12 : decode cJ8_hugeLength_7cf53 12 = .ok (.new 89, 3) := by decide +kernel
theorem dJ8_hugeLength_7cf53_15 : decode cJ8_hugeLength_7cf53 15 = .ok (.dup, 1) := by decide +kernel
theorem dJ8_hugeLength_7cf53_16 : decode cJ8_hugeLength_7cf53 16 = .ok (.invokespecial 91, 3) := by decide +kernel
theorem dJ8_hugeLength_7cf53_19 : decode cJ8_hugeLength_7cf53 19 = .ok (.ldc 206, 2) := by decide +kernel
theorem dJ8_hugeLength_7cf53_21 : decode cJ8_hugeLength_7cf53 21 = .ok (.invokevirtual 94, 3) := by decide +kernel
theorem dJ8_hugeLength_7cf53_24 : decode cJ8_hugeLength_7cf53 24 = .ok (.iload_n 0, 1) := by decide +kernel
theorem dJ8_hugeLength_7cf53_25 : decode cJ8_hugeLength_7cf53 25 = .ok (.invokevirtual 98, 3) := by decide +kernel
theorem dJ8_hugeLength_7cf53_28 : decode cJ8_hugeLength_7cf53 28 = .ok (.ldc 208, 2) := by decide +kernel
theorem dJ8_hugeLength_7cf53_30 : decode cJ8_hugeLength_7cf53 30 = .ok (.invokevirtual 94, 3) := by decide +kernel
theorem dJ8_hugeLength_7cf53_33 : decode cJ8_hugeLength_7cf53 33 = .ok (.iload_n 1, 1) := by decide +kernel
theorem dJ8_hugeLength_7cf53_34 : decode cJ8_hugeLength_7cf53 34 = .ok (.invokevirtual 98, 3) := by decide +kernel
theorem dJ8_hugeLength_7cf53_37 : decode cJ8_hugeLength_7cf53 37 = .ok (.ldc 210, 2) := by decide +kernel
theorem dJ8_hugeLength_7cf53_39 : decode cJ8_hugeLength_7cf53 39 = .ok (.invokevirtual 94, 3) := by decide +kernel
theorem dJ8_hugeLength_7cf53_42 : decode cJ8_hugeLength_7cf53 42 = .ok (.invokevirtual 101, 3) := by decide +kernel
theorem dJ8_hugeLength_7cf53_45 : decode cJ8_hugeLength_7cf53 45 = .ok (.invokespecial 212, 3) := by decide +kernel
theorem dJ8_hugeLength_7cf53_48 : decode cJ8_hugeLength_7cf53 48 = .ok (.athrow, 1) := by decide +kernel
theorem dJ8_hugeLength_7cf53_49 : decode cJ8_hugeLength_7cf53 49 = .ok (.iload_n 2, 1) := by decide +kernel
theorem dJ8_hugeLength_7cf53_50 : decode cJ8_hugeLength_7cf53 50 = .ok (.ldc 200, 2) := by decide +kernel
theorem dJ8_hugeLength_7cf53_52 : decode cJ8_hugeLength_7cf53 52 = .ok (.if_icmp .gt 6, 3) := by decide +kernel
theorem dJ8_hugeLength_7cf53_55 : decode cJ8_hugeLength_7cf53 55 = .ok (.ldc 200, 2) := by decide +kernel
theorem dJ8_hugeLength_7cf53_57 : decode cJ8_hugeLength_7cf53 57 = .ok (.ireturn, 1) := by decide +kernel
theorem dJ8_hugeLength_7cf53_58 : decode cJ8_hugeLength_7cf53 58 = .ok (.iload_n 2, 1) := by decide +kernel
theorem dJ8_hugeLength_7cf53_59 : decode cJ8_hugeLength_7cf53 59 = .ok (.ireturn, 1) := by decide +kernel
theorem dJ3_checkIndex_8e157_0 : decode cJ3_checkIndex_8e157 0 = .ok (.iload_n 0, 1) := by decide +kernel
theorem dJ3_checkIndex_8e157_1 : decode cJ3_checkIndex_8e157 1 = .ok (.ifCond .lt 8, 3) := by decide +kernel
theorem dJ3_checkIndex_8e157_4 : decode cJ3_checkIndex_8e157 4 = .ok (.iload_n 0, 1) := by decide +kernel
theorem dJ3_checkIndex_8e157_5 : decode cJ3_checkIndex_8e157 5 = .ok (.iload_n 1, 1) := by decide +kernel
theorem dJ3_checkIndex_8e157_6 : decode cJ3_checkIndex_8e157 6 = .ok (.if_icmp .lt 10, 3) := by decide +kernel
theorem dJ3_checkIndex_8e157_9 : decode cJ3_checkIndex_8e157 9 = .ok (.aload_n 2, 1) := by decide +kernel
theorem dJ3_checkIndex_8e157_10 : decode cJ3_checkIndex_8e157 10 = .ok (.iload_n 0, 1) := by decide +kernel
theorem dJ3_checkIndex_8e157_11 : decode cJ3_checkIndex_8e157 11 = .ok (.iload_n 1, 1) := by decide +kernel
theorem dJ3_checkIndex_8e157_12 : decode cJ3_checkIndex_8e157 12 = .ok (.invokestatic 95, 3) := by decide +kernel
theorem dJ3_checkIndex_8e157_15 : decode cJ3_checkIndex_8e157 15 = .ok (.athrow, 1) := by decide +kernel
theorem dJ3_checkIndex_8e157_16 : decode cJ3_checkIndex_8e157 16 = .ok (.iload_n 0, 1) := by decide +kernel
theorem dJ3_checkIndex_8e157_17 : decode cJ3_checkIndex_8e157 17 = .ok (.ireturn, 1) := by decide +kernel
theorem dL_person_0 : decode cL_person 0 = .ok (.aload_n 2, 1) := by decide +kernel
theorem dL_person_1 : decode cL_person 1 = .ok (.iconst 0, 1) := by decide +kernel
theorem dL_person_2 : decode cL_person 2 = .ok (.aload_n 0, 1) := by decide +kernel
theorem dL_person_3 : decode cL_person 3 = .ok (.iload_n 1, 1) := by decide +kernel
theorem dL_person_4 : decode cL_person 4 = .ok (.invokevirtual 7, 3) := by decide +kernel
theorem dL_person_7 : decode cL_person 7 = .ok (.i2l, 1) := by decide +kernel
theorem dL_person_8 : decode cL_person 8 = .ok (.lastore, 1) := by decide +kernel
theorem dL_person_9 : decode cL_person 9 = .ok (.goto 9, 3) := by decide +kernel
theorem dL_person_12 : decode cL_person 12 = .ok (.astore_n 3, 1) := by decide +kernel
theorem dL_person_13 : decode cL_person 13 = .ok (.iconst 1, 1) := by decide +kernel
theorem dL_person_14 : decode cL_person 14 = .ok (.ireturn, 1) := by decide +kernel
theorem dL_person_15 : decode cL_person 15 = .ok (.astore_n 3, 1) := by decide +kernel
theorem dL_person_16 : decode cL_person 16 = .ok (.iconst 2, 1) := by decide +kernel
theorem dL_person_17 : decode cL_person 17 = .ok (.ireturn, 1) := by decide +kernel
theorem dL_person_18 : decode cL_person 18 = .ok (.iconst 0, 1) := by decide +kernel
theorem dL_person_19 : decode cL_person 19 = .ok (.ireturn, 1) := by decide +kernel
theorem dL_limit_0 : decode cL_limit 0 = .ok (.aload 4, 2) := by decide +kernel
theorem dL_limit_2 : decode cL_limit 2 = .ok (.iconst 0, 1) := by decide +kernel
theorem dL_limit_3 : decode cL_limit 3 = .ok (.aload_n 0, 1) := by decide +kernel
theorem dL_limit_4 : decode cL_limit 4 = .ok (.iload_n 1, 1) := by decide +kernel
theorem dL_limit_5 : decode cL_limit 5 = .ok (.iload_n 2, 1) := by decide +kernel
theorem dL_limit_6 : decode cL_limit 6 = .ok (.iload_n 3, 1) := by decide +kernel
theorem dL_limit_7 : decode cL_limit 7 = .ok (.invokevirtual 17, 3) := by decide +kernel
theorem dL_limit_10 : decode cL_limit 10 = .ok (.i2l, 1) := by decide +kernel
theorem dL_limit_11 : decode cL_limit 11 = .ok (.lastore, 1) := by decide +kernel
theorem dL_limit_12 : decode cL_limit 12 = .ok (.goto 11, 3) := by decide +kernel
theorem dL_limit_15 : decode cL_limit 15 = .ok (.astore 5, 2) := by decide +kernel
theorem dL_limit_17 : decode cL_limit 17 = .ok (.iconst 1, 1) := by decide +kernel
theorem dL_limit_18 : decode cL_limit 18 = .ok (.ireturn, 1) := by decide +kernel
theorem dL_limit_19 : decode cL_limit 19 = .ok (.astore 5, 2) := by decide +kernel
theorem dL_limit_21 : decode cL_limit 21 = .ok (.iconst 2, 1) := by decide +kernel
theorem dL_limit_22 : decode cL_limit 22 = .ok (.ireturn, 1) := by decide +kernel
theorem dL_limit_23 : decode cL_limit 23 = .ok (.iconst 0, 1) := by decide +kernel
theorem dL_limit_24 : decode cL_limit 24 = .ok (.ireturn, 1) := by decide +kernel
theorem dL_away_0 : decode cL_away 0 = .ok (.aload 4, 2) := by decide +kernel
theorem dL_away_2 : decode cL_away 2 = .ok (.iconst 0, 1) := by decide +kernel
theorem dL_away_3 : decode cL_away 3 = .ok (.aload_n 0, 1) := by decide +kernel
theorem dL_away_4 : decode cL_away 4 = .ok (.iload_n 1, 1) := by decide +kernel
theorem dL_away_5 : decode cL_away 5 = .ok (.iload_n 2, 1) := by decide +kernel
theorem dL_away_6 : decode cL_away 6 = .ok (.iload_n 3, 1) := by decide +kernel
theorem dL_away_7 : decode cL_away 7 = .ok (.invokevirtual 23, 3) := by decide +kernel
theorem dL_away_10 : decode cL_away 10 = .ok (.ifCond .eq 7, 3) := by decide +kernel
theorem dL_away_13 : decode cL_away 13 = .ok (.lconst 1, 1) := by decide +kernel
theorem dL_away_14 : decode cL_away 14 = .ok (.goto 4, 3) := by decide +kernel
theorem dL_away_17 : decode cL_away 17 = .ok (.lconst 0, 1) := by decide +kernel
theorem dL_away_18 : decode cL_away 18 = .ok (.lastore, 1) := by decide +kernel
theorem dL_away_19 : decode cL_away 19 = .ok (.goto 11, 3) := by decide +kernel
theorem dL_away_22 : decode cL_away 22 = .ok (.astore 5, 2) := by decide +kernel
theorem dL_away_24 : decode cL_away 24 = .ok (.iconst 1, 1) := by decide +kernel
theorem dL_away_25 : decode cL_away 25 = .ok (.ireturn, 1) := by decide +kernel
theorem dL_away_26 : decode cL_away 26 = .ok (.astore 5, 2) := by decide +kernel
theorem dL_away_28 : decode cL_away 28 = .ok (.iconst 2, 1) := by decide +kernel
theorem dL_away_29 : decode cL_away 29 = .ok (.ireturn, 1) := by decide +kernel
theorem dL_away_30 : decode cL_away 30 = .ok (.iconst 0, 1) := by decide +kernel
theorem dL_away_31 : decode cL_away 31 = .ok (.ireturn, 1) := by decide +kernel
theorem dL_trip_0 : decode cL_trip 0 = .ok (.aload 6, 2) := by decide +kernel
theorem dL_trip_2 : decode cL_trip 2 = .ok (.iconst 0, 1) := by decide +kernel
theorem dL_trip_3 : decode cL_trip 3 = .ok (.aload_n 0, 1) := by decide +kernel
theorem dL_trip_4 : decode cL_trip 4 = .ok (.iload_n 1, 1) := by decide +kernel
theorem dL_trip_5 : decode cL_trip 5 = .ok (.iload_n 2, 1) := by decide +kernel
theorem dL_trip_6 : decode cL_trip 6 = .ok (.iload_n 3, 1) := by decide +kernel
theorem dL_trip_7 : decode cL_trip 7 = .ok (.iload 4, 2) := by decide +kernel
theorem dL_trip_9 : decode cL_trip 9 = .ok (.iload 5, 2) := by decide +kernel
theorem dL_trip_11 : decode cL_trip 11 = .ok (.invokevirtual 27, 3) := by decide +kernel
theorem dL_trip_14 : decode cL_trip 14 = .ok (.i2l, 1) := by decide +kernel
theorem dL_trip_15 : decode cL_trip 15 = .ok (.lastore, 1) := by decide +kernel
theorem dL_trip_16 : decode cL_trip 16 = .ok (.goto 15, 3) := by decide +kernel
theorem dL_trip_19 : decode cL_trip 19 = .ok (.astore 7, 2) := by decide +kernel
theorem dL_trip_21 : decode cL_trip 21 = .ok (.iconst 1, 1) := by decide +kernel
theorem dL_trip_22 : decode cL_trip 22 = .ok (.ireturn, 1) := by decide +kernel
theorem dL_trip_23 : decode cL_trip 23 = .ok (.astore 7, 2) := by decide +kernel
theorem dL_trip_25 : decode cL_trip 25 = .ok (.iconst 2, 1) := by decide +kernel
theorem dL_trip_26 : decode cL_trip 26 = .ok (.ireturn, 1) := by decide +kernel
theorem dL_trip_27 : decode cL_trip 27 = .ok (.astore 7, 2) := by decide +kernel
theorem dL_trip_29 : decode cL_trip 29 = .ok (.iconst 3, 1) := by decide +kernel
theorem dL_trip_30 : decode cL_trip 30 = .ok (.ireturn, 1) := by decide +kernel
theorem dL_trip_31 : decode cL_trip 31 = .ok (.iconst 0, 1) := by decide +kernel
theorem dL_trip_32 : decode cL_trip 32 = .ok (.ireturn, 1) := by decide +kernel
theorem dL_ofPerson_0 : decode cL_ofPerson 0 = .ok (.aload_n 3, 1) := by decide +kernel
theorem dL_ofPerson_1 : decode cL_ofPerson 1 = .ok (.iconst 0, 1) := by decide +kernel
theorem dL_ofPerson_2 : decode cL_ofPerson 2 = .ok (.aload_n 0, 1) := by decide +kernel
theorem dL_ofPerson_3 : decode cL_ofPerson 3 = .ok (.iload_n 1, 1) := by decide +kernel
theorem dL_ofPerson_4 : decode cL_ofPerson 4 = .ok (.iload_n 2, 1) := by decide +kernel
theorem dL_ofPerson_5 : decode cL_ofPerson 5 = .ok (.invokevirtual 31, 3) := by decide +kernel
theorem dL_ofPerson_8 : decode cL_ofPerson 8 = .ok (.i2l, 1) := by decide +kernel
theorem dL_ofPerson_9 : decode cL_ofPerson 9 = .ok (.lastore, 1) := by decide +kernel
theorem dL_ofPerson_10 : decode cL_ofPerson 10 = .ok (.goto 11, 3) := by decide +kernel
theorem dL_ofPerson_13 : decode cL_ofPerson 13 = .ok (.astore 4, 2) := by decide +kernel
theorem dL_ofPerson_15 : decode cL_ofPerson 15 = .ok (.iconst 1, 1) := by decide +kernel
theorem dL_ofPerson_16 : decode cL_ofPerson 16 = .ok (.ireturn, 1) := by decide +kernel
theorem dL_ofPerson_17 : decode cL_ofPerson 17 = .ok (.astore 4, 2) := by decide +kernel
theorem dL_ofPerson_19 : decode cL_ofPerson 19 = .ok (.iconst 2, 1) := by decide +kernel
theorem dL_ofPerson_20 : decode cL_ofPerson 20 = .ok (.ireturn, 1) := by decide +kernel
theorem dL_ofPerson_21 : decode cL_ofPerson 21 = .ok (.iconst 0, 1) := by decide +kernel
theorem dL_ofPerson_22 : decode cL_ofPerson 22 = .ok (.ireturn, 1) := by decide +kernel
theorem dL_maySpend_0 : decode cL_maySpend 0 = .ok (.aload 4, 2) := by decide +kernel
theorem dL_maySpend_2 : decode cL_maySpend 2 = .ok (.iconst 0, 1) := by decide +kernel
theorem dL_maySpend_3 : decode cL_maySpend 3 = .ok (.aload_n 0, 1) := by decide +kernel
theorem dL_maySpend_4 : decode cL_maySpend 4 = .ok (.iload_n 1, 1) := by decide +kernel
theorem dL_maySpend_5 : decode cL_maySpend 5 = .ok (.iload_n 2, 1) := by decide +kernel
theorem dL_maySpend_6 : decode cL_maySpend 6 = .ok (.iload_n 3, 1) := by decide +kernel
theorem dL_maySpend_7 : decode cL_maySpend 7 = .ok (.invokevirtual 35, 3) := by decide +kernel
theorem dL_maySpend_10 : decode cL_maySpend 10 = .ok (.i2l, 1) := by decide +kernel
theorem dL_maySpend_11 : decode cL_maySpend 11 = .ok (.lastore, 1) := by decide +kernel
theorem dL_maySpend_12 : decode cL_maySpend 12 = .ok (.goto 7, 3) := by decide +kernel
theorem dL_maySpend_15 : decode cL_maySpend 15 = .ok (.astore 5, 2) := by decide +kernel
theorem dL_maySpend_17 : decode cL_maySpend 17 = .ok (.iconst 1, 1) := by decide +kernel
theorem dL_maySpend_18 : decode cL_maySpend 18 = .ok (.ireturn, 1) := by decide +kernel
theorem dL_maySpend_19 : decode cL_maySpend 19 = .ok (.iconst 0, 1) := by decide +kernel
theorem dL_maySpend_20 : decode cL_maySpend 20 = .ok (.ireturn, 1) := by decide +kernel
theorem dL_plan_0 : decode cL_plan 0 = .ok (.aload 4, 2) := by decide +kernel
theorem dL_plan_2 : decode cL_plan 2 = .ok (.iconst 0, 1) := by decide +kernel
theorem dL_plan_3 : decode cL_plan 3 = .ok (.aload_n 0, 1) := by decide +kernel
theorem dL_plan_4 : decode cL_plan 4 = .ok (.iload_n 1, 1) := by decide +kernel
theorem dL_plan_5 : decode cL_plan 5 = .ok (.iload_n 2, 1) := by decide +kernel
theorem dL_plan_6 : decode cL_plan 6 = .ok (.iload_n 3, 1) := by decide +kernel
theorem dL_plan_7 : decode cL_plan 7 = .ok (.invokevirtual 38, 3) := by decide +kernel
theorem dL_plan_10 : decode cL_plan 10 = .ok (.i2l, 1) := by decide +kernel
theorem dL_plan_11 : decode cL_plan 11 = .ok (.lastore, 1) := by decide +kernel
theorem dL_plan_12 : decode cL_plan 12 = .ok (.goto 11, 3) := by decide +kernel
theorem dL_plan_15 : decode cL_plan 15 = .ok (.astore 5, 2) := by decide +kernel
theorem dL_plan_17 : decode cL_plan 17 = .ok (.iconst 1, 1) := by decide +kernel
theorem dL_plan_18 : decode cL_plan 18 = .ok (.ireturn, 1) := by decide +kernel
theorem dL_plan_19 : decode cL_plan 19 = .ok (.astore 5, 2) := by decide +kernel
theorem dL_plan_21 : decode cL_plan 21 = .ok (.iconst 2, 1) := by decide +kernel
theorem dL_plan_22 : decode cL_plan 22 = .ok (.ireturn, 1) := by decide +kernel
theorem dL_plan_23 : decode cL_plan 23 = .ok (.iconst 0, 1) := by decide +kernel
theorem dL_plan_24 : decode cL_plan 24 = .ok (.ireturn, 1) := by decide +kernel
theorem dL_carry_0 : decode cL_carry 0 = .ok (.aload_n 3, 1) := by decide +kernel
theorem dL_carry_1 : decode cL_carry 1 = .ok (.iconst 0, 1) := by decide +kernel
theorem dL_carry_2 : decode cL_carry 2 = .ok (.aload_n 0, 1) := by decide +kernel
theorem dL_carry_3 : decode cL_carry 3 = .ok (.iload_n 1, 1) := by decide +kernel
theorem dL_carry_4 : decode cL_carry 4 = .ok (.iload_n 2, 1) := by decide +kernel
theorem dL_carry_5 : decode cL_carry 5 = .ok (.invokevirtual 41, 3) := by decide +kernel
theorem dL_carry_8 : decode cL_carry 8 = .ok (.i2l, 1) := by decide +kernel
theorem dL_carry_9 : decode cL_carry 9 = .ok (.lastore, 1) := by decide +kernel
theorem dL_carry_10 : decode cL_carry 10 = .ok (.goto 11, 3) := by decide +kernel
theorem dL_carry_13 : decode cL_carry 13 = .ok (.astore 4, 2) := by decide +kernel
theorem dL_carry_15 : decode cL_carry 15 = .ok (.iconst 1, 1) := by decide +kernel
theorem dL_carry_16 : decode cL_carry 16 = .ok (.ireturn, 1) := by decide +kernel
theorem dL_carry_17 : decode cL_carry 17 = .ok (.astore 4, 2) := by decide +kernel
theorem dL_carry_19 : decode cL_carry 19 = .ok (.iconst 2, 1) := by decide +kernel
theorem dL_carry_20 : decode cL_carry 20 = .ok (.ireturn, 1) := by decide +kernel
theorem dL_carry_21 : decode cL_carry 21 = .ok (.iconst 0, 1) := by decide +kernel
theorem dL_carry_22 : decode cL_carry 22 = .ok (.ireturn, 1) := by decide +kernel
theorem dL_rate_0 : decode cL_rate 0 = .ok (.aload 4, 2) := by decide +kernel
theorem dL_rate_2 : decode cL_rate 2 = .ok (.iconst 0, 1) := by decide +kernel
theorem dL_rate_3 : decode cL_rate 3 = .ok (.aload_n 0, 1) := by decide +kernel
theorem dL_rate_4 : decode cL_rate 4 = .ok (.iload_n 1, 1) := by decide +kernel
theorem dL_rate_5 : decode cL_rate 5 = .ok (.iload_n 2, 1) := by decide +kernel
theorem dL_rate_6 : decode cL_rate 6 = .ok (.iload_n 3, 1) := by decide +kernel
theorem dL_rate_7 : decode cL_rate 7 = .ok (.invokevirtual 44, 3) := by decide +kernel
theorem dL_rate_10 : decode cL_rate 10 = .ok (.i2l, 1) := by decide +kernel
theorem dL_rate_11 : decode cL_rate 11 = .ok (.lastore, 1) := by decide +kernel
theorem dL_rate_12 : decode cL_rate 12 = .ok (.goto 11, 3) := by decide +kernel
theorem dL_rate_15 : decode cL_rate 15 = .ok (.astore 5, 2) := by decide +kernel
theorem dL_rate_17 : decode cL_rate 17 = .ok (.iconst 1, 1) := by decide +kernel
theorem dL_rate_18 : decode cL_rate 18 = .ok (.ireturn, 1) := by decide +kernel
theorem dL_rate_19 : decode cL_rate 19 = .ok (.astore 5, 2) := by decide +kernel
theorem dL_rate_21 : decode cL_rate 21 = .ok (.iconst 2, 1) := by decide +kernel
theorem dL_rate_22 : decode cL_rate 22 = .ok (.ireturn, 1) := by decide +kernel
theorem dL_rate_23 : decode cL_rate 23 = .ok (.iconst 0, 1) := by decide +kernel
theorem dL_rate_24 : decode cL_rate 24 = .ok (.ireturn, 1) := by decide +kernel
theorem dL_left_0 : decode cL_left 0 = .ok (.aload_n 3, 1) := by decide +kernel
theorem dL_left_1 : decode cL_left 1 = .ok (.iconst 0, 1) := by decide +kernel
theorem dL_left_2 : decode cL_left 2 = .ok (.aload_n 0, 1) := by decide +kernel
theorem dL_left_3 : decode cL_left 3 = .ok (.iload_n 1, 1) := by decide +kernel
theorem dL_left_4 : decode cL_left 4 = .ok (.iload_n 2, 1) := by decide +kernel
theorem dL_left_5 : decode cL_left 5 = .ok (.invokevirtual 47, 3) := by decide +kernel
theorem dL_left_8 : decode cL_left 8 = .ok (.i2l, 1) := by decide +kernel
theorem dL_left_9 : decode cL_left 9 = .ok (.lastore, 1) := by decide +kernel
theorem dL_left_10 : decode cL_left 10 = .ok (.goto 7, 3) := by decide +kernel
theorem dL_left_13 : decode cL_left 13 = .ok (.astore 4, 2) := by decide +kernel
theorem dL_left_15 : decode cL_left 15 = .ok (.iconst 1, 1) := by decide +kernel
theorem dL_left_16 : decode cL_left 16 = .ok (.ireturn, 1) := by decide +kernel
theorem dL_left_17 : decode cL_left 17 = .ok (.iconst 0, 1) := by decide +kernel
theorem dL_left_18 : decode cL_left 18 = .ok (.ireturn, 1) := by decide +kernel
theorem dL_charge_0 : decode cL_charge 0 = .ok (.aload 6, 2) := by decide +kernel
theorem dL_charge_2 : decode cL_charge 2 = .ok (.iconst 0, 1) := by decide +kernel
theorem dL_charge_3 : decode cL_charge 3 = .ok (.aload_n 0, 1) := by decide +kernel
theorem dL_charge_4 : decode cL_charge 4 = .ok (.iload_n 1, 1) := by decide +kernel
theorem dL_charge_5 : decode cL_charge 5 = .ok (.iload_n 2, 1) := by decide +kernel
theorem dL_charge_6 : decode cL_charge 6 = .ok (.iload_n 3, 1) := by decide +kernel
theorem dL_charge_7 : decode cL_charge 7 = .ok (.iload 4, 2) := by decide +kernel
theorem dL_charge_9 : decode cL_charge 9 = .ok (.iload 5, 2) := by decide +kernel
theorem dL_charge_11 : decode cL_charge 11 = .ok (.invokevirtual 50, 3) := by decide +kernel
theorem dL_charge_14 : decode cL_charge 14 = .ok (.i2l, 1) := by decide +kernel
theorem dL_charge_15 : decode cL_charge 15 = .ok (.lastore, 1) := by decide +kernel
theorem dL_charge_16 : decode cL_charge 16 = .ok (.goto 15, 3) := by decide +kernel
theorem dL_charge_19 : decode cL_charge 19 = .ok (.astore 7, 2) := by decide +kernel
theorem dL_charge_21 : decode cL_charge 21 = .ok (.iconst 1, 1) := by decide +kernel
theorem dL_charge_22 : decode cL_charge 22 = .ok (.ireturn, 1) := by decide +kernel
theorem dL_charge_23 : decode cL_charge 23 = .ok (.astore 7, 2) := by decide +kernel
theorem dL_charge_25 : decode cL_charge 25 = .ok (.iconst 2, 1) := by decide +kernel
theorem dL_charge_26 : decode cL_charge 26 = .ok (.ireturn, 1) := by decide +kernel
theorem dL_charge_27 : decode cL_charge 27 = .ok (.astore 7, 2) := by decide +kernel
theorem dL_charge_29 : decode cL_charge 29 = .ok (.iconst 3, 1) := by decide +kernel
theorem dL_charge_30 : decode cL_charge 30 = .ok (.ireturn, 1) := by decide +kernel
theorem dL_charge_31 : decode cL_charge 31 = .ok (.iconst 0, 1) := by decide +kernel
theorem dL_charge_32 : decode cL_charge 32 = .ok (.ireturn, 1) := by decide +kernel
theorem dL_receipt_0 : decode cL_receipt 0 = .ok (.aload 4, 2) := by decide +kernel
theorem dL_receipt_2 : decode cL_receipt 2 = .ok (.iconst 0, 1) := by decide +kernel
theorem dL_receipt_3 : decode cL_receipt 3 = .ok (.aload_n 0, 1) := by decide +kernel
theorem dL_receipt_4 : decode cL_receipt 4 = .ok (.iload_n 1, 1) := by decide +kernel
theorem dL_receipt_5 : decode cL_receipt 5 = .ok (.iload_n 2, 1) := by decide +kernel
theorem dL_receipt_6 : decode cL_receipt 6 = .ok (.iload_n 3, 1) := by decide +kernel
theorem dL_receipt_7 : decode cL_receipt 7 = .ok (.invokevirtual 53, 3) := by decide +kernel
theorem dL_receipt_10 : decode cL_receipt 10 = .ok (.i2l, 1) := by decide +kernel
theorem dL_receipt_11 : decode cL_receipt 11 = .ok (.lastore, 1) := by decide +kernel
theorem dL_receipt_12 : decode cL_receipt 12 = .ok (.goto 11, 3) := by decide +kernel
theorem dL_receipt_15 : decode cL_receipt 15 = .ok (.astore 5, 2) := by decide +kernel
theorem dL_receipt_17 : decode cL_receipt 17 = .ok (.iconst 1, 1) := by decide +kernel
theorem dL_receipt_18 : decode cL_receipt 18 = .ok (.ireturn, 1) := by decide +kernel
theorem dL_receipt_19 : decode cL_receipt 19 = .ok (.astore 5, 2) := by decide +kernel
theorem dL_receipt_21 : decode cL_receipt 21 = .ok (.iconst 2, 1) := by decide +kernel
theorem dL_receipt_22 : decode cL_receipt 22 = .ok (.ireturn, 1) := by decide +kernel
theorem dL_receipt_23 : decode cL_receipt 23 = .ok (.iconst 0, 1) := by decide +kernel
theorem dL_receipt_24 : decode cL_receipt 24 = .ok (.ireturn, 1) := by decide +kernel
theorem dL_split_0 : decode cL_split 0 = .ok (.aload_n 2, 1) := by decide +kernel
theorem dL_split_1 : decode cL_split 1 = .ok (.iconst 0, 1) := by decide +kernel
theorem dL_split_2 : decode cL_split 2 = .ok (.aload_n 0, 1) := by decide +kernel
theorem dL_split_3 : decode cL_split 3 = .ok (.iload_n 1, 1) := by decide +kernel
theorem dL_split_4 : decode cL_split 4 = .ok (.invokevirtual 56, 3) := by decide +kernel
theorem dL_split_7 : decode cL_split 7 = .ok (.i2l, 1) := by decide +kernel
theorem dL_split_8 : decode cL_split 8 = .ok (.lastore, 1) := by decide +kernel
theorem dL_split_9 : decode cL_split 9 = .ok (.goto 9, 3) := by decide +kernel
theorem dL_split_12 : decode cL_split 12 = .ok (.astore_n 3, 1) := by decide +kernel
theorem dL_split_13 : decode cL_split 13 = .ok (.iconst 1, 1) := by decide +kernel
theorem dL_split_14 : decode cL_split 14 = .ok (.ireturn, 1) := by decide +kernel
theorem dL_split_15 : decode cL_split 15 = .ok (.astore_n 3, 1) := by decide +kernel
theorem dL_split_16 : decode cL_split 16 = .ok (.iconst 2, 1) := by decide +kernel
theorem dL_split_17 : decode cL_split 17 = .ok (.ireturn, 1) := by decide +kernel
theorem dL_split_18 : decode cL_split 18 = .ok (.iconst 0, 1) := by decide +kernel
theorem dL_split_19 : decode cL_split 19 = .ok (.ireturn, 1) := by decide +kernel
theorem dL_approve_0 : decode cL_approve 0 = .ok (.aload_n 3, 1) := by decide +kernel
theorem dL_approve_1 : decode cL_approve 1 = .ok (.iconst 0, 1) := by decide +kernel
theorem dL_approve_2 : decode cL_approve 2 = .ok (.aload_n 0, 1) := by decide +kernel
theorem dL_approve_3 : decode cL_approve 3 = .ok (.iload_n 1, 1) := by decide +kernel
theorem dL_approve_4 : decode cL_approve 4 = .ok (.iload_n 2, 1) := by decide +kernel
theorem dL_approve_5 : decode cL_approve 5 = .ok (.invokevirtual 59, 3) := by decide +kernel
theorem dL_approve_8 : decode cL_approve 8 = .ok (.i2l, 1) := by decide +kernel
theorem dL_approve_9 : decode cL_approve 9 = .ok (.lastore, 1) := by decide +kernel
theorem dL_approve_10 : decode cL_approve 10 = .ok (.goto 11, 3) := by decide +kernel
theorem dL_approve_13 : decode cL_approve 13 = .ok (.astore 4, 2) := by decide +kernel
theorem dL_approve_15 : decode cL_approve 15 = .ok (.iconst 1, 1) := by decide +kernel
theorem dL_approve_16 : decode cL_approve 16 = .ok (.ireturn, 1) := by decide +kernel
theorem dL_approve_17 : decode cL_approve 17 = .ok (.astore 4, 2) := by decide +kernel
theorem dL_approve_19 : decode cL_approve 19 = .ok (.iconst 2, 1) := by decide +kernel
theorem dL_approve_20 : decode cL_approve 20 = .ok (.ireturn, 1) := by decide +kernel
theorem dL_approve_21 : decode cL_approve 21 = .ok (.iconst 0, 1) := by decide +kernel
theorem dL_approve_22 : decode cL_approve 22 = .ok (.ireturn, 1) := by decide +kernel
theorem dL_refuse_0 : decode cL_refuse 0 = .ok (.aload_n 3, 1) := by decide +kernel
theorem dL_refuse_1 : decode cL_refuse 1 = .ok (.iconst 0, 1) := by decide +kernel
theorem dL_refuse_2 : decode cL_refuse 2 = .ok (.aload_n 0, 1) := by decide +kernel
theorem dL_refuse_3 : decode cL_refuse 3 = .ok (.iload_n 1, 1) := by decide +kernel
theorem dL_refuse_4 : decode cL_refuse 4 = .ok (.iload_n 2, 1) := by decide +kernel
theorem dL_refuse_5 : decode cL_refuse 5 = .ok (.invokevirtual 62, 3) := by decide +kernel
theorem dL_refuse_8 : decode cL_refuse 8 = .ok (.i2l, 1) := by decide +kernel
theorem dL_refuse_9 : decode cL_refuse 9 = .ok (.lastore, 1) := by decide +kernel
theorem dL_refuse_10 : decode cL_refuse 10 = .ok (.goto 11, 3) := by decide +kernel
theorem dL_refuse_13 : decode cL_refuse 13 = .ok (.astore 4, 2) := by decide +kernel
theorem dL_refuse_15 : decode cL_refuse 15 = .ok (.iconst 1, 1) := by decide +kernel
theorem dL_refuse_16 : decode cL_refuse 16 = .ok (.ireturn, 1) := by decide +kernel
theorem dL_refuse_17 : decode cL_refuse 17 = .ok (.astore 4, 2) := by decide +kernel
theorem dL_refuse_19 : decode cL_refuse 19 = .ok (.iconst 2, 1) := by decide +kernel
theorem dL_refuse_20 : decode cL_refuse 20 = .ok (.ireturn, 1) := by decide +kernel
theorem dL_refuse_21 : decode cL_refuse 21 = .ok (.iconst 0, 1) := by decide +kernel
theorem dL_refuse_22 : decode cL_refuse 22 = .ok (.ireturn, 1) := by decide +kernel
theorem dL_settle_0 : decode cL_settle 0 = .ok (.aload_n 3, 1) := by decide +kernel
theorem dL_settle_1 : decode cL_settle 1 = .ok (.iconst 0, 1) := by decide +kernel
theorem dL_settle_2 : decode cL_settle 2 = .ok (.aload_n 0, 1) := by decide +kernel
theorem dL_settle_3 : decode cL_settle 3 = .ok (.iload_n 1, 1) := by decide +kernel
theorem dL_settle_4 : decode cL_settle 4 = .ok (.iload_n 2, 1) := by decide +kernel
theorem dL_settle_5 : decode cL_settle 5 = .ok (.invokevirtual 65, 3) := by decide +kernel
theorem dL_settle_8 : decode cL_settle 8 = .ok (.i2l, 1) := by decide +kernel
theorem dL_settle_9 : decode cL_settle 9 = .ok (.lastore, 1) := by decide +kernel
theorem dL_settle_10 : decode cL_settle 10 = .ok (.goto 11, 3) := by decide +kernel
theorem dL_settle_13 : decode cL_settle 13 = .ok (.astore 4, 2) := by decide +kernel
theorem dL_settle_15 : decode cL_settle 15 = .ok (.iconst 1, 1) := by decide +kernel
theorem dL_settle_16 : decode cL_settle 16 = .ok (.ireturn, 1) := by decide +kernel
theorem dL_settle_17 : decode cL_settle 17 = .ok (.astore 4, 2) := by decide +kernel
theorem dL_settle_19 : decode cL_settle 19 = .ok (.iconst 2, 1) := by decide +kernel
theorem dL_settle_20 : decode cL_settle 20 = .ok (.ireturn, 1) := by decide +kernel
theorem dL_settle_21 : decode cL_settle 21 = .ok (.iconst 0, 1) := by decide +kernel
theorem dL_settle_22 : decode cL_settle 22 = .ok (.ireturn, 1) := by decide +kernel
theorem dL_ofCharge_0 : decode cL_ofCharge 0 = .ok (.aload_n 3, 1) := by decide +kernel
theorem dL_ofCharge_1 : decode cL_ofCharge 1 = .ok (.iconst 0, 1) := by decide +kernel
theorem dL_ofCharge_2 : decode cL_ofCharge 2 = .ok (.aload_n 0, 1) := by decide +kernel
theorem dL_ofCharge_3 : decode cL_ofCharge 3 = .ok (.iload_n 1, 1) := by decide +kernel
theorem dL_ofCharge_4 : decode cL_ofCharge 4 = .ok (.iload_n 2, 1) := by decide +kernel
theorem dL_ofCharge_5 : decode cL_ofCharge 5 = .ok (.invokevirtual 69, 3) := by decide +kernel
theorem dL_ofCharge_8 : decode cL_ofCharge 8 = .ok (.i2l, 1) := by decide +kernel
theorem dL_ofCharge_9 : decode cL_ofCharge 9 = .ok (.lastore, 1) := by decide +kernel
theorem dL_ofCharge_10 : decode cL_ofCharge 10 = .ok (.goto 11, 3) := by decide +kernel
theorem dL_ofCharge_13 : decode cL_ofCharge 13 = .ok (.astore 4, 2) := by decide +kernel
theorem dL_ofCharge_15 : decode cL_ofCharge 15 = .ok (.iconst 1, 1) := by decide +kernel
theorem dL_ofCharge_16 : decode cL_ofCharge 16 = .ok (.ireturn, 1) := by decide +kernel
theorem dL_ofCharge_17 : decode cL_ofCharge 17 = .ok (.astore 4, 2) := by decide +kernel
theorem dL_ofCharge_19 : decode cL_ofCharge 19 = .ok (.iconst 2, 1) := by decide +kernel
theorem dL_ofCharge_20 : decode cL_ofCharge 20 = .ok (.ireturn, 1) := by decide +kernel
theorem dL_ofCharge_21 : decode cL_ofCharge 21 = .ok (.iconst 0, 1) := by decide +kernel
theorem dL_ofCharge_22 : decode cL_ofCharge 22 = .ok (.ireturn, 1) := by decide +kernel
theorem dL_ofReceipt_0 : decode cL_ofReceipt 0 = .ok (.aload_n 2, 1) := by decide +kernel
theorem dL_ofReceipt_1 : decode cL_ofReceipt 1 = .ok (.iconst 0, 1) := by decide +kernel
theorem dL_ofReceipt_2 : decode cL_ofReceipt 2 = .ok (.aload_n 0, 1) := by decide +kernel
theorem dL_ofReceipt_3 : decode cL_ofReceipt 3 = .ok (.iload_n 1, 1) := by decide +kernel
theorem dL_ofReceipt_4 : decode cL_ofReceipt 4 = .ok (.invokevirtual 72, 3) := by decide +kernel
theorem dL_ofReceipt_7 : decode cL_ofReceipt 7 = .ok (.i2l, 1) := by decide +kernel
theorem dL_ofReceipt_8 : decode cL_ofReceipt 8 = .ok (.lastore, 1) := by decide +kernel
theorem dL_ofReceipt_9 : decode cL_ofReceipt 9 = .ok (.goto 6, 3) := by decide +kernel
theorem dL_ofReceipt_12 : decode cL_ofReceipt 12 = .ok (.astore_n 3, 1) := by decide +kernel
theorem dL_ofReceipt_13 : decode cL_ofReceipt 13 = .ok (.iconst 1, 1) := by decide +kernel
theorem dL_ofReceipt_14 : decode cL_ofReceipt 14 = .ok (.ireturn, 1) := by decide +kernel
theorem dL_ofReceipt_15 : decode cL_ofReceipt 15 = .ok (.iconst 0, 1) := by decide +kernel
theorem dL_ofReceipt_16 : decode cL_ofReceipt 16 = .ok (.ireturn, 1) := by decide +kernel
theorem dL_score_0 : decode cL_score 0 = .ok (.aload_n 3, 1) := by decide +kernel
theorem dL_score_1 : decode cL_score 1 = .ok (.iconst 0, 1) := by decide +kernel
theorem dL_score_2 : decode cL_score 2 = .ok (.aload_n 0, 1) := by decide +kernel
theorem dL_score_3 : decode cL_score 3 = .ok (.iload_n 1, 1) := by decide +kernel
theorem dL_score_4 : decode cL_score 4 = .ok (.iload_n 2, 1) := by decide +kernel
theorem dL_score_5 : decode cL_score 5 = .ok (.invokevirtual 75, 3) := by decide +kernel
theorem dL_score_8 : decode cL_score 8 = .ok (.i2l, 1) := by decide +kernel
theorem dL_score_9 : decode cL_score 9 = .ok (.lastore, 1) := by decide +kernel
theorem dL_score_10 : decode cL_score 10 = .ok (.goto 7, 3) := by decide +kernel
theorem dL_score_13 : decode cL_score 13 = .ok (.astore 4, 2) := by decide +kernel
theorem dL_score_15 : decode cL_score 15 = .ok (.iconst 1, 1) := by decide +kernel
theorem dL_score_16 : decode cL_score 16 = .ok (.ireturn, 1) := by decide +kernel
theorem dL_score_17 : decode cL_score 17 = .ok (.iconst 0, 1) := by decide +kernel
theorem dL_score_18 : decode cL_score 18 = .ok (.ireturn, 1) := by decide +kernel
theorem dL_day_0 : decode cL_day 0 = .ok (.aload_n 1, 1) := by decide +kernel
theorem dL_day_1 : decode cL_day 1 = .ok (.iconst 0, 1) := by decide +kernel
theorem dL_day_2 : decode cL_day 2 = .ok (.aload_n 0, 1) := by decide +kernel
theorem dL_day_3 : decode cL_day 3 = .ok (.invokevirtual 78, 3) := by decide +kernel
theorem dL_day_6 : decode cL_day 6 = .ok (.i2l, 1) := by decide +kernel
theorem dL_day_7 : decode cL_day 7 = .ok (.lastore, 1) := by decide +kernel
theorem dL_day_8 : decode cL_day 8 = .ok (.goto 6, 3) := by decide +kernel
theorem dL_day_11 : decode cL_day 11 = .ok (.astore_n 2, 1) := by decide +kernel
theorem dL_day_12 : decode cL_day 12 = .ok (.iconst 1, 1) := by decide +kernel
theorem dL_day_13 : decode cL_day 13 = .ok (.ireturn, 1) := by decide +kernel
theorem dL_day_14 : decode cL_day 14 = .ok (.iconst 0, 1) := by decide +kernel
theorem dL_day_15 : decode cL_day 15 = .ok (.ireturn, 1) := by decide +kernel
theorem dL_many_0 : decode cL_many 0 = .ok (.aload_n 2, 1) := by decide +kernel
theorem dL_many_1 : decode cL_many 1 = .ok (.iconst 0, 1) := by decide +kernel
theorem dL_many_2 : decode cL_many 2 = .ok (.aload_n 0, 1) := by decide +kernel
theorem dL_many_3 : decode cL_many 3 = .ok (.iload_n 1, 1) := by decide +kernel
theorem dL_many_4 : decode cL_many 4 = .ok (.invokevirtual 82, 3) := by decide +kernel
theorem dL_many_7 : decode cL_many 7 = .ok (.i2l, 1) := by decide +kernel
theorem dL_many_8 : decode cL_many 8 = .ok (.lastore, 1) := by decide +kernel
theorem dL_many_9 : decode cL_many 9 = .ok (.goto 6, 3) := by decide +kernel
theorem dL_many_12 : decode cL_many 12 = .ok (.astore_n 3, 1) := by decide +kernel
theorem dL_many_13 : decode cL_many 13 = .ok (.iconst 1, 1) := by decide +kernel
theorem dL_many_14 : decode cL_many 14 = .ok (.ireturn, 1) := by decide +kernel
theorem dL_many_15 : decode cL_many 15 = .ok (.iconst 0, 1) := by decide +kernel
theorem dL_many_16 : decode cL_many 16 = .ok (.ireturn, 1) := by decide +kernel
theorem dL_wouldMatch_0 : decode cL_wouldMatch 0 = .ok (.aload 4, 2) := by decide +kernel
theorem dL_wouldMatch_2 : decode cL_wouldMatch 2 = .ok (.iconst 0, 1) := by decide +kernel
theorem dL_wouldMatch_3 : decode cL_wouldMatch 3 = .ok (.aload_n 0, 1) := by decide +kernel
theorem dL_wouldMatch_4 : decode cL_wouldMatch 4 = .ok (.iload_n 1, 1) := by decide +kernel
theorem dL_wouldMatch_5 : decode cL_wouldMatch 5 = .ok (.iload_n 2, 1) := by decide +kernel
theorem dL_wouldMatch_6 : decode cL_wouldMatch 6 = .ok (.iload_n 3, 1) := by decide +kernel
theorem dL_wouldMatch_7 : decode cL_wouldMatch 7 = .ok (.invokevirtual 85, 3) := by decide +kernel
theorem dL_wouldMatch_10 : decode cL_wouldMatch 10 = .ok (.i2l, 1) := by decide +kernel
theorem dL_wouldMatch_11 : decode cL_wouldMatch 11 = .ok (.lastore, 1) := by decide +kernel
theorem dL_wouldMatch_12 : decode cL_wouldMatch 12 = .ok (.goto 7, 3) := by decide +kernel
theorem dL_wouldMatch_15 : decode cL_wouldMatch 15 = .ok (.astore 5, 2) := by decide +kernel
theorem dL_wouldMatch_17 : decode cL_wouldMatch 17 = .ok (.iconst 1, 1) := by decide +kernel
theorem dL_wouldMatch_18 : decode cL_wouldMatch 18 = .ok (.ireturn, 1) := by decide +kernel
theorem dL_wouldMatch_19 : decode cL_wouldMatch 19 = .ok (.iconst 0, 1) := by decide +kernel
theorem dL_wouldMatch_20 : decode cL_wouldMatch 20 = .ok (.ireturn, 1) := by decide +kernel
theorem dL_trustBehind_0 : decode cL_trustBehind 0 = .ok (.aload_n 3, 1) := by decide +kernel
theorem dL_trustBehind_1 : decode cL_trustBehind 1 = .ok (.iconst 0, 1) := by decide +kernel
theorem dL_trustBehind_2 : decode cL_trustBehind 2 = .ok (.aload_n 0, 1) := by decide +kernel
theorem dL_trustBehind_3 : decode cL_trustBehind 3 = .ok (.iload_n 1, 1) := by decide +kernel
theorem dL_trustBehind_4 : decode cL_trustBehind 4 = .ok (.iload_n 2, 1) := by decide +kernel
theorem dL_trustBehind_5 : decode cL_trustBehind 5 = .ok (.invokevirtual 88, 3) := by decide +kernel
theorem dL_trustBehind_8 : decode cL_trustBehind 8 = .ok (.i2l, 1) := by decide +kernel
theorem dL_trustBehind_9 : decode cL_trustBehind 9 = .ok (.lastore, 1) := by decide +kernel
theorem dL_trustBehind_10 : decode cL_trustBehind 10 = .ok (.goto 11, 3) := by decide +kernel
theorem dL_trustBehind_13 : decode cL_trustBehind 13 = .ok (.astore 4, 2) := by decide +kernel
theorem dL_trustBehind_15 : decode cL_trustBehind 15 = .ok (.iconst 1, 1) := by decide +kernel
theorem dL_trustBehind_16 : decode cL_trustBehind 16 = .ok (.ireturn, 1) := by decide +kernel
theorem dL_trustBehind_17 : decode cL_trustBehind 17 = .ok (.astore 4, 2) := by decide +kernel
theorem dL_trustBehind_19 : decode cL_trustBehind 19 = .ok (.iconst 2, 1) := by decide +kernel
theorem dL_trustBehind_20 : decode cL_trustBehind 20 = .ok (.ireturn, 1) := by decide +kernel
theorem dL_trustBehind_21 : decode cL_trustBehind 21 = .ok (.iconst 0, 1) := by decide +kernel
theorem dL_trustBehind_22 : decode cL_trustBehind 22 = .ok (.ireturn, 1) := by decide +kernel
theorem dL_leftWith_0 : decode cL_leftWith 0 = .ok (.aload_n 3, 1) := by decide +kernel
theorem dL_leftWith_1 : decode cL_leftWith 1 = .ok (.iconst 0, 1) := by decide +kernel
theorem dL_leftWith_2 : decode cL_leftWith 2 = .ok (.aload_n 0, 1) := by decide +kernel
theorem dL_leftWith_3 : decode cL_leftWith 3 = .ok (.iload_n 1, 1) := by decide +kernel
theorem dL_leftWith_4 : decode cL_leftWith 4 = .ok (.iload_n 2, 1) := by decide +kernel
theorem dL_leftWith_5 : decode cL_leftWith 5 = .ok (.invokevirtual 91, 3) := by decide +kernel
theorem dL_leftWith_8 : decode cL_leftWith 8 = .ok (.i2l, 1) := by decide +kernel
theorem dL_leftWith_9 : decode cL_leftWith 9 = .ok (.lastore, 1) := by decide +kernel
theorem dL_leftWith_10 : decode cL_leftWith 10 = .ok (.goto 7, 3) := by decide +kernel
theorem dL_leftWith_13 : decode cL_leftWith 13 = .ok (.astore 4, 2) := by decide +kernel
theorem dL_leftWith_15 : decode cL_leftWith 15 = .ok (.iconst 1, 1) := by decide +kernel
theorem dL_leftWith_16 : decode cL_leftWith 16 = .ok (.ireturn, 1) := by decide +kernel
theorem dL_leftWith_17 : decode cL_leftWith 17 = .ok (.iconst 0, 1) := by decide +kernel
theorem dL_leftWith_18 : decode cL_leftWith 18 = .ok (.ireturn, 1) := by decide +kernel
theorem dL_law_0 : decode cL_law 0 = .ok (.new 8, 3) := by decide +kernel
theorem dL_law_3 : decode cL_law 3 = .ok (.dup, 1) := by decide +kernel
theorem dL_law_4 : decode cL_law 4 = .ok (.invokespecial 94, 3) := by decide +kernel
theorem dL_law_7 : decode cL_law 7 = .ok (.astore_n 1, 1) := by decide +kernel
theorem dL_law_8 : decode cL_law 8 = .ok (.new 95, 3) := by decide +kernel
theorem dL_law_11 : decode cL_law 11 = .ok (.dup, 1) := by decide +kernel
theorem dL_law_12 : decode cL_law 12 = .ok (.invokespecial 97, 3) := by decide +kernel
theorem dL_law_15 : decode cL_law 15 = .ok (.astore_n 2, 1) := by decide +kernel
theorem dL_law_16 : decode cL_law 16 = .ok (.iconst 1, 1) := by decide +kernel
theorem dL_law_17 : decode cL_law 17 = .ok (.newarray .long, 2) := by decide +kernel
theorem dL_law_19 : decode cL_law 19 = .ok (.astore_n 3, 1) := by decide +kernel
theorem dL_law_20 : decode cL_law 20 = .ok (.iconst 0, 1) := by decide +kernel
theorem dL_law_21 : decode cL_law 21 = .ok (.istore 4, 2) := by decide +kernel
theorem dL_law_23 : decode cL_law 23 = .ok (.iload 4, 2) := by decide +kernel
theorem dL_law_25 : decode cL_law 25 = .ok (.aload_n 0, 1) := by decide +kernel
theorem dL_law_26 : decode cL_law 26 = .ok (.arraylength, 1) := by decide +kernel
theorem dL_law_27 : decode cL_law 27 = .ok (.bipush 6, 2) := by decide +kernel
theorem dL_law_29 : decode cL_law 29 = .ok (.isub, 1) := by decide +kernel
theorem dL_law_30 : decode cL_law 30 = .ok (.if_icmp .gt 1930, 3) := by decide +kernel
theorem dL_law_33 : decode cL_law 33 = .ok (.aload_n 0, 1) := by decide +kernel
theorem dL_law_34 : decode cL_law 34 = .ok (.iload 4, 2) := by decide +kernel
theorem dL_law_36 : decode cL_law 36 = .ok (.iaload, 1) := by decide +kernel
theorem dL_law_37 : decode cL_law 37 = .ok (.bipush 31, 2) := by decide +kernel
theorem dL_law_39 : decode cL_law 39 = .ok (.iand, 1) := by decide +kernel
theorem dL_law_40 : decode cL_law 40 = .ok (.tableswitch 1914 0 25 #[120, 176, 256, 343, 447, 515, 595, 675, 743, 823, 891, 995, 1075, 1131, 1199, 1267, 1351, 1419, 1475, 1543, 1587, 1643, 1684, 1764, 1832, 1900], 120) := by decide +kernel
theorem dL_law_160 : decode cL_law 160 = .ok (.aload_n 1, 1) := by decide +kernel
theorem dL_law_161 : decode cL_law 161 = .ok (.aload_n 0, 1) := by decide +kernel
theorem dL_law_162 : decode cL_law 162 = .ok (.iload 4, 2) := by decide +kernel
theorem dL_law_164 : decode cL_law 164 = .ok (.iconst 1, 1) := by decide +kernel
theorem dL_law_165 : decode cL_law 165 = .ok (.iadd, 1) := by decide +kernel
theorem dL_law_166 : decode cL_law 166 = .ok (.iaload, 1) := by decide +kernel
theorem dL_law_167 : decode cL_law 167 = .ok (.aload_n 3, 1) := by decide +kernel
theorem dL_law_168 : decode cL_law 168 = .ok (.invokestatic 98, 3) := by decide +kernel
theorem dL_law_171 : decode cL_law 171 = .ok (.istore 5, 2) := by decide +kernel
theorem dL_law_173 : decode cL_law 173 = .ok (.aload_n 2, 1) := by decide +kernel
theorem dL_law_174 : decode cL_law 174 = .ok (.aload_n 0, 1) := by decide +kernel
theorem dL_law_175 : decode cL_law 175 = .ok (.iload 4, 2) := by decide +kernel
theorem dL_law_177 : decode cL_law 177 = .ok (.iconst 1, 1) := by decide +kernel
theorem dL_law_178 : decode cL_law 178 = .ok (.iadd, 1) := by decide +kernel
theorem dL_law_179 : decode cL_law 179 = .ok (.iaload, 1) := by decide +kernel
theorem dL_law_180 : decode cL_law 180 = .ok (.invokevirtual 103, 3) := by decide +kernel
theorem dL_law_183 : decode cL_law 183 = .ok (.istore 6, 2) := by decide +kernel
theorem dL_law_185 : decode cL_law 185 = .ok (.aload_n 2, 1) := by decide +kernel
theorem dL_law_186 : decode cL_law 186 = .ok (.invokevirtual 104, 3) := by decide +kernel
theorem dL_law_189 : decode cL_law 189 = .ok (.iload 5, 2) := by decide +kernel
theorem dL_law_191 : decode cL_law 191 = .ok (.if_icmp .eq 5, 3) := by decide +kernel
theorem dL_law_194 : decode cL_law 194 = .ok (.iconst 0, 1) := by decide +kernel
theorem dL_law_195 : decode cL_law 195 = .ok (.ireturn, 1) := by decide +kernel
theorem dL_law_196 : decode cL_law 196 = .ok (.iload 5, 2) := by decide +kernel
theorem dL_law_198 : decode cL_law 198 = .ok (.ifCond .ne 15, 3) := by decide +kernel
theorem dL_law_201 : decode cL_law 201 = .ok (.aload_n 3, 1) := by decide +kernel
theorem dL_law_202 : decode cL_law 202 = .ok (.iconst 0, 1) := by decide +kernel
theorem dL_law_203 : decode cL_law 203 = .ok (.laload, 1) := by decide +kernel
theorem dL_law_204 : decode cL_law 204 = .ok (.iload 6, 2) := by decide +kernel
theorem dL_law_206 : decode cL_law 206 = .ok (.i2l, 1) := by decide +kernel
theorem dL_law_207 : decode cL_law 207 = .ok (.lcmp, 1) := by decide +kernel
theorem dL_law_208 : decode cL_law 208 = .ok (.ifCond .eq 5, 3) := by decide +kernel
theorem dL_law_211 : decode cL_law 211 = .ok (.iconst 0, 1) := by decide +kernel
theorem dL_law_212 : decode cL_law 212 = .ok (.ireturn, 1) := by decide +kernel
theorem dL_law_213 : decode cL_law 213 = .ok (.goto 1741, 3) := by decide +kernel
theorem dL_law_216 : decode cL_law 216 = .ok (.aload_n 1, 1) := by decide +kernel
theorem dL_law_217 : decode cL_law 217 = .ok (.aload_n 0, 1) := by decide +kernel
theorem dL_law_218 : decode cL_law 218 = .ok (.iload 4, 2) := by decide +kernel
theorem dL_law_220 : decode cL_law 220 = .ok (.iconst 1, 1) := by decide +kernel
theorem dL_law_221 : decode cL_law 221 = .ok (.iadd, 1) := by decide +kernel
theorem dL_law_222 : decode cL_law 222 = .ok (.iaload, 1) := by decide +kernel
theorem dL_law_223 : decode cL_law 223 = .ok (.aload_n 0, 1) := by decide +kernel
theorem dL_law_224 : decode cL_law 224 = .ok (.iload 4, 2) := by decide +kernel
theorem dL_law_226 : decode cL_law 226 = .ok (.iconst 2, 1) := by decide +kernel
theorem dL_law_227 : decode cL_law 227 = .ok (.iadd, 1) := by decide +kernel
theorem dL_law_228 : decode cL_law 228 = .ok (.iaload, 1) := by decide +kernel
theorem dL_law_229 : decode cL_law 229 = .ok (.aload_n 0, 1) := by decide +kernel
theorem dL_law_230 : decode cL_law 230 = .ok (.iload 4, 2) := by decide +kernel
theorem dL_law_232 : decode cL_law 232 = .ok (.iconst 3, 1) := by decide +kernel
theorem dL_law_233 : decode cL_law 233 = .ok (.iadd, 1) := by decide +kernel
theorem dL_law_234 : decode cL_law 234 = .ok (.iaload, 1) := by decide +kernel
theorem dL_law_235 : decode cL_law 235 = .ok (.aload_n 3, 1) := by decide +kernel
theorem dL_law_236 : decode cL_law 236 = .ok (.invokestatic 107, 3) := by decide +kernel
theorem dL_law_239 : decode cL_law 239 = .ok (.istore 5, 2) := by decide +kernel
theorem dL_law_241 : decode cL_law 241 = .ok (.aload_n 2, 1) := by decide +kernel
theorem dL_law_242 : decode cL_law 242 = .ok (.aload_n 0, 1) := by decide +kernel
theorem dL_law_243 : decode cL_law 243 = .ok (.iload 4, 2) := by decide +kernel
theorem dL_law_245 : decode cL_law 245 = .ok (.iconst 1, 1) := by decide +kernel
theorem dL_law_246 : decode cL_law 246 = .ok (.iadd, 1) := by decide +kernel
theorem dL_law_247 : decode cL_law 247 = .ok (.iaload, 1) := by decide +kernel
theorem dL_law_248 : decode cL_law 248 = .ok (.aload_n 0, 1) := by decide +kernel
theorem dL_law_249 : decode cL_law 249 = .ok (.iload 4, 2) := by decide +kernel
theorem dL_law_251 : decode cL_law 251 = .ok (.iconst 2, 1) := by decide +kernel
theorem dL_law_252 : decode cL_law 252 = .ok (.iadd, 1) := by decide +kernel
theorem dL_law_253 : decode cL_law 253 = .ok (.iaload, 1) := by decide +kernel
theorem dL_law_254 : decode cL_law 254 = .ok (.aload_n 0, 1) := by decide +kernel
theorem dL_law_255 : decode cL_law 255 = .ok (.iload 4, 2) := by decide +kernel
theorem dL_law_257 : decode cL_law 257 = .ok (.iconst 3, 1) := by decide +kernel
theorem dL_law_258 : decode cL_law 258 = .ok (.iadd, 1) := by decide +kernel
theorem dL_law_259 : decode cL_law 259 = .ok (.iaload, 1) := by decide +kernel
theorem dL_law_260 : decode cL_law 260 = .ok (.invokevirtual 110, 3) := by decide +kernel
theorem dL_law_263 : decode cL_law 263 = .ok (.istore 6, 2) := by decide +kernel
theorem dL_law_265 : decode cL_law 265 = .ok (.aload_n 2, 1) := by decide +kernel
theorem dL_law_266 : decode cL_law 266 = .ok (.invokevirtual 104, 3) := by decide +kernel
theorem dL_law_269 : decode cL_law 269 = .ok (.iload 5, 2) := by decide +kernel
theorem dL_law_271 : decode cL_law 271 = .ok (.if_icmp .eq 5, 3) := by decide +kernel
theorem dL_law_274 : decode cL_law 274 = .ok (.iconst 0, 1) := by decide +kernel
theorem dL_law_275 : decode cL_law 275 = .ok (.ireturn, 1) := by decide +kernel
theorem dL_law_276 : decode cL_law 276 = .ok (.iload 5, 2) := by decide +kernel
theorem dL_law_278 : decode cL_law 278 = .ok (.ifCond .ne 15, 3) := by decide +kernel
theorem dL_law_281 : decode cL_law 281 = .ok (.aload_n 3, 1) := by decide +kernel
theorem dL_law_282 : decode cL_law 282 = .ok (.iconst 0, 1) := by decide +kernel
theorem dL_law_283 : decode cL_law 283 = .ok (.laload, 1) := by decide +kernel
theorem dL_law_284 : decode cL_law 284 = .ok (.iload 6, 2) := by decide +kernel
theorem dL_law_286 : decode cL_law 286 = .ok (.i2l, 1) := by decide +kernel
theorem dL_law_287 : decode cL_law 287 = .ok (.lcmp, 1) := by decide +kernel
theorem dL_law_288 : decode cL_law 288 = .ok (.ifCond .eq 5, 3) := by decide +kernel
theorem dL_law_291 : decode cL_law 291 = .ok (.iconst 0, 1) := by decide +kernel
theorem dL_law_292 : decode cL_law 292 = .ok (.ireturn, 1) := by decide +kernel
theorem dL_law_293 : decode cL_law 293 = .ok (.goto 1661, 3) := by decide +kernel
theorem dL_law_296 : decode cL_law 296 = .ok (.aload_n 1, 1) := by decide +kernel
theorem dL_law_297 : decode cL_law 297 = .ok (.aload_n 0, 1) := by decide +kernel
theorem dL_law_298 : decode cL_law 298 = .ok (.iload 4, 2) := by decide +kernel
theorem dL_law_300 : decode cL_law 300 = .ok (.iconst 1, 1) := by decide +kernel
theorem dL_law_301 : decode cL_law 301 = .ok (.iadd, 1) := by decide +kernel
theorem dL_law_302 : decode cL_law 302 = .ok (.iaload, 1) := by decide +kernel
theorem dL_law_303 : decode cL_law 303 = .ok (.aload_n 0, 1) := by decide +kernel
theorem dL_law_304 : decode cL_law 304 = .ok (.iload 4, 2) := by decide +kernel
theorem dL_law_306 : decode cL_law 306 = .ok (.iconst 2, 1) := by decide +kernel
theorem dL_law_307 : decode cL_law 307 = .ok (.iadd, 1) := by decide +kernel
theorem dL_law_308 : decode cL_law 308 = .ok (.iaload, 1) := by decide +kernel
theorem dL_law_309 : decode cL_law 309 = .ok (.aload_n 0, 1) := by decide +kernel
theorem dL_law_310 : decode cL_law 310 = .ok (.iload 4, 2) := by decide +kernel
theorem dL_law_312 : decode cL_law 312 = .ok (.iconst 3, 1) := by decide +kernel
theorem dL_law_313 : decode cL_law 313 = .ok (.iadd, 1) := by decide +kernel
theorem dL_law_314 : decode cL_law 314 = .ok (.iaload, 1) := by decide +kernel
theorem dL_law_315 : decode cL_law 315 = .ok (.aload_n 3, 1) := by decide +kernel
theorem dL_law_316 : decode cL_law 316 = .ok (.invokestatic 111, 3) := by decide +kernel
theorem dL_law_319 : decode cL_law 319 = .ok (.istore 5, 2) := by decide +kernel
theorem dL_law_321 : decode cL_law 321 = .ok (.aload_n 2, 1) := by decide +kernel
theorem dL_law_322 : decode cL_law 322 = .ok (.aload_n 0, 1) := by decide +kernel
theorem dL_law_323 : decode cL_law 323 = .ok (.iload 4, 2) := by decide +kernel
theorem dL_law_325 : decode cL_law 325 = .ok (.iconst 1, 1) := by decide +kernel
theorem dL_law_326 : decode cL_law 326 = .ok (.iadd, 1) := by decide +kernel
theorem dL_law_327 : decode cL_law 327 = .ok (.iaload, 1) := by decide +kernel
theorem dL_law_328 : decode cL_law 328 = .ok (.aload_n 0, 1) := by decide +kernel
theorem dL_law_329 : decode cL_law 329 = .ok (.iload 4, 2) := by decide +kernel
theorem dL_law_331 : decode cL_law 331 = .ok (.iconst 2, 1) := by decide +kernel
theorem dL_law_332 : decode cL_law 332 = .ok (.iadd, 1) := by decide +kernel
theorem dL_law_333 : decode cL_law 333 = .ok (.iaload, 1) := by decide +kernel
theorem dL_law_334 : decode cL_law 334 = .ok (.aload_n 0, 1) := by decide +kernel
theorem dL_law_335 : decode cL_law 335 = .ok (.iload 4, 2) := by decide +kernel
theorem dL_law_337 : decode cL_law 337 = .ok (.iconst 3, 1) := by decide +kernel
theorem dL_law_338 : decode cL_law 338 = .ok (.iadd, 1) := by decide +kernel
theorem dL_law_339 : decode cL_law 339 = .ok (.iaload, 1) := by decide +kernel
theorem dL_law_340 : decode cL_law 340 = .ok (.invokevirtual 113, 3) := by decide +kernel
theorem dL_law_343 : decode cL_law 343 = .ok (.istore 6, 2) := by decide +kernel
theorem dL_law_345 : decode cL_law 345 = .ok (.aload_n 2, 1) := by decide +kernel
theorem dL_law_346 : decode cL_law 346 = .ok (.invokevirtual 104, 3) := by decide +kernel
theorem dL_law_349 : decode cL_law 349 = .ok (.iload 5, 2) := by decide +kernel
theorem dL_law_351 : decode cL_law 351 = .ok (.if_icmp .eq 5, 3) := by decide +kernel
theorem dL_law_354 : decode cL_law 354 = .ok (.iconst 0, 1) := by decide +kernel
theorem dL_law_355 : decode cL_law 355 = .ok (.ireturn, 1) := by decide +kernel
theorem dL_law_356 : decode cL_law 356 = .ok (.iload 5, 2) := by decide +kernel
theorem dL_law_358 : decode cL_law 358 = .ok (.ifCond .ne 22, 3) := by decide +kernel
theorem dL_law_361 : decode cL_law 361 = .ok (.aload_n 3, 1) := by decide +kernel
theorem dL_law_362 : decode cL_law 362 = .ok (.iconst 0, 1) := by decide +kernel
theorem dL_law_363 : decode cL_law 363 = .ok (.laload, 1) := by decide +kernel
theorem dL_law_364 : decode cL_law 364 = .ok (.iload 6, 2) := by decide +kernel
theorem dL_law_366 : decode cL_law 366 = .ok (.ifCond .eq 7, 3) := by decide +kernel
theorem dL_law_369 : decode cL_law 369 = .ok (.lconst 1, 1) := by decide +kernel
theorem dL_law_370 : decode cL_law 370 = .ok (.goto 4, 3) := by decide +kernel
theorem dL_law_373 : decode cL_law 373 = .ok (.lconst 0, 1) := by decide +kernel
theorem dL_law_374 : decode cL_law 374 = .ok (.lcmp, 1) := by decide +kernel
theorem dL_law_375 : decode cL_law 375 = .ok (.ifCond .eq 5, 3) := by decide +kernel
theorem dL_law_378 : decode cL_law 378 = .ok (.iconst 0, 1) := by decide +kernel
theorem dL_law_379 : decode cL_law 379 = .ok (.ireturn, 1) := by decide +kernel
theorem dL_law_380 : decode cL_law 380 = .ok (.goto 1574, 3) := by decide +kernel
theorem dL_law_383 : decode cL_law 383 = .ok (.aload_n 1, 1) := by decide +kernel
theorem dL_law_384 : decode cL_law 384 = .ok (.aload_n 0, 1) := by decide +kernel
theorem dL_law_385 : decode cL_law 385 = .ok (.iload 4, 2) := by decide +kernel
theorem dL_law_387 : decode cL_law 387 = .ok (.iconst 1, 1) := by decide +kernel
theorem dL_law_388 : decode cL_law 388 = .ok (.iadd, 1) := by decide +kernel
theorem dL_law_389 : decode cL_law 389 = .ok (.iaload, 1) := by decide +kernel
theorem dL_law_390 : decode cL_law 390 = .ok (.aload_n 0, 1) := by decide +kernel
theorem dL_law_391 : decode cL_law 391 = .ok (.iload 4, 2) := by decide +kernel
theorem dL_law_393 : decode cL_law 393 = .ok (.iconst 2, 1) := by decide +kernel
theorem dL_law_394 : decode cL_law 394 = .ok (.iadd, 1) := by decide +kernel
theorem dL_law_395 : decode cL_law 395 = .ok (.iaload, 1) := by decide +kernel
theorem dL_law_396 : decode cL_law 396 = .ok (.aload_n 0, 1) := by decide +kernel
theorem dL_law_397 : decode cL_law 397 = .ok (.iload 4, 2) := by decide +kernel
theorem dL_law_399 : decode cL_law 399 = .ok (.iconst 3, 1) := by decide +kernel
theorem dL_law_400 : decode cL_law 400 = .ok (.iadd, 1) := by decide +kernel
theorem dL_law_401 : decode cL_law 401 = .ok (.iaload, 1) := by decide +kernel
theorem dL_law_402 : decode cL_law 402 = .ok (.aload_n 0, 1) := by decide +kernel
theorem dL_law_403 : decode cL_law 403 = .ok (.iload 4, 2) := by decide +kernel
theorem dL_law_405 : decode cL_law 405 = .ok (.iconst 4, 1) := by decide +kernel
theorem dL_law_406 : decode cL_law 406 = .ok (.iadd, 1) := by decide +kernel
theorem dL_law_407 : decode cL_law 407 = .ok (.iaload, 1) := by decide +kernel
theorem dL_law_408 : decode cL_law 408 = .ok (.aload_n 0, 1) := by decide +kernel
theorem dL_law_409 : decode cL_law 409 = .ok (.iload 4, 2) := by decide +kernel
theorem dL_law_411 : decode cL_law 411 = .ok (.iconst 5, 1) := by decide +kernel
theorem dL_law_412 : decode cL_law 412 = .ok (.iadd, 1) := by decide +kernel
theorem dL_law_413 : decode cL_law 413 = .ok (.iaload, 1) := by decide +kernel
theorem dL_law_414 : decode cL_law 414 = .ok (.aload_n 3, 1) := by decide +kernel
theorem dL_law_415 : decode cL_law 415 = .ok (.invokestatic 114, 3) := by decide +kernel
theorem dL_law_418 : decode cL_law 418 = .ok (.istore 5, 2) := by decide +kernel
theorem dL_law_420 : decode cL_law 420 = .ok (.aload_n 2, 1) := by decide +kernel
theorem dL_law_421 : decode cL_law 421 = .ok (.aload_n 0, 1) := by decide +kernel
theorem dL_law_422 : decode cL_law 422 = .ok (.iload 4, 2) := by decide +kernel
theorem dL_law_424 : decode cL_law 424 = .ok (.iconst 1, 1) := by decide +kernel
theorem dL_law_425 : decode cL_law 425 = .ok (.iadd, 1) := by decide +kernel
theorem dL_law_426 : decode cL_law 426 = .ok (.iaload, 1) := by decide +kernel
theorem dL_law_427 : decode cL_law 427 = .ok (.aload_n 0, 1) := by decide +kernel
theorem dL_law_428 : decode cL_law 428 = .ok (.iload 4, 2) := by decide +kernel
theorem dL_law_430 : decode cL_law 430 = .ok (.iconst 2, 1) := by decide +kernel
theorem dL_law_431 : decode cL_law 431 = .ok (.iadd, 1) := by decide +kernel
theorem dL_law_432 : decode cL_law 432 = .ok (.iaload, 1) := by decide +kernel
theorem dL_law_433 : decode cL_law 433 = .ok (.aload_n 0, 1) := by decide +kernel
theorem dL_law_434 : decode cL_law 434 = .ok (.iload 4, 2) := by decide +kernel
theorem dL_law_436 : decode cL_law 436 = .ok (.iconst 3, 1) := by decide +kernel
theorem dL_law_437 : decode cL_law 437 = .ok (.iadd, 1) := by decide +kernel
theorem dL_law_438 : decode cL_law 438 = .ok (.iaload, 1) := by decide +kernel
theorem dL_law_439 : decode cL_law 439 = .ok (.aload_n 0, 1) := by decide +kernel
theorem dL_law_440 : decode cL_law 440 = .ok (.iload 4, 2) := by decide +kernel
theorem dL_law_442 : decode cL_law 442 = .ok (.iconst 4, 1) := by decide +kernel
theorem dL_law_443 : decode cL_law 443 = .ok (.iadd, 1) := by decide +kernel
theorem dL_law_444 : decode cL_law 444 = .ok (.iaload, 1) := by decide +kernel
theorem dL_law_445 : decode cL_law 445 = .ok (.aload_n 0, 1) := by decide +kernel
theorem dL_law_446 : decode cL_law 446 = .ok (.iload 4, 2) := by decide +kernel
theorem dL_law_448 : decode cL_law 448 = .ok (.iconst 5, 1) := by decide +kernel
theorem dL_law_449 : decode cL_law 449 = .ok (.iadd, 1) := by decide +kernel
theorem dL_law_450 : decode cL_law 450 = .ok (.iaload, 1) := by decide +kernel
theorem dL_law_451 : decode cL_law 451 = .ok (.invokevirtual 117, 3) := by decide +kernel
theorem dL_law_454 : decode cL_law 454 = .ok (.istore 6, 2) := by decide +kernel
theorem dL_law_456 : decode cL_law 456 = .ok (.aload_n 2, 1) := by decide +kernel
theorem dL_law_457 : decode cL_law 457 = .ok (.invokevirtual 104, 3) := by decide +kernel
theorem dL_law_460 : decode cL_law 460 = .ok (.iload 5, 2) := by decide +kernel
theorem dL_law_462 : decode cL_law 462 = .ok (.if_icmp .eq 5, 3) := by decide +kernel
theorem dL_law_465 : decode cL_law 465 = .ok (.iconst 0, 1) := by decide +kernel
theorem dL_law_466 : decode cL_law 466 = .ok (.ireturn, 1) := by decide +kernel
theorem dL_law_467 : decode cL_law 467 = .ok (.iload 5, 2) := by decide +kernel
theorem dL_law_469 : decode cL_law 469 = .ok (.ifCond .ne 15, 3) := by decide +kernel
theorem dL_law_472 : decode cL_law 472 = .ok (.aload_n 3, 1) := by decide +kernel
theorem dL_law_473 : decode cL_law 473 = .ok (.iconst 0, 1) := by decide +kernel
theorem dL_law_474 : decode cL_law 474 = .ok (.laload, 1) := by decide +kernel
theorem dL_law_475 : decode cL_law 475 = .ok (.iload 6, 2) := by decide +kernel
theorem dL_law_477 : decode cL_law 477 = .ok (.i2l, 1) := by decide +kernel
theorem dL_law_478 : decode cL_law 478 = .ok (.lcmp, 1) := by decide +kernel
theorem dL_law_479 : decode cL_law 479 = .ok (.ifCond .eq 5, 3) := by decide +kernel
theorem dL_law_482 : decode cL_law 482 = .ok (.iconst 0, 1) := by decide +kernel
theorem dL_law_483 : decode cL_law 483 = .ok (.ireturn, 1) := by decide +kernel
theorem dL_law_484 : decode cL_law 484 = .ok (.goto 1470, 3) := by decide +kernel
theorem dL_law_487 : decode cL_law 487 = .ok (.aload_n 1, 1) := by decide +kernel
theorem dL_law_488 : decode cL_law 488 = .ok (.aload_n 0, 1) := by decide +kernel
theorem dL_law_489 : decode cL_law 489 = .ok (.iload 4, 2) := by decide +kernel
theorem dL_law_491 : decode cL_law 491 = .ok (.iconst 1, 1) := by decide +kernel
theorem dL_law_492 : decode cL_law 492 = .ok (.iadd, 1) := by decide +kernel
theorem dL_law_493 : decode cL_law 493 = .ok (.iaload, 1) := by decide +kernel
theorem dL_law_494 : decode cL_law 494 = .ok (.aload_n 0, 1) := by decide +kernel
theorem dL_law_495 : decode cL_law 495 = .ok (.iload 4, 2) := by decide +kernel
theorem dL_law_497 : decode cL_law 497 = .ok (.iconst 2, 1) := by decide +kernel
theorem dL_law_498 : decode cL_law 498 = .ok (.iadd, 1) := by decide +kernel
theorem dL_law_499 : decode cL_law 499 = .ok (.iaload, 1) := by decide +kernel
theorem dL_law_500 : decode cL_law 500 = .ok (.aload_n 3, 1) := by decide +kernel
theorem dL_law_501 : decode cL_law 501 = .ok (.invokestatic 118, 3) := by decide +kernel
theorem dL_law_504 : decode cL_law 504 = .ok (.istore 5, 2) := by decide +kernel
theorem dL_law_506 : decode cL_law 506 = .ok (.aload_n 2, 1) := by decide +kernel
theorem dL_law_507 : decode cL_law 507 = .ok (.aload_n 0, 1) := by decide +kernel
theorem dL_law_508 : decode cL_law 508 = .ok (.iload 4, 2) := by decide +kernel
theorem dL_law_510 : decode cL_law 510 = .ok (.iconst 1, 1) := by decide +kernel
theorem dL_law_511 : decode cL_law 511 = .ok (.iadd, 1) := by decide +kernel
theorem dL_law_512 : decode cL_law 512 = .ok (.iaload, 1) := by decide +kernel
theorem dL_law_513 : decode cL_law 513 = .ok (.aload_n 0, 1) := by decide +kernel
theorem dL_law_514 : decode cL_law 514 = .ok (.iload 4, 2) := by decide +kernel
theorem dL_law_516 : decode cL_law 516 = .ok (.iconst 2, 1) := by decide +kernel
theorem dL_law_517 : decode cL_law 517 = .ok (.iadd, 1) := by decide +kernel
theorem dL_law_518 : decode cL_law 518 = .ok (.iaload, 1) := by decide +kernel
theorem dL_law_519 : decode cL_law 519 = .ok (.invokevirtual 121, 3) := by decide +kernel
theorem dL_law_522 : decode cL_law 522 = .ok (.istore 6, 2) := by decide +kernel
theorem dL_law_524 : decode cL_law 524 = .ok (.aload_n 2, 1) := by decide +kernel
theorem dL_law_525 : decode cL_law 525 = .ok (.invokevirtual 104, 3) := by decide +kernel
theorem dL_law_528 : decode cL_law 528 = .ok (.iload 5, 2) := by decide +kernel
theorem dL_law_530 : decode cL_law 530 = .ok (.if_icmp .eq 5, 3) := by decide +kernel
theorem dL_law_533 : decode cL_law 533 = .ok (.iconst 0, 1) := by decide +kernel
theorem dL_law_534 : decode cL_law 534 = .ok (.ireturn, 1) := by decide +kernel
theorem dL_law_535 : decode cL_law 535 = .ok (.iload 5, 2) := by decide +kernel
theorem dL_law_537 : decode cL_law 537 = .ok (.ifCond .ne 15, 3) := by decide +kernel
theorem dL_law_540 : decode cL_law 540 = .ok (.aload_n 3, 1) := by decide +kernel
theorem dL_law_541 : decode cL_law 541 = .ok (.iconst 0, 1) := by decide +kernel
theorem dL_law_542 : decode cL_law 542 = .ok (.laload, 1) := by decide +kernel
theorem dL_law_543 : decode cL_law 543 = .ok (.iload 6, 2) := by decide +kernel
theorem dL_law_545 : decode cL_law 545 = .ok (.i2l, 1) := by decide +kernel
theorem dL_law_546 : decode cL_law 546 = .ok (.lcmp, 1) := by decide +kernel
theorem dL_law_547 : decode cL_law 547 = .ok (.ifCond .eq 5, 3) := by decide +kernel
theorem dL_law_550 : decode cL_law 550 = .ok (.iconst 0, 1) := by decide +kernel
theorem dL_law_551 : decode cL_law 551 = .ok (.ireturn, 1) := by decide +kernel
theorem dL_law_552 : decode cL_law 552 = .ok (.goto 1402, 3) := by decide +kernel
theorem dL_law_555 : decode cL_law 555 = .ok (.aload_n 1, 1) := by decide +kernel
theorem dL_law_556 : decode cL_law 556 = .ok (.aload_n 0, 1) := by decide +kernel
theorem dL_law_557 : decode cL_law 557 = .ok (.iload 4, 2) := by decide +kernel
theorem dL_law_559 : decode cL_law 559 = .ok (.iconst 1, 1) := by decide +kernel
theorem dL_law_560 : decode cL_law 560 = .ok (.iadd, 1) := by decide +kernel
theorem dL_law_561 : decode cL_law 561 = .ok (.iaload, 1) := by decide +kernel
theorem dL_law_562 : decode cL_law 562 = .ok (.aload_n 0, 1) := by decide +kernel
theorem dL_law_563 : decode cL_law 563 = .ok (.iload 4, 2) := by decide +kernel
theorem dL_law_565 : decode cL_law 565 = .ok (.iconst 2, 1) := by decide +kernel
theorem dL_law_566 : decode cL_law 566 = .ok (.iadd, 1) := by decide +kernel
theorem dL_law_567 : decode cL_law 567 = .ok (.iaload, 1) := by decide +kernel
theorem dL_law_568 : decode cL_law 568 = .ok (.aload_n 0, 1) := by decide +kernel
theorem dL_law_569 : decode cL_law 569 = .ok (.iload 4, 2) := by decide +kernel
theorem dL_law_571 : decode cL_law 571 = .ok (.iconst 3, 1) := by decide +kernel
theorem dL_law_572 : decode cL_law 572 = .ok (.iadd, 1) := by decide +kernel
theorem dL_law_573 : decode cL_law 573 = .ok (.iaload, 1) := by decide +kernel
theorem dL_law_574 : decode cL_law 574 = .ok (.aload_n 3, 1) := by decide +kernel
theorem dL_law_575 : decode cL_law 575 = .ok (.invokestatic 122, 3) := by decide +kernel
theorem dL_law_578 : decode cL_law 578 = .ok (.istore 5, 2) := by decide +kernel
theorem dL_law_580 : decode cL_law 580 = .ok (.aload_n 2, 1) := by decide +kernel
theorem dL_law_581 : decode cL_law 581 = .ok (.aload_n 0, 1) := by decide +kernel
theorem dL_law_582 : decode cL_law 582 = .ok (.iload 4, 2) := by decide +kernel
theorem dL_law_584 : decode cL_law 584 = .ok (.iconst 1, 1) := by decide +kernel
theorem dL_law_585 : decode cL_law 585 = .ok (.iadd, 1) := by decide +kernel
theorem dL_law_586 : decode cL_law 586 = .ok (.iaload, 1) := by decide +kernel
theorem dL_law_587 : decode cL_law 587 = .ok (.aload_n 0, 1) := by decide +kernel
theorem dL_law_588 : decode cL_law 588 = .ok (.iload 4, 2) := by decide +kernel
theorem dL_law_590 : decode cL_law 590 = .ok (.iconst 2, 1) := by decide +kernel
theorem dL_law_591 : decode cL_law 591 = .ok (.iadd, 1) := by decide +kernel
theorem dL_law_592 : decode cL_law 592 = .ok (.iaload, 1) := by decide +kernel
theorem dL_law_593 : decode cL_law 593 = .ok (.aload_n 0, 1) := by decide +kernel
theorem dL_law_594 : decode cL_law 594 = .ok (.iload 4, 2) := by decide +kernel
theorem dL_law_596 : decode cL_law 596 = .ok (.iconst 3, 1) := by decide +kernel
theorem dL_law_597 : decode cL_law 597 = .ok (.iadd, 1) := by decide +kernel
theorem dL_law_598 : decode cL_law 598 = .ok (.iaload, 1) := by decide +kernel
theorem dL_law_599 : decode cL_law 599 = .ok (.invokevirtual 124, 3) := by decide +kernel
theorem dL_law_602 : decode cL_law 602 = .ok (.istore 6, 2) := by decide +kernel
theorem dL_law_604 : decode cL_law 604 = .ok (.aload_n 2, 1) := by decide +kernel
theorem dL_law_605 : decode cL_law 605 = .ok (.invokevirtual 104, 3) := by decide +kernel
theorem dL_law_608 : decode cL_law 608 = .ok (.iload 5, 2) := by decide +kernel
theorem dL_law_610 : decode cL_law 610 = .ok (.if_icmp .eq 5, 3) := by decide +kernel
theorem dL_law_613 : decode cL_law 613 = .ok (.iconst 0, 1) := by decide +kernel
theorem dL_law_614 : decode cL_law 614 = .ok (.ireturn, 1) := by decide +kernel
theorem dL_law_615 : decode cL_law 615 = .ok (.iload 5, 2) := by decide +kernel
theorem dL_law_617 : decode cL_law 617 = .ok (.ifCond .ne 15, 3) := by decide +kernel
theorem dL_law_620 : decode cL_law 620 = .ok (.aload_n 3, 1) := by decide +kernel
theorem dL_law_621 : decode cL_law 621 = .ok (.iconst 0, 1) := by decide +kernel
theorem dL_law_622 : decode cL_law 622 = .ok (.laload, 1) := by decide +kernel
theorem dL_law_623 : decode cL_law 623 = .ok (.iload 6, 2) := by decide +kernel
theorem dL_law_625 : decode cL_law 625 = .ok (.i2l, 1) := by decide +kernel
theorem dL_law_626 : decode cL_law 626 = .ok (.lcmp, 1) := by decide +kernel
theorem dL_law_627 : decode cL_law 627 = .ok (.ifCond .eq 5, 3) := by decide +kernel
theorem dL_law_630 : decode cL_law 630 = .ok (.iconst 0, 1) := by decide +kernel
theorem dL_law_631 : decode cL_law 631 = .ok (.ireturn, 1) := by decide +kernel
theorem dL_law_632 : decode cL_law 632 = .ok (.goto 1322, 3) := by decide +kernel
theorem dL_law_635 : decode cL_law 635 = .ok (.aload_n 1, 1) := by decide +kernel
theorem dL_law_636 : decode cL_law 636 = .ok (.aload_n 0, 1) := by decide +kernel
theorem dL_law_637 : decode cL_law 637 = .ok (.iload 4, 2) := by decide +kernel
theorem dL_law_639 : decode cL_law 639 = .ok (.iconst 1, 1) := by decide +kernel
theorem dL_law_640 : decode cL_law 640 = .ok (.iadd, 1) := by decide +kernel
theorem dL_law_641 : decode cL_law 641 = .ok (.iaload, 1) := by decide +kernel
theorem dL_law_642 : decode cL_law 642 = .ok (.aload_n 0, 1) := by decide +kernel
theorem dL_law_643 : decode cL_law 643 = .ok (.iload 4, 2) := by decide +kernel
theorem dL_law_645 : decode cL_law 645 = .ok (.iconst 2, 1) := by decide +kernel
theorem dL_law_646 : decode cL_law 646 = .ok (.iadd, 1) := by decide +kernel
theorem dL_law_647 : decode cL_law 647 = .ok (.iaload, 1) := by decide +kernel
theorem dL_law_648 : decode cL_law 648 = .ok (.aload_n 0, 1) := by decide +kernel
theorem dL_law_649 : decode cL_law 649 = .ok (.iload 4, 2) := by decide +kernel
theorem dL_law_651 : decode cL_law 651 = .ok (.iconst 3, 1) := by decide +kernel
theorem dL_law_652 : decode cL_law 652 = .ok (.iadd, 1) := by decide +kernel
theorem dL_law_653 : decode cL_law 653 = .ok (.iaload, 1) := by decide +kernel
theorem dL_law_654 : decode cL_law 654 = .ok (.aload_n 3, 1) := by decide +kernel
theorem dL_law_655 : decode cL_law 655 = .ok (.invokestatic 125, 3) := by decide +kernel
theorem dL_law_658 : decode cL_law 658 = .ok (.istore 5, 2) := by decide +kernel
theorem dL_law_660 : decode cL_law 660 = .ok (.aload_n 2, 1) := by decide +kernel
theorem dL_law_661 : decode cL_law 661 = .ok (.aload_n 0, 1) := by decide +kernel
theorem dL_law_662 : decode cL_law 662 = .ok (.iload 4, 2) := by decide +kernel
theorem dL_law_664 : decode cL_law 664 = .ok (.iconst 1, 1) := by decide +kernel
theorem dL_law_665 : decode cL_law 665 = .ok (.iadd, 1) := by decide +kernel
theorem dL_law_666 : decode cL_law 666 = .ok (.iaload, 1) := by decide +kernel
theorem dL_law_667 : decode cL_law 667 = .ok (.aload_n 0, 1) := by decide +kernel
theorem dL_law_668 : decode cL_law 668 = .ok (.iload 4, 2) := by decide +kernel
theorem dL_law_670 : decode cL_law 670 = .ok (.iconst 2, 1) := by decide +kernel
theorem dL_law_671 : decode cL_law 671 = .ok (.iadd, 1) := by decide +kernel
theorem dL_law_672 : decode cL_law 672 = .ok (.iaload, 1) := by decide +kernel
theorem dL_law_673 : decode cL_law 673 = .ok (.aload_n 0, 1) := by decide +kernel
theorem dL_law_674 : decode cL_law 674 = .ok (.iload 4, 2) := by decide +kernel
theorem dL_law_676 : decode cL_law 676 = .ok (.iconst 3, 1) := by decide +kernel
theorem dL_law_677 : decode cL_law 677 = .ok (.iadd, 1) := by decide +kernel
theorem dL_law_678 : decode cL_law 678 = .ok (.iaload, 1) := by decide +kernel
theorem dL_law_679 : decode cL_law 679 = .ok (.invokevirtual 127, 3) := by decide +kernel
theorem dL_law_682 : decode cL_law 682 = .ok (.istore 6, 2) := by decide +kernel
theorem dL_law_684 : decode cL_law 684 = .ok (.aload_n 2, 1) := by decide +kernel
theorem dL_law_685 : decode cL_law 685 = .ok (.invokevirtual 104, 3) := by decide +kernel
theorem dL_law_688 : decode cL_law 688 = .ok (.iload 5, 2) := by decide +kernel
theorem dL_law_690 : decode cL_law 690 = .ok (.if_icmp .eq 5, 3) := by decide +kernel
theorem dL_law_693 : decode cL_law 693 = .ok (.iconst 0, 1) := by decide +kernel
theorem dL_law_694 : decode cL_law 694 = .ok (.ireturn, 1) := by decide +kernel
theorem dL_law_695 : decode cL_law 695 = .ok (.iload 5, 2) := by decide +kernel
theorem dL_law_697 : decode cL_law 697 = .ok (.ifCond .ne 15, 3) := by decide +kernel
theorem dL_law_700 : decode cL_law 700 = .ok (.aload_n 3, 1) := by decide +kernel
theorem dL_law_701 : decode cL_law 701 = .ok (.iconst 0, 1) := by decide +kernel
theorem dL_law_702 : decode cL_law 702 = .ok (.laload, 1) := by decide +kernel
theorem dL_law_703 : decode cL_law 703 = .ok (.iload 6, 2) := by decide +kernel
theorem dL_law_705 : decode cL_law 705 = .ok (.i2l, 1) := by decide +kernel
theorem dL_law_706 : decode cL_law 706 = .ok (.lcmp, 1) := by decide +kernel
theorem dL_law_707 : decode cL_law 707 = .ok (.ifCond .eq 5, 3) := by decide +kernel
theorem dL_law_710 : decode cL_law 710 = .ok (.iconst 0, 1) := by decide +kernel
theorem dL_law_711 : decode cL_law 711 = .ok (.ireturn, 1) := by decide +kernel
theorem dL_law_712 : decode cL_law 712 = .ok (.goto 1242, 3) := by decide +kernel
theorem dL_law_715 : decode cL_law 715 = .ok (.aload_n 1, 1) := by decide +kernel
theorem dL_law_716 : decode cL_law 716 = .ok (.aload_n 0, 1) := by decide +kernel
theorem dL_law_717 : decode cL_law 717 = .ok (.iload 4, 2) := by decide +kernel
theorem dL_law_719 : decode cL_law 719 = .ok (.iconst 1, 1) := by decide +kernel
theorem dL_law_720 : decode cL_law 720 = .ok (.iadd, 1) := by decide +kernel
theorem dL_law_721 : decode cL_law 721 = .ok (.iaload, 1) := by decide +kernel
theorem dL_law_722 : decode cL_law 722 = .ok (.aload_n 0, 1) := by decide +kernel
theorem dL_law_723 : decode cL_law 723 = .ok (.iload 4, 2) := by decide +kernel
theorem dL_law_725 : decode cL_law 725 = .ok (.iconst 2, 1) := by decide +kernel
theorem dL_law_726 : decode cL_law 726 = .ok (.iadd, 1) := by decide +kernel
theorem dL_law_727 : decode cL_law 727 = .ok (.iaload, 1) := by decide +kernel
theorem dL_law_728 : decode cL_law 728 = .ok (.aload_n 3, 1) := by decide +kernel
theorem dL_law_729 : decode cL_law 729 = .ok (.invokestatic 128, 3) := by decide +kernel
theorem dL_law_732 : decode cL_law 732 = .ok (.istore 5, 2) := by decide +kernel
theorem dL_law_734 : decode cL_law 734 = .ok (.aload_n 2, 1) := by decide +kernel
theorem dL_law_735 : decode cL_law 735 = .ok (.aload_n 0, 1) := by decide +kernel
theorem dL_law_736 : decode cL_law 736 = .ok (.iload 4, 2) := by decide +kernel
theorem dL_law_738 : decode cL_law 738 = .ok (.iconst 1, 1) := by decide +kernel
theorem dL_law_739 : decode cL_law 739 = .ok (.iadd, 1) := by decide +kernel
theorem dL_law_740 : decode cL_law 740 = .ok (.iaload, 1) := by decide +kernel
theorem dL_law_741 : decode cL_law 741 = .ok (.aload_n 0, 1) := by decide +kernel
theorem dL_law_742 : decode cL_law 742 = .ok (.iload 4, 2) := by decide +kernel
theorem dL_law_744 : decode cL_law 744 = .ok (.iconst 2, 1) := by decide +kernel
theorem dL_law_745 : decode cL_law 745 = .ok (.iadd, 1) := by decide +kernel
theorem dL_law_746 : decode cL_law 746 = .ok (.iaload, 1) := by decide +kernel
theorem dL_law_747 : decode cL_law 747 = .ok (.invokevirtual 130, 3) := by decide +kernel
theorem dL_law_750 : decode cL_law 750 = .ok (.istore 6, 2) := by decide +kernel
theorem dL_law_752 : decode cL_law 752 = .ok (.aload_n 2, 1) := by decide +kernel
theorem dL_law_753 : decode cL_law 753 = .ok (.invokevirtual 104, 3) := by decide +kernel
theorem dL_law_756 : decode cL_law 756 = .ok (.iload 5, 2) := by decide +kernel
theorem dL_law_758 : decode cL_law 758 = .ok (.if_icmp .eq 5, 3) := by decide +kernel
theorem dL_law_761 : decode cL_law 761 = .ok (.iconst 0, 1) := by decide +kernel
theorem dL_law_762 : decode cL_law 762 = .ok (.ireturn, 1) := by decide +kernel
theorem dL_law_763 : decode cL_law 763 = .ok (.iload 5, 2) := by decide +kernel
theorem dL_law_765 : decode cL_law 765 = .ok (.ifCond .ne 15, 3) := by decide +kernel
theorem dL_law_768 : decode cL_law 768 = .ok (.aload_n 3, 1) := by decide +kernel
theorem dL_law_769 : decode cL_law 769 = .ok (.iconst 0, 1) := by decide +kernel
theorem dL_law_770 : decode cL_law 770 = .ok (.laload, 1) := by decide +kernel
theorem dL_law_771 : decode cL_law 771 = .ok (.iload 6, 2) := by decide +kernel
theorem dL_law_773 : decode cL_law 773 = .ok (.i2l, 1) := by decide +kernel
theorem dL_law_774 : decode cL_law 774 = .ok (.lcmp, 1) := by decide +kernel
theorem dL_law_775 : decode cL_law 775 = .ok (.ifCond .eq 5, 3) := by decide +kernel
theorem dL_law_778 : decode cL_law 778 = .ok (.iconst 0, 1) := by decide +kernel
theorem dL_law_779 : decode cL_law 779 = .ok (.ireturn, 1) := by decide +kernel
theorem dL_law_780 : decode cL_law 780 = .ok (.goto 1174, 3) := by decide +kernel
theorem dL_law_783 : decode cL_law 783 = .ok (.aload_n 1, 1) := by decide +kernel
theorem dL_law_784 : decode cL_law 784 = .ok (.aload_n 0, 1) := by decide +kernel
theorem dL_law_785 : decode cL_law 785 = .ok (.iload 4, 2) := by decide +kernel
theorem dL_law_787 : decode cL_law 787 = .ok (.iconst 1, 1) := by decide +kernel
theorem dL_law_788 : decode cL_law 788 = .ok (.iadd, 1) := by decide +kernel
theorem dL_law_789 : decode cL_law 789 = .ok (.iaload, 1) := by decide +kernel
theorem dL_law_790 : decode cL_law 790 = .ok (.aload_n 0, 1) := by decide +kernel
theorem dL_law_791 : decode cL_law 791 = .ok (.iload 4, 2) := by decide +kernel
theorem dL_law_793 : decode cL_law 793 = .ok (.iconst 2, 1) := by decide +kernel
theorem dL_law_794 : decode cL_law 794 = .ok (.iadd, 1) := by decide +kernel
theorem dL_law_795 : decode cL_law 795 = .ok (.iaload, 1) := by decide +kernel
theorem dL_law_796 : decode cL_law 796 = .ok (.aload_n 0, 1) := by decide +kernel
theorem dL_law_797 : decode cL_law 797 = .ok (.iload 4, 2) := by decide +kernel
theorem dL_law_799 : decode cL_law 799 = .ok (.iconst 3, 1) := by decide +kernel
theorem dL_law_800 : decode cL_law 800 = .ok (.iadd, 1) := by decide +kernel
theorem dL_law_801 : decode cL_law 801 = .ok (.iaload, 1) := by decide +kernel
theorem dL_law_802 : decode cL_law 802 = .ok (.aload_n 3, 1) := by decide +kernel
theorem dL_law_803 : decode cL_law 803 = .ok (.invokestatic 131, 3) := by decide +kernel
theorem dL_law_806 : decode cL_law 806 = .ok (.istore 5, 2) := by decide +kernel
theorem dL_law_808 : decode cL_law 808 = .ok (.aload_n 2, 1) := by decide +kernel
theorem dL_law_809 : decode cL_law 809 = .ok (.aload_n 0, 1) := by decide +kernel
theorem dL_law_810 : decode cL_law 810 = .ok (.iload 4, 2) := by decide +kernel
theorem dL_law_812 : decode cL_law 812 = .ok (.iconst 1, 1) := by decide +kernel
theorem dL_law_813 : decode cL_law 813 = .ok (.iadd, 1) := by decide +kernel
theorem dL_law_814 : decode cL_law 814 = .ok (.iaload, 1) := by decide +kernel
theorem dL_law_815 : decode cL_law 815 = .ok (.aload_n 0, 1) := by decide +kernel
theorem dL_law_816 : decode cL_law 816 = .ok (.iload 4, 2) := by decide +kernel
theorem dL_law_818 : decode cL_law 818 = .ok (.iconst 2, 1) := by decide +kernel
theorem dL_law_819 : decode cL_law 819 = .ok (.iadd, 1) := by decide +kernel
theorem dL_law_820 : decode cL_law 820 = .ok (.iaload, 1) := by decide +kernel
theorem dL_law_821 : decode cL_law 821 = .ok (.aload_n 0, 1) := by decide +kernel
theorem dL_law_822 : decode cL_law 822 = .ok (.iload 4, 2) := by decide +kernel
theorem dL_law_824 : decode cL_law 824 = .ok (.iconst 3, 1) := by decide +kernel
theorem dL_law_825 : decode cL_law 825 = .ok (.iadd, 1) := by decide +kernel
theorem dL_law_826 : decode cL_law 826 = .ok (.iaload, 1) := by decide +kernel
theorem dL_law_827 : decode cL_law 827 = .ok (.invokevirtual 133, 3) := by decide +kernel
theorem dL_law_830 : decode cL_law 830 = .ok (.istore 6, 2) := by decide +kernel
theorem dL_law_832 : decode cL_law 832 = .ok (.aload_n 2, 1) := by decide +kernel
theorem dL_law_833 : decode cL_law 833 = .ok (.invokevirtual 104, 3) := by decide +kernel
theorem dL_law_836 : decode cL_law 836 = .ok (.iload 5, 2) := by decide +kernel
theorem dL_law_838 : decode cL_law 838 = .ok (.if_icmp .eq 5, 3) := by decide +kernel
theorem dL_law_841 : decode cL_law 841 = .ok (.iconst 0, 1) := by decide +kernel
theorem dL_law_842 : decode cL_law 842 = .ok (.ireturn, 1) := by decide +kernel
theorem dL_law_843 : decode cL_law 843 = .ok (.iload 5, 2) := by decide +kernel
theorem dL_law_845 : decode cL_law 845 = .ok (.ifCond .ne 15, 3) := by decide +kernel
theorem dL_law_848 : decode cL_law 848 = .ok (.aload_n 3, 1) := by decide +kernel
theorem dL_law_849 : decode cL_law 849 = .ok (.iconst 0, 1) := by decide +kernel
theorem dL_law_850 : decode cL_law 850 = .ok (.laload, 1) := by decide +kernel
theorem dL_law_851 : decode cL_law 851 = .ok (.iload 6, 2) := by decide +kernel
theorem dL_law_853 : decode cL_law 853 = .ok (.i2l, 1) := by decide +kernel
theorem dL_law_854 : decode cL_law 854 = .ok (.lcmp, 1) := by decide +kernel
theorem dL_law_855 : decode cL_law 855 = .ok (.ifCond .eq 5, 3) := by decide +kernel
theorem dL_law_858 : decode cL_law 858 = .ok (.iconst 0, 1) := by decide +kernel
theorem dL_law_859 : decode cL_law 859 = .ok (.ireturn, 1) := by decide +kernel
theorem dL_law_860 : decode cL_law 860 = .ok (.goto 1094, 3) := by decide +kernel
theorem dL_law_863 : decode cL_law 863 = .ok (.aload_n 1, 1) := by decide +kernel
theorem dL_law_864 : decode cL_law 864 = .ok (.aload_n 0, 1) := by decide +kernel
theorem dL_law_865 : decode cL_law 865 = .ok (.iload 4, 2) := by decide +kernel
theorem dL_law_867 : decode cL_law 867 = .ok (.iconst 1, 1) := by decide +kernel
theorem dL_law_868 : decode cL_law 868 = .ok (.iadd, 1) := by decide +kernel
theorem dL_law_869 : decode cL_law 869 = .ok (.iaload, 1) := by decide +kernel
theorem dL_law_870 : decode cL_law 870 = .ok (.aload_n 0, 1) := by decide +kernel
theorem dL_law_871 : decode cL_law 871 = .ok (.iload 4, 2) := by decide +kernel
theorem dL_law_873 : decode cL_law 873 = .ok (.iconst 2, 1) := by decide +kernel
theorem dL_law_874 : decode cL_law 874 = .ok (.iadd, 1) := by decide +kernel
theorem dL_law_875 : decode cL_law 875 = .ok (.iaload, 1) := by decide +kernel
theorem dL_law_876 : decode cL_law 876 = .ok (.aload_n 3, 1) := by decide +kernel
theorem dL_law_877 : decode cL_law 877 = .ok (.invokestatic 134, 3) := by decide +kernel
theorem dL_law_880 : decode cL_law 880 = .ok (.istore 5, 2) := by decide +kernel
theorem dL_law_882 : decode cL_law 882 = .ok (.aload_n 2, 1) := by decide +kernel
theorem dL_law_883 : decode cL_law 883 = .ok (.aload_n 0, 1) := by decide +kernel
theorem dL_law_884 : decode cL_law 884 = .ok (.iload 4, 2) := by decide +kernel
theorem dL_law_886 : decode cL_law 886 = .ok (.iconst 1, 1) := by decide +kernel
theorem dL_law_887 : decode cL_law 887 = .ok (.iadd, 1) := by decide +kernel
theorem dL_law_888 : decode cL_law 888 = .ok (.iaload, 1) := by decide +kernel
theorem dL_law_889 : decode cL_law 889 = .ok (.aload_n 0, 1) := by decide +kernel
theorem dL_law_890 : decode cL_law 890 = .ok (.iload 4, 2) := by decide +kernel
theorem dL_law_892 : decode cL_law 892 = .ok (.iconst 2, 1) := by decide +kernel
theorem dL_law_893 : decode cL_law 893 = .ok (.iadd, 1) := by decide +kernel
theorem dL_law_894 : decode cL_law 894 = .ok (.iaload, 1) := by decide +kernel
theorem dL_law_895 : decode cL_law 895 = .ok (.invokevirtual 136, 3) := by decide +kernel
theorem dL_law_898 : decode cL_law 898 = .ok (.istore 6, 2) := by decide +kernel
theorem dL_law_900 : decode cL_law 900 = .ok (.aload_n 2, 1) := by decide +kernel
theorem dL_law_901 : decode cL_law 901 = .ok (.invokevirtual 104, 3) := by decide +kernel
theorem dL_law_904 : decode cL_law 904 = .ok (.iload 5, 2) := by decide +kernel
theorem dL_law_906 : decode cL_law 906 = .ok (.if_icmp .eq 5, 3) := by decide +kernel
theorem dL_law_909 : decode cL_law 909 = .ok (.iconst 0, 1) := by decide +kernel
theorem dL_law_910 : decode cL_law 910 = .ok (.ireturn, 1) := by decide +kernel
theorem dL_law_911 : decode cL_law 911 = .ok (.iload 5, 2) := by decide +kernel
theorem dL_law_913 : decode cL_law 913 = .ok (.ifCond .ne 15, 3) := by decide +kernel
theorem dL_law_916 : decode cL_law 916 = .ok (.aload_n 3, 1) := by decide +kernel
theorem dL_law_917 : decode cL_law 917 = .ok (.iconst 0, 1) := by decide +kernel
theorem dL_law_918 : decode cL_law 918 = .ok (.laload, 1) := by decide +kernel
theorem dL_law_919 : decode cL_law 919 = .ok (.iload 6, 2) := by decide +kernel
theorem dL_law_921 : decode cL_law 921 = .ok (.i2l, 1) := by decide +kernel
theorem dL_law_922 : decode cL_law 922 = .ok (.lcmp, 1) := by decide +kernel
theorem dL_law_923 : decode cL_law 923 = .ok (.ifCond .eq 5, 3) := by decide +kernel
theorem dL_law_926 : decode cL_law 926 = .ok (.iconst 0, 1) := by decide +kernel
theorem dL_law_927 : decode cL_law 927 = .ok (.ireturn, 1) := by decide +kernel
theorem dL_law_928 : decode cL_law 928 = .ok (.goto 1026, 3) := by decide +kernel
theorem dL_law_931 : decode cL_law 931 = .ok (.aload_n 1, 1) := by decide +kernel
theorem dL_law_932 : decode cL_law 932 = .ok (.aload_n 0, 1) := by decide +kernel
theorem dL_law_933 : decode cL_law 933 = .ok (.iload 4, 2) := by decide +kernel
theorem dL_law_935 : decode cL_law 935 = .ok (.iconst 1, 1) := by decide +kernel
theorem dL_law_936 : decode cL_law 936 = .ok (.iadd, 1) := by decide +kernel
theorem dL_law_937 : decode cL_law 937 = .ok (.iaload, 1) := by decide +kernel
theorem dL_law_938 : decode cL_law 938 = .ok (.aload_n 0, 1) := by decide +kernel
theorem dL_law_939 : decode cL_law 939 = .ok (.iload 4, 2) := by decide +kernel
theorem dL_law_941 : decode cL_law 941 = .ok (.iconst 2, 1) := by decide +kernel
theorem dL_law_942 : decode cL_law 942 = .ok (.iadd, 1) := by decide +kernel
theorem dL_law_943 : decode cL_law 943 = .ok (.iaload, 1) := by decide +kernel
theorem dL_law_944 : decode cL_law 944 = .ok (.aload_n 0, 1) := by decide +kernel
theorem dL_law_945 : decode cL_law 945 = .ok (.iload 4, 2) := by decide +kernel
theorem dL_law_947 : decode cL_law 947 = .ok (.iconst 3, 1) := by decide +kernel
theorem dL_law_948 : decode cL_law 948 = .ok (.iadd, 1) := by decide +kernel
theorem dL_law_949 : decode cL_law 949 = .ok (.iaload, 1) := by decide +kernel
theorem dL_law_950 : decode cL_law 950 = .ok (.aload_n 0, 1) := by decide +kernel
theorem dL_law_951 : decode cL_law 951 = .ok (.iload 4, 2) := by decide +kernel
theorem dL_law_953 : decode cL_law 953 = .ok (.iconst 4, 1) := by decide +kernel
theorem dL_law_954 : decode cL_law 954 = .ok (.iadd, 1) := by decide +kernel
theorem dL_law_955 : decode cL_law 955 = .ok (.iaload, 1) := by decide +kernel
theorem dL_law_956 : decode cL_law 956 = .ok (.aload_n 0, 1) := by decide +kernel
theorem dL_law_957 : decode cL_law 957 = .ok (.iload 4, 2) := by decide +kernel
theorem dL_law_959 : decode cL_law 959 = .ok (.iconst 5, 1) := by decide +kernel
theorem dL_law_960 : decode cL_law 960 = .ok (.iadd, 1) := by decide +kernel
theorem dL_law_961 : decode cL_law 961 = .ok (.iaload, 1) := by decide +kernel
theorem dL_law_962 : decode cL_law 962 = .ok (.aload_n 3, 1) := by decide +kernel
theorem dL_law_963 : decode cL_law 963 = .ok (.invokestatic 137, 3) := by decide +kernel
theorem dL_law_966 : decode cL_law 966 = .ok (.istore 5, 2) := by decide +kernel
theorem dL_law_968 : decode cL_law 968 = .ok (.aload_n 2, 1) := by decide +kernel
theorem dL_law_969 : decode cL_law 969 = .ok (.aload_n 0, 1) := by decide +kernel
theorem dL_law_970 : decode cL_law 970 = .ok (.iload 4, 2) := by decide +kernel
theorem dL_law_972 : decode cL_law 972 = .ok (.iconst 1, 1) := by decide +kernel
theorem dL_law_973 : decode cL_law 973 = .ok (.iadd, 1) := by decide +kernel
theorem dL_law_974 : decode cL_law 974 = .ok (.iaload, 1) := by decide +kernel
theorem dL_law_975 : decode cL_law 975 = .ok (.aload_n 0, 1) := by decide +kernel
theorem dL_law_976 : decode cL_law 976 = .ok (.iload 4, 2) := by decide +kernel
theorem dL_law_978 : decode cL_law 978 = .ok (.iconst 2, 1) := by decide +kernel
theorem dL_law_979 : decode cL_law 979 = .ok (.iadd, 1) := by decide +kernel
theorem dL_law_980 : decode cL_law 980 = .ok (.iaload, 1) := by decide +kernel
theorem dL_law_981 : decode cL_law 981 = .ok (.aload_n 0, 1) := by decide +kernel
theorem dL_law_982 : decode cL_law 982 = .ok (.iload 4, 2) := by decide +kernel
theorem dL_law_984 : decode cL_law 984 = .ok (.iconst 3, 1) := by decide +kernel
theorem dL_law_985 : decode cL_law 985 = .ok (.iadd, 1) := by decide +kernel
theorem dL_law_986 : decode cL_law 986 = .ok (.iaload, 1) := by decide +kernel
theorem dL_law_987 : decode cL_law 987 = .ok (.aload_n 0, 1) := by decide +kernel
theorem dL_law_988 : decode cL_law 988 = .ok (.iload 4, 2) := by decide +kernel
theorem dL_law_990 : decode cL_law 990 = .ok (.iconst 4, 1) := by decide +kernel
theorem dL_law_991 : decode cL_law 991 = .ok (.iadd, 1) := by decide +kernel
theorem dL_law_992 : decode cL_law 992 = .ok (.iaload, 1) := by decide +kernel
theorem dL_law_993 : decode cL_law 993 = .ok (.aload_n 0, 1) := by decide +kernel
theorem dL_law_994 : decode cL_law 994 = .ok (.iload 4, 2) := by decide +kernel
theorem dL_law_996 : decode cL_law 996 = .ok (.iconst 5, 1) := by decide +kernel
theorem dL_law_997 : decode cL_law 997 = .ok (.iadd, 1) := by decide +kernel
theorem dL_law_998 : decode cL_law 998 = .ok (.iaload, 1) := by decide +kernel
theorem dL_law_999 : decode cL_law 999 = .ok (.invokevirtual 139, 3) := by decide +kernel
theorem dL_law_1002 : decode cL_law 1002 = .ok (.istore 6, 2) := by decide +kernel
theorem dL_law_1004 : decode cL_law 1004 = .ok (.aload_n 2, 1) := by decide +kernel
theorem dL_law_1005 : decode cL_law 1005 = .ok (.invokevirtual 104, 3) := by decide +kernel
theorem dL_law_1008 : decode cL_law 1008 = .ok (.iload 5, 2) := by decide +kernel
theorem dL_law_1010 : decode cL_law 1010 = .ok (.if_icmp .eq 5, 3) := by decide +kernel
theorem dL_law_1013 : decode cL_law 1013 = .ok (.iconst 0, 1) := by decide +kernel
theorem dL_law_1014 : decode cL_law 1014 = .ok (.ireturn, 1) := by decide +kernel
theorem dL_law_1015 : decode cL_law 1015 = .ok (.iload 5, 2) := by decide +kernel
theorem dL_law_1017 : decode cL_law 1017 = .ok (.ifCond .ne 15, 3) := by decide +kernel
theorem dL_law_1020 : decode cL_law 1020 = .ok (.aload_n 3, 1) := by decide +kernel
theorem dL_law_1021 : decode cL_law 1021 = .ok (.iconst 0, 1) := by decide +kernel
theorem dL_law_1022 : decode cL_law 1022 = .ok (.laload, 1) := by decide +kernel
theorem dL_law_1023 : decode cL_law 1023 = .ok (.iload 6, 2) := by decide +kernel
theorem dL_law_1025 : decode cL_law 1025 = .ok (.i2l, 1) := by decide +kernel
theorem dL_law_1026 : decode cL_law 1026 = .ok (.lcmp, 1) := by decide +kernel
theorem dL_law_1027 : decode cL_law 1027 = .ok (.ifCond .eq 5, 3) := by decide +kernel
theorem dL_law_1030 : decode cL_law 1030 = .ok (.iconst 0, 1) := by decide +kernel
theorem dL_law_1031 : decode cL_law 1031 = .ok (.ireturn, 1) := by decide +kernel
theorem dL_law_1032 : decode cL_law 1032 = .ok (.goto 922, 3) := by decide +kernel
theorem dL_law_1035 : decode cL_law 1035 = .ok (.aload_n 1, 1) := by decide +kernel
theorem dL_law_1036 : decode cL_law 1036 = .ok (.aload_n 0, 1) := by decide +kernel
theorem dL_law_1037 : decode cL_law 1037 = .ok (.iload 4, 2) := by decide +kernel
theorem dL_law_1039 : decode cL_law 1039 = .ok (.iconst 1, 1) := by decide +kernel
theorem dL_law_1040 : decode cL_law 1040 = .ok (.iadd, 1) := by decide +kernel
theorem dL_law_1041 : decode cL_law 1041 = .ok (.iaload, 1) := by decide +kernel
theorem dL_law_1042 : decode cL_law 1042 = .ok (.aload_n 0, 1) := by decide +kernel
theorem dL_law_1043 : decode cL_law 1043 = .ok (.iload 4, 2) := by decide +kernel
theorem dL_law_1045 : decode cL_law 1045 = .ok (.iconst 2, 1) := by decide +kernel
theorem dL_law_1046 : decode cL_law 1046 = .ok (.iadd, 1) := by decide +kernel
theorem dL_law_1047 : decode cL_law 1047 = .ok (.iaload, 1) := by decide +kernel
theorem dL_law_1048 : decode cL_law 1048 = .ok (.aload_n 0, 1) := by decide +kernel
theorem dL_law_1049 : decode cL_law 1049 = .ok (.iload 4, 2) := by decide +kernel
theorem dL_law_1051 : decode cL_law 1051 = .ok (.iconst 3, 1) := by decide +kernel
theorem dL_law_1052 : decode cL_law 1052 = .ok (.iadd, 1) := by decide +kernel
theorem dL_law_1053 : decode cL_law 1053 = .ok (.iaload, 1) := by decide +kernel
theorem dL_law_1054 : decode cL_law 1054 = .ok (.aload_n 3, 1) := by decide +kernel
theorem dL_law_1055 : decode cL_law 1055 = .ok (.invokestatic 140, 3) := by decide +kernel
theorem dL_law_1058 : decode cL_law 1058 = .ok (.istore 5, 2) := by decide +kernel
theorem dL_law_1060 : decode cL_law 1060 = .ok (.aload_n 2, 1) := by decide +kernel
theorem dL_law_1061 : decode cL_law 1061 = .ok (.aload_n 0, 1) := by decide +kernel
theorem dL_law_1062 : decode cL_law 1062 = .ok (.iload 4, 2) := by decide +kernel
theorem dL_law_1064 : decode cL_law 1064 = .ok (.iconst 1, 1) := by decide +kernel
theorem dL_law_1065 : decode cL_law 1065 = .ok (.iadd, 1) := by decide +kernel
theorem dL_law_1066 : decode cL_law 1066 = .ok (.iaload, 1) := by decide +kernel
theorem dL_law_1067 : decode cL_law 1067 = .ok (.aload_n 0, 1) := by decide +kernel
theorem dL_law_1068 : decode cL_law 1068 = .ok (.iload 4, 2) := by decide +kernel
theorem dL_law_1070 : decode cL_law 1070 = .ok (.iconst 2, 1) := by decide +kernel
theorem dL_law_1071 : decode cL_law 1071 = .ok (.iadd, 1) := by decide +kernel
theorem dL_law_1072 : decode cL_law 1072 = .ok (.iaload, 1) := by decide +kernel
theorem dL_law_1073 : decode cL_law 1073 = .ok (.aload_n 0, 1) := by decide +kernel
theorem dL_law_1074 : decode cL_law 1074 = .ok (.iload 4, 2) := by decide +kernel
theorem dL_law_1076 : decode cL_law 1076 = .ok (.iconst 3, 1) := by decide +kernel
theorem dL_law_1077 : decode cL_law 1077 = .ok (.iadd, 1) := by decide +kernel
theorem dL_law_1078 : decode cL_law 1078 = .ok (.iaload, 1) := by decide +kernel
theorem dL_law_1079 : decode cL_law 1079 = .ok (.invokevirtual 142, 3) := by decide +kernel
theorem dL_law_1082 : decode cL_law 1082 = .ok (.istore 6, 2) := by decide +kernel
theorem dL_law_1084 : decode cL_law 1084 = .ok (.aload_n 2, 1) := by decide +kernel
theorem dL_law_1085 : decode cL_law 1085 = .ok (.invokevirtual 104, 3) := by decide +kernel
theorem dL_law_1088 : decode cL_law 1088 = .ok (.iload 5, 2) := by decide +kernel
theorem dL_law_1090 : decode cL_law 1090 = .ok (.if_icmp .eq 5, 3) := by decide +kernel
theorem dL_law_1093 : decode cL_law 1093 = .ok (.iconst 0, 1) := by decide +kernel
theorem dL_law_1094 : decode cL_law 1094 = .ok (.ireturn, 1) := by decide +kernel
theorem dL_law_1095 : decode cL_law 1095 = .ok (.iload 5, 2) := by decide +kernel
theorem dL_law_1097 : decode cL_law 1097 = .ok (.ifCond .ne 15, 3) := by decide +kernel
theorem dL_law_1100 : decode cL_law 1100 = .ok (.aload_n 3, 1) := by decide +kernel
theorem dL_law_1101 : decode cL_law 1101 = .ok (.iconst 0, 1) := by decide +kernel
theorem dL_law_1102 : decode cL_law 1102 = .ok (.laload, 1) := by decide +kernel
theorem dL_law_1103 : decode cL_law 1103 = .ok (.iload 6, 2) := by decide +kernel
theorem dL_law_1105 : decode cL_law 1105 = .ok (.i2l, 1) := by decide +kernel
theorem dL_law_1106 : decode cL_law 1106 = .ok (.lcmp, 1) := by decide +kernel
theorem dL_law_1107 : decode cL_law 1107 = .ok (.ifCond .eq 5, 3) := by decide +kernel
theorem dL_law_1110 : decode cL_law 1110 = .ok (.iconst 0, 1) := by decide +kernel
theorem dL_law_1111 : decode cL_law 1111 = .ok (.ireturn, 1) := by decide +kernel
theorem dL_law_1112 : decode cL_law 1112 = .ok (.goto 842, 3) := by decide +kernel
theorem dL_law_1115 : decode cL_law 1115 = .ok (.aload_n 1, 1) := by decide +kernel
theorem dL_law_1116 : decode cL_law 1116 = .ok (.aload_n 0, 1) := by decide +kernel
theorem dL_law_1117 : decode cL_law 1117 = .ok (.iload 4, 2) := by decide +kernel
theorem dL_law_1119 : decode cL_law 1119 = .ok (.iconst 1, 1) := by decide +kernel
theorem dL_law_1120 : decode cL_law 1120 = .ok (.iadd, 1) := by decide +kernel
theorem dL_law_1121 : decode cL_law 1121 = .ok (.iaload, 1) := by decide +kernel
theorem dL_law_1122 : decode cL_law 1122 = .ok (.aload_n 3, 1) := by decide +kernel
theorem dL_law_1123 : decode cL_law 1123 = .ok (.invokestatic 143, 3) := by decide +kernel
theorem dL_law_1126 : decode cL_law 1126 = .ok (.istore 5, 2) := by decide +kernel
theorem dL_law_1128 : decode cL_law 1128 = .ok (.aload_n 2, 1) := by decide +kernel
theorem dL_law_1129 : decode cL_law 1129 = .ok (.aload_n 0, 1) := by decide +kernel
theorem dL_law_1130 : decode cL_law 1130 = .ok (.iload 4, 2) := by decide +kernel
theorem dL_law_1132 : decode cL_law 1132 = .ok (.iconst 1, 1) := by decide +kernel
theorem dL_law_1133 : decode cL_law 1133 = .ok (.iadd, 1) := by decide +kernel
theorem dL_law_1134 : decode cL_law 1134 = .ok (.iaload, 1) := by decide +kernel
theorem dL_law_1135 : decode cL_law 1135 = .ok (.invokevirtual 145, 3) := by decide +kernel
theorem dL_law_1138 : decode cL_law 1138 = .ok (.istore 6, 2) := by decide +kernel
theorem dL_law_1140 : decode cL_law 1140 = .ok (.aload_n 2, 1) := by decide +kernel
theorem dL_law_1141 : decode cL_law 1141 = .ok (.invokevirtual 104, 3) := by decide +kernel
theorem dL_law_1144 : decode cL_law 1144 = .ok (.iload 5, 2) := by decide +kernel
theorem dL_law_1146 : decode cL_law 1146 = .ok (.if_icmp .eq 5, 3) := by decide +kernel
theorem dL_law_1149 : decode cL_law 1149 = .ok (.iconst 0, 1) := by decide +kernel
theorem dL_law_1150 : decode cL_law 1150 = .ok (.ireturn, 1) := by decide +kernel
theorem dL_law_1151 : decode cL_law 1151 = .ok (.iload 5, 2) := by decide +kernel
theorem dL_law_1153 : decode cL_law 1153 = .ok (.ifCond .ne 15, 3) := by decide +kernel
theorem dL_law_1156 : decode cL_law 1156 = .ok (.aload_n 3, 1) := by decide +kernel
theorem dL_law_1157 : decode cL_law 1157 = .ok (.iconst 0, 1) := by decide +kernel
theorem dL_law_1158 : decode cL_law 1158 = .ok (.laload, 1) := by decide +kernel
theorem dL_law_1159 : decode cL_law 1159 = .ok (.iload 6, 2) := by decide +kernel
theorem dL_law_1161 : decode cL_law 1161 = .ok (.i2l, 1) := by decide +kernel
theorem dL_law_1162 : decode cL_law 1162 = .ok (.lcmp, 1) := by decide +kernel
theorem dL_law_1163 : decode cL_law 1163 = .ok (.ifCond .eq 5, 3) := by decide +kernel
theorem dL_law_1166 : decode cL_law 1166 = .ok (.iconst 0, 1) := by decide +kernel
theorem dL_law_1167 : decode cL_law 1167 = .ok (.ireturn, 1) := by decide +kernel
theorem dL_law_1168 : decode cL_law 1168 = .ok (.goto 786, 3) := by decide +kernel
theorem dL_law_1171 : decode cL_law 1171 = .ok (.aload_n 1, 1) := by decide +kernel
theorem dL_law_1172 : decode cL_law 1172 = .ok (.aload_n 0, 1) := by decide +kernel
theorem dL_law_1173 : decode cL_law 1173 = .ok (.iload 4, 2) := by decide +kernel
theorem dL_law_1175 : decode cL_law 1175 = .ok (.iconst 1, 1) := by decide +kernel
theorem dL_law_1176 : decode cL_law 1176 = .ok (.iadd, 1) := by decide +kernel
theorem dL_law_1177 : decode cL_law 1177 = .ok (.iaload, 1) := by decide +kernel
theorem dL_law_1178 : decode cL_law 1178 = .ok (.aload_n 0, 1) := by decide +kernel
theorem dL_law_1179 : decode cL_law 1179 = .ok (.iload 4, 2) := by decide +kernel
theorem dL_law_1181 : decode cL_law 1181 = .ok (.iconst 2, 1) := by decide +kernel
theorem dL_law_1182 : decode cL_law 1182 = .ok (.iadd, 1) := by decide +kernel
theorem dL_law_1183 : decode cL_law 1183 = .ok (.iaload, 1) := by decide +kernel
theorem dL_law_1184 : decode cL_law 1184 = .ok (.aload_n 3, 1) := by decide +kernel
theorem dL_law_1185 : decode cL_law 1185 = .ok (.invokestatic 146, 3) := by decide +kernel
theorem dL_law_1188 : decode cL_law 1188 = .ok (.istore 5, 2) := by decide +kernel
theorem dL_law_1190 : decode cL_law 1190 = .ok (.aload_n 2, 1) := by decide +kernel
theorem dL_law_1191 : decode cL_law 1191 = .ok (.aload_n 0, 1) := by decide +kernel
theorem dL_law_1192 : decode cL_law 1192 = .ok (.iload 4, 2) := by decide +kernel
theorem dL_law_1194 : decode cL_law 1194 = .ok (.iconst 1, 1) := by decide +kernel
theorem dL_law_1195 : decode cL_law 1195 = .ok (.iadd, 1) := by decide +kernel
theorem dL_law_1196 : decode cL_law 1196 = .ok (.iaload, 1) := by decide +kernel
theorem dL_law_1197 : decode cL_law 1197 = .ok (.aload_n 0, 1) := by decide +kernel
theorem dL_law_1198 : decode cL_law 1198 = .ok (.iload 4, 2) := by decide +kernel
theorem dL_law_1200 : decode cL_law 1200 = .ok (.iconst 2, 1) := by decide +kernel
theorem dL_law_1201 : decode cL_law 1201 = .ok (.iadd, 1) := by decide +kernel
theorem dL_law_1202 : decode cL_law 1202 = .ok (.iaload, 1) := by decide +kernel
theorem dL_law_1203 : decode cL_law 1203 = .ok (.invokevirtual 148, 3) := by decide +kernel
theorem dL_law_1206 : decode cL_law 1206 = .ok (.istore 6, 2) := by decide +kernel
theorem dL_law_1208 : decode cL_law 1208 = .ok (.aload_n 2, 1) := by decide +kernel
theorem dL_law_1209 : decode cL_law 1209 = .ok (.invokevirtual 104, 3) := by decide +kernel
theorem dL_law_1212 : decode cL_law 1212 = .ok (.iload 5, 2) := by decide +kernel
theorem dL_law_1214 : decode cL_law 1214 = .ok (.if_icmp .eq 5, 3) := by decide +kernel
theorem dL_law_1217 : decode cL_law 1217 = .ok (.iconst 0, 1) := by decide +kernel
theorem dL_law_1218 : decode cL_law 1218 = .ok (.ireturn, 1) := by decide +kernel
theorem dL_law_1219 : decode cL_law 1219 = .ok (.iload 5, 2) := by decide +kernel
theorem dL_law_1221 : decode cL_law 1221 = .ok (.ifCond .ne 15, 3) := by decide +kernel
theorem dL_law_1224 : decode cL_law 1224 = .ok (.aload_n 3, 1) := by decide +kernel
theorem dL_law_1225 : decode cL_law 1225 = .ok (.iconst 0, 1) := by decide +kernel
theorem dL_law_1226 : decode cL_law 1226 = .ok (.laload, 1) := by decide +kernel
theorem dL_law_1227 : decode cL_law 1227 = .ok (.iload 6, 2) := by decide +kernel
theorem dL_law_1229 : decode cL_law 1229 = .ok (.i2l, 1) := by decide +kernel
theorem dL_law_1230 : decode cL_law 1230 = .ok (.lcmp, 1) := by decide +kernel
theorem dL_law_1231 : decode cL_law 1231 = .ok (.ifCond .eq 5, 3) := by decide +kernel
theorem dL_law_1234 : decode cL_law 1234 = .ok (.iconst 0, 1) := by decide +kernel
theorem dL_law_1235 : decode cL_law 1235 = .ok (.ireturn, 1) := by decide +kernel
theorem dL_law_1236 : decode cL_law 1236 = .ok (.goto 718, 3) := by decide +kernel
theorem dL_law_1239 : decode cL_law 1239 = .ok (.aload_n 1, 1) := by decide +kernel
theorem dL_law_1240 : decode cL_law 1240 = .ok (.aload_n 0, 1) := by decide +kernel
theorem dL_law_1241 : decode cL_law 1241 = .ok (.iload 4, 2) := by decide +kernel
theorem dL_law_1243 : decode cL_law 1243 = .ok (.iconst 1, 1) := by decide +kernel
theorem dL_law_1244 : decode cL_law 1244 = .ok (.iadd, 1) := by decide +kernel
theorem dL_law_1245 : decode cL_law 1245 = .ok (.iaload, 1) := by decide +kernel
theorem dL_law_1246 : decode cL_law 1246 = .ok (.aload_n 0, 1) := by decide +kernel
theorem dL_law_1247 : decode cL_law 1247 = .ok (.iload 4, 2) := by decide +kernel
theorem dL_law_1249 : decode cL_law 1249 = .ok (.iconst 2, 1) := by decide +kernel
theorem dL_law_1250 : decode cL_law 1250 = .ok (.iadd, 1) := by decide +kernel
theorem dL_law_1251 : decode cL_law 1251 = .ok (.iaload, 1) := by decide +kernel
theorem dL_law_1252 : decode cL_law 1252 = .ok (.aload_n 3, 1) := by decide +kernel
theorem dL_law_1253 : decode cL_law 1253 = .ok (.invokestatic 149, 3) := by decide +kernel
theorem dL_law_1256 : decode cL_law 1256 = .ok (.istore 5, 2) := by decide +kernel
theorem dL_law_1258 : decode cL_law 1258 = .ok (.aload_n 2, 1) := by decide +kernel
theorem dL_law_1259 : decode cL_law 1259 = .ok (.aload_n 0, 1) := by decide +kernel
theorem dL_law_1260 : decode cL_law 1260 = .ok (.iload 4, 2) := by decide +kernel
theorem dL_law_1262 : decode cL_law 1262 = .ok (.iconst 1, 1) := by decide +kernel
theorem dL_law_1263 : decode cL_law 1263 = .ok (.iadd, 1) := by decide +kernel
theorem dL_law_1264 : decode cL_law 1264 = .ok (.iaload, 1) := by decide +kernel
theorem dL_law_1265 : decode cL_law 1265 = .ok (.aload_n 0, 1) := by decide +kernel
theorem dL_law_1266 : decode cL_law 1266 = .ok (.iload 4, 2) := by decide +kernel
theorem dL_law_1268 : decode cL_law 1268 = .ok (.iconst 2, 1) := by decide +kernel
theorem dL_law_1269 : decode cL_law 1269 = .ok (.iadd, 1) := by decide +kernel
theorem dL_law_1270 : decode cL_law 1270 = .ok (.iaload, 1) := by decide +kernel
theorem dL_law_1271 : decode cL_law 1271 = .ok (.invokevirtual 151, 3) := by decide +kernel
theorem dL_law_1274 : decode cL_law 1274 = .ok (.istore 6, 2) := by decide +kernel
theorem dL_law_1276 : decode cL_law 1276 = .ok (.aload_n 2, 1) := by decide +kernel
theorem dL_law_1277 : decode cL_law 1277 = .ok (.invokevirtual 104, 3) := by decide +kernel
theorem dL_law_1280 : decode cL_law 1280 = .ok (.iload 5, 2) := by decide +kernel
theorem dL_law_1282 : decode cL_law 1282 = .ok (.if_icmp .eq 5, 3) := by decide +kernel
theorem dL_law_1285 : decode cL_law 1285 = .ok (.iconst 0, 1) := by decide +kernel
theorem dL_law_1286 : decode cL_law 1286 = .ok (.ireturn, 1) := by decide +kernel
theorem dL_law_1287 : decode cL_law 1287 = .ok (.iload 5, 2) := by decide +kernel
theorem dL_law_1289 : decode cL_law 1289 = .ok (.ifCond .ne 15, 3) := by decide +kernel
theorem dL_law_1292 : decode cL_law 1292 = .ok (.aload_n 3, 1) := by decide +kernel
theorem dL_law_1293 : decode cL_law 1293 = .ok (.iconst 0, 1) := by decide +kernel
theorem dL_law_1294 : decode cL_law 1294 = .ok (.laload, 1) := by decide +kernel
theorem dL_law_1295 : decode cL_law 1295 = .ok (.iload 6, 2) := by decide +kernel
theorem dL_law_1297 : decode cL_law 1297 = .ok (.i2l, 1) := by decide +kernel
theorem dL_law_1298 : decode cL_law 1298 = .ok (.lcmp, 1) := by decide +kernel
theorem dL_law_1299 : decode cL_law 1299 = .ok (.ifCond .eq 5, 3) := by decide +kernel
theorem dL_law_1302 : decode cL_law 1302 = .ok (.iconst 0, 1) := by decide +kernel
theorem dL_law_1303 : decode cL_law 1303 = .ok (.ireturn, 1) := by decide +kernel
theorem dL_law_1304 : decode cL_law 1304 = .ok (.goto 650, 3) := by decide +kernel
theorem dL_law_1307 : decode cL_law 1307 = .ok (.aload_n 1, 1) := by decide +kernel
theorem dL_law_1308 : decode cL_law 1308 = .ok (.aload_n 0, 1) := by decide +kernel
theorem dL_law_1309 : decode cL_law 1309 = .ok (.iload 4, 2) := by decide +kernel
theorem dL_law_1311 : decode cL_law 1311 = .ok (.iconst 1, 1) := by decide +kernel
theorem dL_law_1312 : decode cL_law 1312 = .ok (.iadd, 1) := by decide +kernel
theorem dL_law_1313 : decode cL_law 1313 = .ok (.iaload, 1) := by decide +kernel
theorem dL_law_1314 : decode cL_law 1314 = .ok (.aload_n 0, 1) := by decide +kernel
theorem dL_law_1315 : decode cL_law 1315 = .ok (.iload 4, 2) := by decide +kernel
theorem dL_law_1317 : decode cL_law 1317 = .ok (.iconst 2, 1) := by decide +kernel
theorem dL_law_1318 : decode cL_law 1318 = .ok (.iadd, 1) := by decide +kernel
theorem dL_law_1319 : decode cL_law 1319 = .ok (.iaload, 1) := by decide +kernel
theorem dL_law_1320 : decode cL_law 1320 = .ok (.ifCond .eq 7, 3) := by decide +kernel
theorem dL_law_1323 : decode cL_law 1323 = .ok (.iconst 1, 1) := by decide +kernel
theorem dL_law_1324 : decode cL_law 1324 = .ok (.goto 4, 3) := by decide +kernel
theorem dL_law_1327 : decode cL_law 1327 = .ok (.iconst 0, 1) := by decide +kernel
theorem dL_law_1328 : decode cL_law 1328 = .ok (.aload_n 3, 1) := by decide +kernel
theorem dL_law_1329 : decode cL_law 1329 = .ok (.invokestatic 152, 3) := by decide +kernel
theorem dL_law_1332 : decode cL_law 1332 = .ok (.istore 5, 2) := by decide +kernel
theorem dL_law_1334 : decode cL_law 1334 = .ok (.aload_n 2, 1) := by decide +kernel
theorem dL_law_1335 : decode cL_law 1335 = .ok (.aload_n 0, 1) := by decide +kernel
theorem dL_law_1336 : decode cL_law 1336 = .ok (.iload 4, 2) := by decide +kernel
theorem dL_law_1338 : decode cL_law 1338 = .ok (.iconst 1, 1) := by decide +kernel
theorem dL_law_1339 : decode cL_law 1339 = .ok (.iadd, 1) := by decide +kernel
theorem dL_law_1340 : decode cL_law 1340 = .ok (.iaload, 1) := by decide +kernel
theorem dL_law_1341 : decode cL_law 1341 = .ok (.aload_n 0, 1) := by decide +kernel
theorem dL_law_1342 : decode cL_law 1342 = .ok (.iload 4, 2) := by decide +kernel
theorem dL_law_1344 : decode cL_law 1344 = .ok (.iconst 2, 1) := by decide +kernel
theorem dL_law_1345 : decode cL_law 1345 = .ok (.iadd, 1) := by decide +kernel
theorem dL_law_1346 : decode cL_law 1346 = .ok (.iaload, 1) := by decide +kernel
theorem dL_law_1347 : decode cL_law 1347 = .ok (.ifCond .eq 7, 3) := by decide +kernel
theorem dL_law_1350 : decode cL_law 1350 = .ok (.iconst 1, 1) := by decide +kernel
theorem dL_law_1351 : decode cL_law 1351 = .ok (.goto 4, 3) := by decide +kernel
theorem dL_law_1354 : decode cL_law 1354 = .ok (.iconst 0, 1) := by decide +kernel
theorem dL_law_1355 : decode cL_law 1355 = .ok (.invokevirtual 155, 3) := by decide +kernel
theorem dL_law_1358 : decode cL_law 1358 = .ok (.istore 6, 2) := by decide +kernel
theorem dL_law_1360 : decode cL_law 1360 = .ok (.aload_n 2, 1) := by decide +kernel
theorem dL_law_1361 : decode cL_law 1361 = .ok (.invokevirtual 104, 3) := by decide +kernel
theorem dL_law_1364 : decode cL_law 1364 = .ok (.iload 5, 2) := by decide +kernel
theorem dL_law_1366 : decode cL_law 1366 = .ok (.if_icmp .eq 5, 3) := by decide +kernel
theorem dL_law_1369 : decode cL_law 1369 = .ok (.iconst 0, 1) := by decide +kernel
theorem dL_law_1370 : decode cL_law 1370 = .ok (.ireturn, 1) := by decide +kernel
theorem dL_law_1371 : decode cL_law 1371 = .ok (.iload 5, 2) := by decide +kernel
theorem dL_law_1373 : decode cL_law 1373 = .ok (.ifCond .ne 15, 3) := by decide +kernel
theorem dL_law_1376 : decode cL_law 1376 = .ok (.aload_n 3, 1) := by decide +kernel
theorem dL_law_1377 : decode cL_law 1377 = .ok (.iconst 0, 1) := by decide +kernel
theorem dL_law_1378 : decode cL_law 1378 = .ok (.laload, 1) := by decide +kernel
theorem dL_law_1379 : decode cL_law 1379 = .ok (.iload 6, 2) := by decide +kernel
theorem dL_law_1381 : decode cL_law 1381 = .ok (.i2l, 1) := by decide +kernel
theorem dL_law_1382 : decode cL_law 1382 = .ok (.lcmp, 1) := by decide +kernel
theorem dL_law_1383 : decode cL_law 1383 = .ok (.ifCond .eq 5, 3) := by decide +kernel
theorem dL_law_1386 : decode cL_law 1386 = .ok (.iconst 0, 1) := by decide +kernel
theorem dL_law_1387 : decode cL_law 1387 = .ok (.ireturn, 1) := by decide +kernel
theorem dL_law_1388 : decode cL_law 1388 = .ok (.goto 566, 3) := by decide +kernel
theorem dL_law_1391 : decode cL_law 1391 = .ok (.aload_n 1, 1) := by decide +kernel
theorem dL_law_1392 : decode cL_law 1392 = .ok (.aload_n 0, 1) := by decide +kernel
theorem dL_law_1393 : decode cL_law 1393 = .ok (.iload 4, 2) := by decide +kernel
theorem dL_law_1395 : decode cL_law 1395 = .ok (.iconst 1, 1) := by decide +kernel
theorem dL_law_1396 : decode cL_law 1396 = .ok (.iadd, 1) := by decide +kernel
theorem dL_law_1397 : decode cL_law 1397 = .ok (.iaload, 1) := by decide +kernel
theorem dL_law_1398 : decode cL_law 1398 = .ok (.aload_n 0, 1) := by decide +kernel
theorem dL_law_1399 : decode cL_law 1399 = .ok (.iload 4, 2) := by decide +kernel
theorem dL_law_1401 : decode cL_law 1401 = .ok (.iconst 2, 1) := by decide +kernel
theorem dL_law_1402 : decode cL_law 1402 = .ok (.iadd, 1) := by decide +kernel
theorem dL_law_1403 : decode cL_law 1403 = .ok (.iaload, 1) := by decide +kernel
theorem dL_law_1404 : decode cL_law 1404 = .ok (.aload_n 3, 1) := by decide +kernel
theorem dL_law_1405 : decode cL_law 1405 = .ok (.invokestatic 156, 3) := by decide +kernel
theorem dL_law_1408 : decode cL_law 1408 = .ok (.istore 5, 2) := by decide +kernel
theorem dL_law_1410 : decode cL_law 1410 = .ok (.aload_n 2, 1) := by decide +kernel
theorem dL_law_1411 : decode cL_law 1411 = .ok (.aload_n 0, 1) := by decide +kernel
theorem dL_law_1412 : decode cL_law 1412 = .ok (.iload 4, 2) := by decide +kernel
theorem dL_law_1414 : decode cL_law 1414 = .ok (.iconst 1, 1) := by decide +kernel
theorem dL_law_1415 : decode cL_law 1415 = .ok (.iadd, 1) := by decide +kernel
theorem dL_law_1416 : decode cL_law 1416 = .ok (.iaload, 1) := by decide +kernel
theorem dL_law_1417 : decode cL_law 1417 = .ok (.aload_n 0, 1) := by decide +kernel
theorem dL_law_1418 : decode cL_law 1418 = .ok (.iload 4, 2) := by decide +kernel
theorem dL_law_1420 : decode cL_law 1420 = .ok (.iconst 2, 1) := by decide +kernel
theorem dL_law_1421 : decode cL_law 1421 = .ok (.iadd, 1) := by decide +kernel
theorem dL_law_1422 : decode cL_law 1422 = .ok (.iaload, 1) := by decide +kernel
theorem dL_law_1423 : decode cL_law 1423 = .ok (.invokevirtual 158, 3) := by decide +kernel
theorem dL_law_1426 : decode cL_law 1426 = .ok (.istore 6, 2) := by decide +kernel
theorem dL_law_1428 : decode cL_law 1428 = .ok (.aload_n 2, 1) := by decide +kernel
theorem dL_law_1429 : decode cL_law 1429 = .ok (.invokevirtual 104, 3) := by decide +kernel
theorem dL_law_1432 : decode cL_law 1432 = .ok (.iload 5, 2) := by decide +kernel
theorem dL_law_1434 : decode cL_law 1434 = .ok (.if_icmp .eq 5, 3) := by decide +kernel
theorem dL_law_1437 : decode cL_law 1437 = .ok (.iconst 0, 1) := by decide +kernel
theorem dL_law_1438 : decode cL_law 1438 = .ok (.ireturn, 1) := by decide +kernel
theorem dL_law_1439 : decode cL_law 1439 = .ok (.iload 5, 2) := by decide +kernel
theorem dL_law_1441 : decode cL_law 1441 = .ok (.ifCond .ne 15, 3) := by decide +kernel
theorem dL_law_1444 : decode cL_law 1444 = .ok (.aload_n 3, 1) := by decide +kernel
theorem dL_law_1445 : decode cL_law 1445 = .ok (.iconst 0, 1) := by decide +kernel
theorem dL_law_1446 : decode cL_law 1446 = .ok (.laload, 1) := by decide +kernel
theorem dL_law_1447 : decode cL_law 1447 = .ok (.iload 6, 2) := by decide +kernel
theorem dL_law_1449 : decode cL_law 1449 = .ok (.i2l, 1) := by decide +kernel
theorem dL_law_1450 : decode cL_law 1450 = .ok (.lcmp, 1) := by decide +kernel
theorem dL_law_1451 : decode cL_law 1451 = .ok (.ifCond .eq 5, 3) := by decide +kernel
theorem dL_law_1454 : decode cL_law 1454 = .ok (.iconst 0, 1) := by decide +kernel
theorem dL_law_1455 : decode cL_law 1455 = .ok (.ireturn, 1) := by decide +kernel
theorem dL_law_1456 : decode cL_law 1456 = .ok (.goto 498, 3) := by decide +kernel
theorem dL_law_1459 : decode cL_law 1459 = .ok (.aload_n 1, 1) := by decide +kernel
theorem dL_law_1460 : decode cL_law 1460 = .ok (.aload_n 0, 1) := by decide +kernel
theorem dL_law_1461 : decode cL_law 1461 = .ok (.iload 4, 2) := by decide +kernel
theorem dL_law_1463 : decode cL_law 1463 = .ok (.iconst 1, 1) := by decide +kernel
theorem dL_law_1464 : decode cL_law 1464 = .ok (.iadd, 1) := by decide +kernel
theorem dL_law_1465 : decode cL_law 1465 = .ok (.iaload, 1) := by decide +kernel
theorem dL_law_1466 : decode cL_law 1466 = .ok (.aload_n 3, 1) := by decide +kernel
theorem dL_law_1467 : decode cL_law 1467 = .ok (.invokestatic 159, 3) := by decide +kernel
theorem dL_law_1470 : decode cL_law 1470 = .ok (.istore 5, 2) := by decide +kernel
theorem dL_law_1472 : decode cL_law 1472 = .ok (.aload_n 2, 1) := by decide +kernel
theorem dL_law_1473 : decode cL_law 1473 = .ok (.aload_n 0, 1) := by decide +kernel
theorem dL_law_1474 : decode cL_law 1474 = .ok (.iload 4, 2) := by decide +kernel
theorem dL_law_1476 : decode cL_law 1476 = .ok (.iconst 1, 1) := by decide +kernel
theorem dL_law_1477 : decode cL_law 1477 = .ok (.iadd, 1) := by decide +kernel
theorem dL_law_1478 : decode cL_law 1478 = .ok (.iaload, 1) := by decide +kernel
theorem dL_law_1479 : decode cL_law 1479 = .ok (.invokevirtual 161, 3) := by decide +kernel
theorem dL_law_1482 : decode cL_law 1482 = .ok (.istore 6, 2) := by decide +kernel
theorem dL_law_1484 : decode cL_law 1484 = .ok (.aload_n 2, 1) := by decide +kernel
theorem dL_law_1485 : decode cL_law 1485 = .ok (.invokevirtual 104, 3) := by decide +kernel
theorem dL_law_1488 : decode cL_law 1488 = .ok (.iload 5, 2) := by decide +kernel
theorem dL_law_1490 : decode cL_law 1490 = .ok (.if_icmp .eq 5, 3) := by decide +kernel
theorem dL_law_1493 : decode cL_law 1493 = .ok (.iconst 0, 1) := by decide +kernel
theorem dL_law_1494 : decode cL_law 1494 = .ok (.ireturn, 1) := by decide +kernel
theorem dL_law_1495 : decode cL_law 1495 = .ok (.iload 5, 2) := by decide +kernel
theorem dL_law_1497 : decode cL_law 1497 = .ok (.ifCond .ne 15, 3) := by decide +kernel
theorem dL_law_1500 : decode cL_law 1500 = .ok (.aload_n 3, 1) := by decide +kernel
theorem dL_law_1501 : decode cL_law 1501 = .ok (.iconst 0, 1) := by decide +kernel
theorem dL_law_1502 : decode cL_law 1502 = .ok (.laload, 1) := by decide +kernel
theorem dL_law_1503 : decode cL_law 1503 = .ok (.iload 6, 2) := by decide +kernel
theorem dL_law_1505 : decode cL_law 1505 = .ok (.i2l, 1) := by decide +kernel
theorem dL_law_1506 : decode cL_law 1506 = .ok (.lcmp, 1) := by decide +kernel
theorem dL_law_1507 : decode cL_law 1507 = .ok (.ifCond .eq 5, 3) := by decide +kernel
theorem dL_law_1510 : decode cL_law 1510 = .ok (.iconst 0, 1) := by decide +kernel
theorem dL_law_1511 : decode cL_law 1511 = .ok (.ireturn, 1) := by decide +kernel
theorem dL_law_1512 : decode cL_law 1512 = .ok (.goto 442, 3) := by decide +kernel
theorem dL_law_1515 : decode cL_law 1515 = .ok (.aload_n 1, 1) := by decide +kernel
theorem dL_law_1516 : decode cL_law 1516 = .ok (.aload_n 0, 1) := by decide +kernel
theorem dL_law_1517 : decode cL_law 1517 = .ok (.iload 4, 2) := by decide +kernel
theorem dL_law_1519 : decode cL_law 1519 = .ok (.iconst 1, 1) := by decide +kernel
theorem dL_law_1520 : decode cL_law 1520 = .ok (.iadd, 1) := by decide +kernel
theorem dL_law_1521 : decode cL_law 1521 = .ok (.iaload, 1) := by decide +kernel
theorem dL_law_1522 : decode cL_law 1522 = .ok (.aload_n 0, 1) := by decide +kernel
theorem dL_law_1523 : decode cL_law 1523 = .ok (.iload 4, 2) := by decide +kernel
theorem dL_law_1525 : decode cL_law 1525 = .ok (.iconst 2, 1) := by decide +kernel
theorem dL_law_1526 : decode cL_law 1526 = .ok (.iadd, 1) := by decide +kernel
theorem dL_law_1527 : decode cL_law 1527 = .ok (.iaload, 1) := by decide +kernel
theorem dL_law_1528 : decode cL_law 1528 = .ok (.aload_n 3, 1) := by decide +kernel
theorem dL_law_1529 : decode cL_law 1529 = .ok (.invokestatic 162, 3) := by decide +kernel
theorem dL_law_1532 : decode cL_law 1532 = .ok (.istore 5, 2) := by decide +kernel
theorem dL_law_1534 : decode cL_law 1534 = .ok (.aload_n 2, 1) := by decide +kernel
theorem dL_law_1535 : decode cL_law 1535 = .ok (.aload_n 0, 1) := by decide +kernel
theorem dL_law_1536 : decode cL_law 1536 = .ok (.iload 4, 2) := by decide +kernel
theorem dL_law_1538 : decode cL_law 1538 = .ok (.iconst 1, 1) := by decide +kernel
theorem dL_law_1539 : decode cL_law 1539 = .ok (.iadd, 1) := by decide +kernel
theorem dL_law_1540 : decode cL_law 1540 = .ok (.iaload, 1) := by decide +kernel
theorem dL_law_1541 : decode cL_law 1541 = .ok (.aload_n 0, 1) := by decide +kernel
theorem dL_law_1542 : decode cL_law 1542 = .ok (.iload 4, 2) := by decide +kernel
theorem dL_law_1544 : decode cL_law 1544 = .ok (.iconst 2, 1) := by decide +kernel
theorem dL_law_1545 : decode cL_law 1545 = .ok (.iadd, 1) := by decide +kernel
theorem dL_law_1546 : decode cL_law 1546 = .ok (.iaload, 1) := by decide +kernel
theorem dL_law_1547 : decode cL_law 1547 = .ok (.invokevirtual 164, 3) := by decide +kernel
theorem dL_law_1550 : decode cL_law 1550 = .ok (.istore 6, 2) := by decide +kernel
theorem dL_law_1552 : decode cL_law 1552 = .ok (.aload_n 2, 1) := by decide +kernel
theorem dL_law_1553 : decode cL_law 1553 = .ok (.invokevirtual 104, 3) := by decide +kernel
theorem dL_law_1556 : decode cL_law 1556 = .ok (.iload 5, 2) := by decide +kernel
theorem dL_law_1558 : decode cL_law 1558 = .ok (.if_icmp .eq 5, 3) := by decide +kernel
theorem dL_law_1561 : decode cL_law 1561 = .ok (.iconst 0, 1) := by decide +kernel
theorem dL_law_1562 : decode cL_law 1562 = .ok (.ireturn, 1) := by decide +kernel
theorem dL_law_1563 : decode cL_law 1563 = .ok (.iload 5, 2) := by decide +kernel
theorem dL_law_1565 : decode cL_law 1565 = .ok (.ifCond .ne 15, 3) := by decide +kernel
theorem dL_law_1568 : decode cL_law 1568 = .ok (.aload_n 3, 1) := by decide +kernel
theorem dL_law_1569 : decode cL_law 1569 = .ok (.iconst 0, 1) := by decide +kernel
theorem dL_law_1570 : decode cL_law 1570 = .ok (.laload, 1) := by decide +kernel
theorem dL_law_1571 : decode cL_law 1571 = .ok (.iload 6, 2) := by decide +kernel
theorem dL_law_1573 : decode cL_law 1573 = .ok (.i2l, 1) := by decide +kernel
theorem dL_law_1574 : decode cL_law 1574 = .ok (.lcmp, 1) := by decide +kernel
theorem dL_law_1575 : decode cL_law 1575 = .ok (.ifCond .eq 5, 3) := by decide +kernel
theorem dL_law_1578 : decode cL_law 1578 = .ok (.iconst 0, 1) := by decide +kernel
theorem dL_law_1579 : decode cL_law 1579 = .ok (.ireturn, 1) := by decide +kernel
theorem dL_law_1580 : decode cL_law 1580 = .ok (.goto 374, 3) := by decide +kernel
theorem dL_law_1583 : decode cL_law 1583 = .ok (.aload_n 1, 1) := by decide +kernel
theorem dL_law_1584 : decode cL_law 1584 = .ok (.aload_n 3, 1) := by decide +kernel
theorem dL_law_1585 : decode cL_law 1585 = .ok (.invokestatic 165, 3) := by decide +kernel
theorem dL_law_1588 : decode cL_law 1588 = .ok (.istore 5, 2) := by decide +kernel
theorem dL_law_1590 : decode cL_law 1590 = .ok (.aload_n 2, 1) := by decide +kernel
theorem dL_law_1591 : decode cL_law 1591 = .ok (.invokevirtual 168, 3) := by decide +kernel
theorem dL_law_1594 : decode cL_law 1594 = .ok (.istore 6, 2) := by decide +kernel
theorem dL_law_1596 : decode cL_law 1596 = .ok (.aload_n 2, 1) := by decide +kernel
theorem dL_law_1597 : decode cL_law 1597 = .ok (.invokevirtual 104, 3) := by decide +kernel
theorem dL_law_1600 : decode cL_law 1600 = .ok (.iload 5, 2) := by decide +kernel
theorem dL_law_1602 : decode cL_law 1602 = .ok (.if_icmp .eq 5, 3) := by decide +kernel
theorem dL_law_1605 : decode cL_law 1605 = .ok (.iconst 0, 1) := by decide +kernel
theorem dL_law_1606 : decode cL_law 1606 = .ok (.ireturn, 1) := by decide +kernel
theorem dL_law_1607 : decode cL_law 1607 = .ok (.iload 5, 2) := by decide +kernel
theorem dL_law_1609 : decode cL_law 1609 = .ok (.ifCond .ne 15, 3) := by decide +kernel
theorem dL_law_1612 : decode cL_law 1612 = .ok (.aload_n 3, 1) := by decide +kernel
theorem dL_law_1613 : decode cL_law 1613 = .ok (.iconst 0, 1) := by decide +kernel
theorem dL_law_1614 : decode cL_law 1614 = .ok (.laload, 1) := by decide +kernel
theorem dL_law_1615 : decode cL_law 1615 = .ok (.iload 6, 2) := by decide +kernel
theorem dL_law_1617 : decode cL_law 1617 = .ok (.i2l, 1) := by decide +kernel
theorem dL_law_1618 : decode cL_law 1618 = .ok (.lcmp, 1) := by decide +kernel
theorem dL_law_1619 : decode cL_law 1619 = .ok (.ifCond .eq 5, 3) := by decide +kernel
theorem dL_law_1622 : decode cL_law 1622 = .ok (.iconst 0, 1) := by decide +kernel
theorem dL_law_1623 : decode cL_law 1623 = .ok (.ireturn, 1) := by decide +kernel
theorem dL_law_1624 : decode cL_law 1624 = .ok (.goto 330, 3) := by decide +kernel
theorem dL_law_1627 : decode cL_law 1627 = .ok (.aload_n 1, 1) := by decide +kernel
theorem dL_law_1628 : decode cL_law 1628 = .ok (.aload_n 0, 1) := by decide +kernel
theorem dL_law_1629 : decode cL_law 1629 = .ok (.iload 4, 2) := by decide +kernel
theorem dL_law_1631 : decode cL_law 1631 = .ok (.iconst 1, 1) := by decide +kernel
theorem dL_law_1632 : decode cL_law 1632 = .ok (.iadd, 1) := by decide +kernel
theorem dL_law_1633 : decode cL_law 1633 = .ok (.iaload, 1) := by decide +kernel
theorem dL_law_1634 : decode cL_law 1634 = .ok (.aload_n 3, 1) := by decide +kernel
theorem dL_law_1635 : decode cL_law 1635 = .ok (.invokestatic 169, 3) := by decide +kernel
theorem dL_law_1638 : decode cL_law 1638 = .ok (.istore 5, 2) := by decide +kernel
theorem dL_law_1640 : decode cL_law 1640 = .ok (.aload_n 2, 1) := by decide +kernel
theorem dL_law_1641 : decode cL_law 1641 = .ok (.aload_n 0, 1) := by decide +kernel
theorem dL_law_1642 : decode cL_law 1642 = .ok (.iload 4, 2) := by decide +kernel
theorem dL_law_1644 : decode cL_law 1644 = .ok (.iconst 1, 1) := by decide +kernel
theorem dL_law_1645 : decode cL_law 1645 = .ok (.iadd, 1) := by decide +kernel
theorem dL_law_1646 : decode cL_law 1646 = .ok (.iaload, 1) := by decide +kernel
theorem dL_law_1647 : decode cL_law 1647 = .ok (.invokevirtual 171, 3) := by decide +kernel
theorem dL_law_1650 : decode cL_law 1650 = .ok (.istore 6, 2) := by decide +kernel
theorem dL_law_1652 : decode cL_law 1652 = .ok (.aload_n 2, 1) := by decide +kernel
theorem dL_law_1653 : decode cL_law 1653 = .ok (.invokevirtual 104, 3) := by decide +kernel
theorem dL_law_1656 : decode cL_law 1656 = .ok (.iload 5, 2) := by decide +kernel
theorem dL_law_1658 : decode cL_law 1658 = .ok (.if_icmp .eq 5, 3) := by decide +kernel
theorem dL_law_1661 : decode cL_law 1661 = .ok (.iconst 0, 1) := by decide +kernel
theorem dL_law_1662 : decode cL_law 1662 = .ok (.ireturn, 1) := by decide +kernel
theorem dL_law_1663 : decode cL_law 1663 = .ok (.iload 5, 2) := by decide +kernel
theorem dL_law_1665 : decode cL_law 1665 = .ok (.ifCond .ne 15, 3) := by decide +kernel
theorem dL_law_1668 : decode cL_law 1668 = .ok (.aload_n 3, 1) := by decide +kernel
theorem dL_law_1669 : decode cL_law 1669 = .ok (.iconst 0, 1) := by decide +kernel
theorem dL_law_1670 : decode cL_law 1670 = .ok (.laload, 1) := by decide +kernel
theorem dL_law_1671 : decode cL_law 1671 = .ok (.iload 6, 2) := by decide +kernel
theorem dL_law_1673 : decode cL_law 1673 = .ok (.i2l, 1) := by decide +kernel
theorem dL_law_1674 : decode cL_law 1674 = .ok (.lcmp, 1) := by decide +kernel
theorem dL_law_1675 : decode cL_law 1675 = .ok (.ifCond .eq 5, 3) := by decide +kernel
theorem dL_law_1678 : decode cL_law 1678 = .ok (.iconst 0, 1) := by decide +kernel
theorem dL_law_1679 : decode cL_law 1679 = .ok (.ireturn, 1) := by decide +kernel
theorem dL_law_1680 : decode cL_law 1680 = .ok (.goto 274, 3) := by decide +kernel
theorem dL_law_1683 : decode cL_law 1683 = .ok (.aload_n 1, 1) := by decide +kernel
theorem dL_law_1684 : decode cL_law 1684 = .ok (.invokevirtual 172, 3) := by decide +kernel
theorem dL_law_1687 : decode cL_law 1687 = .ok (.dstore 5, 2) := by decide +kernel
theorem dL_law_1689 : decode cL_law 1689 = .ok (.aload_n 2, 1) := by decide +kernel
theorem dL_law_1690 : decode cL_law 1690 = .ok (.invokevirtual 176, 3) := by decide +kernel
theorem dL_law_1693 : decode cL_law 1693 = .ok (.dstore 7, 2) := by decide +kernel
theorem dL_law_1695 : decode cL_law 1695 = .ok (.dload 5, 2) := by decide +kernel
theorem dL_law_1697 : decode cL_law 1697 = .ok (.dload 7, 2) := by decide +kernel
theorem dL_law_1699 : decode cL_law 1699 = .ok (.dcmp .l, 1) := by decide +kernel
theorem dL_law_1700 : decode cL_law 1700 = .ok (.ifCond .eq 21, 3) := by decide +kernel
theorem dL_law_1703 : decode cL_law 1703 = .ok (.dload 5, 2) := by decide +kernel
theorem dL_law_1705 : decode cL_law 1705 = .ok (.dload 5, 2) := by decide +kernel
theorem dL_law_1707 : decode cL_law 1707 = .ok (.dcmp .l, 1) := by decide +kernel
theorem dL_law_1708 : decode cL_law 1708 = .ok (.ifCond .eq 11, 3) := by decide +kernel
theorem dL_law_1711 : decode cL_law 1711 = .ok (.dload 7, 2) := by decide +kernel
theorem dL_law_1713 : decode cL_law 1713 = .ok (.dload 7, 2) := by decide +kernel
theorem dL_law_1715 : decode cL_law 1715 = .ok (.dcmp .l, 1) := by decide +kernel
theorem dL_law_1716 : decode cL_law 1716 = .ok (.ifCond .ne 5, 3) := by decide +kernel
theorem dL_law_1719 : decode cL_law 1719 = .ok (.iconst 0, 1) := by decide +kernel
theorem dL_law_1720 : decode cL_law 1720 = .ok (.ireturn, 1) := by decide +kernel
theorem dL_law_1721 : decode cL_law 1721 = .ok (.goto 233, 3) := by decide +kernel
theorem dL_law_1724 : decode cL_law 1724 = .ok (.aload_n 1, 1) := by decide +kernel
theorem dL_law_1725 : decode cL_law 1725 = .ok (.aload_n 0, 1) := by decide +kernel
theorem dL_law_1726 : decode cL_law 1726 = .ok (.iload 4, 2) := by decide +kernel
theorem dL_law_1728 : decode cL_law 1728 = .ok (.iconst 1, 1) := by decide +kernel
theorem dL_law_1729 : decode cL_law 1729 = .ok (.iadd, 1) := by decide +kernel
theorem dL_law_1730 : decode cL_law 1730 = .ok (.iaload, 1) := by decide +kernel
theorem dL_law_1731 : decode cL_law 1731 = .ok (.aload_n 0, 1) := by decide +kernel
theorem dL_law_1732 : decode cL_law 1732 = .ok (.iload 4, 2) := by decide +kernel
theorem dL_law_1734 : decode cL_law 1734 = .ok (.iconst 2, 1) := by decide +kernel
theorem dL_law_1735 : decode cL_law 1735 = .ok (.iadd, 1) := by decide +kernel
theorem dL_law_1736 : decode cL_law 1736 = .ok (.iaload, 1) := by decide +kernel
theorem dL_law_1737 : decode cL_law 1737 = .ok (.aload_n 0, 1) := by decide +kernel
theorem dL_law_1738 : decode cL_law 1738 = .ok (.iload 4, 2) := by decide +kernel
theorem dL_law_1740 : decode cL_law 1740 = .ok (.iconst 3, 1) := by decide +kernel
theorem dL_law_1741 : decode cL_law 1741 = .ok (.iadd, 1) := by decide +kernel
theorem dL_law_1742 : decode cL_law 1742 = .ok (.iaload, 1) := by decide +kernel
theorem dL_law_1743 : decode cL_law 1743 = .ok (.aload_n 3, 1) := by decide +kernel
theorem dL_law_1744 : decode cL_law 1744 = .ok (.invokestatic 177, 3) := by decide +kernel
theorem dL_law_1747 : decode cL_law 1747 = .ok (.istore 5, 2) := by decide +kernel
theorem dL_law_1749 : decode cL_law 1749 = .ok (.aload_n 2, 1) := by decide +kernel
theorem dL_law_1750 : decode cL_law 1750 = .ok (.aload_n 0, 1) := by decide +kernel
theorem dL_law_1751 : decode cL_law 1751 = .ok (.iload 4, 2) := by decide +kernel
theorem dL_law_1753 : decode cL_law 1753 = .ok (.iconst 1, 1) := by decide +kernel
theorem dL_law_1754 : decode cL_law 1754 = .ok (.iadd, 1) := by decide +kernel
theorem dL_law_1755 : decode cL_law 1755 = .ok (.iaload, 1) := by decide +kernel
theorem dL_law_1756 : decode cL_law 1756 = .ok (.aload_n 0, 1) := by decide +kernel
theorem dL_law_1757 : decode cL_law 1757 = .ok (.iload 4, 2) := by decide +kernel
theorem dL_law_1759 : decode cL_law 1759 = .ok (.iconst 2, 1) := by decide +kernel
theorem dL_law_1760 : decode cL_law 1760 = .ok (.iadd, 1) := by decide +kernel
theorem dL_law_1761 : decode cL_law 1761 = .ok (.iaload, 1) := by decide +kernel
theorem dL_law_1762 : decode cL_law 1762 = .ok (.aload_n 0, 1) := by decide +kernel
theorem dL_law_1763 : decode cL_law 1763 = .ok (.iload 4, 2) := by decide +kernel
theorem dL_law_1765 : decode cL_law 1765 = .ok (.iconst 3, 1) := by decide +kernel
theorem dL_law_1766 : decode cL_law 1766 = .ok (.iadd, 1) := by decide +kernel
theorem dL_law_1767 : decode cL_law 1767 = .ok (.iaload, 1) := by decide +kernel
theorem dL_law_1768 : decode cL_law 1768 = .ok (.invokevirtual 179, 3) := by decide +kernel
theorem dL_law_1771 : decode cL_law 1771 = .ok (.istore 6, 2) := by decide +kernel
theorem dL_law_1773 : decode cL_law 1773 = .ok (.aload_n 2, 1) := by decide +kernel
theorem dL_law_1774 : decode cL_law 1774 = .ok (.invokevirtual 104, 3) := by decide +kernel
theorem dL_law_1777 : decode cL_law 1777 = .ok (.iload 5, 2) := by decide +kernel
theorem dL_law_1779 : decode cL_law 1779 = .ok (.if_icmp .eq 5, 3) := by decide +kernel
theorem dL_law_1782 : decode cL_law 1782 = .ok (.iconst 0, 1) := by decide +kernel
theorem dL_law_1783 : decode cL_law 1783 = .ok (.ireturn, 1) := by decide +kernel
theorem dL_law_1784 : decode cL_law 1784 = .ok (.iload 5, 2) := by decide +kernel
theorem dL_law_1786 : decode cL_law 1786 = .ok (.ifCond .ne 15, 3) := by decide +kernel
theorem dL_law_1789 : decode cL_law 1789 = .ok (.aload_n 3, 1) := by decide +kernel
theorem dL_law_1790 : decode cL_law 1790 = .ok (.iconst 0, 1) := by decide +kernel
theorem dL_law_1791 : decode cL_law 1791 = .ok (.laload, 1) := by decide +kernel
theorem dL_law_1792 : decode cL_law 1792 = .ok (.iload 6, 2) := by decide +kernel
theorem dL_law_1794 : decode cL_law 1794 = .ok (.i2l, 1) := by decide +kernel
theorem dL_law_1795 : decode cL_law 1795 = .ok (.lcmp, 1) := by decide +kernel
theorem dL_law_1796 : decode cL_law 1796 = .ok (.ifCond .eq 5, 3) := by decide +kernel
theorem dL_law_1799 : decode cL_law 1799 = .ok (.iconst 0, 1) := by decide +kernel
theorem dL_law_1800 : decode cL_law 1800 = .ok (.ireturn, 1) := by decide +kernel
theorem dL_law_1801 : decode cL_law 1801 = .ok (.goto 153, 3) := by decide +kernel
theorem dL_law_1804 : decode cL_law 1804 = .ok (.aload_n 1, 1) := by decide +kernel
theorem dL_law_1805 : decode cL_law 1805 = .ok (.aload_n 0, 1) := by decide +kernel
theorem dL_law_1806 : decode cL_law 1806 = .ok (.iload 4, 2) := by decide +kernel
theorem dL_law_1808 : decode cL_law 1808 = .ok (.iconst 1, 1) := by decide +kernel
theorem dL_law_1809 : decode cL_law 1809 = .ok (.iadd, 1) := by decide +kernel
theorem dL_law_1810 : decode cL_law 1810 = .ok (.iaload, 1) := by decide +kernel
theorem dL_law_1811 : decode cL_law 1811 = .ok (.aload_n 0, 1) := by decide +kernel
theorem dL_law_1812 : decode cL_law 1812 = .ok (.iload 4, 2) := by decide +kernel
theorem dL_law_1814 : decode cL_law 1814 = .ok (.iconst 2, 1) := by decide +kernel
theorem dL_law_1815 : decode cL_law 1815 = .ok (.iadd, 1) := by decide +kernel
theorem dL_law_1816 : decode cL_law 1816 = .ok (.iaload, 1) := by decide +kernel
theorem dL_law_1817 : decode cL_law 1817 = .ok (.aload_n 3, 1) := by decide +kernel
theorem dL_law_1818 : decode cL_law 1818 = .ok (.invokestatic 180, 3) := by decide +kernel
theorem dL_law_1821 : decode cL_law 1821 = .ok (.istore 5, 2) := by decide +kernel
theorem dL_law_1823 : decode cL_law 1823 = .ok (.aload_n 2, 1) := by decide +kernel
theorem dL_law_1824 : decode cL_law 1824 = .ok (.aload_n 0, 1) := by decide +kernel
theorem dL_law_1825 : decode cL_law 1825 = .ok (.iload 4, 2) := by decide +kernel
theorem dL_law_1827 : decode cL_law 1827 = .ok (.iconst 1, 1) := by decide +kernel
theorem dL_law_1828 : decode cL_law 1828 = .ok (.iadd, 1) := by decide +kernel
theorem dL_law_1829 : decode cL_law 1829 = .ok (.iaload, 1) := by decide +kernel
theorem dL_law_1830 : decode cL_law 1830 = .ok (.aload_n 0, 1) := by decide +kernel
theorem dL_law_1831 : decode cL_law 1831 = .ok (.iload 4, 2) := by decide +kernel
theorem dL_law_1833 : decode cL_law 1833 = .ok (.iconst 2, 1) := by decide +kernel
theorem dL_law_1834 : decode cL_law 1834 = .ok (.iadd, 1) := by decide +kernel
theorem dL_law_1835 : decode cL_law 1835 = .ok (.iaload, 1) := by decide +kernel
theorem dL_law_1836 : decode cL_law 1836 = .ok (.invokevirtual 182, 3) := by decide +kernel
theorem dL_law_1839 : decode cL_law 1839 = .ok (.istore 6, 2) := by decide +kernel
theorem dL_law_1841 : decode cL_law 1841 = .ok (.aload_n 2, 1) := by decide +kernel
theorem dL_law_1842 : decode cL_law 1842 = .ok (.invokevirtual 104, 3) := by decide +kernel
theorem dL_law_1845 : decode cL_law 1845 = .ok (.iload 5, 2) := by decide +kernel
theorem dL_law_1847 : decode cL_law 1847 = .ok (.if_icmp .eq 5, 3) := by decide +kernel
theorem dL_law_1850 : decode cL_law 1850 = .ok (.iconst 0, 1) := by decide +kernel
theorem dL_law_1851 : decode cL_law 1851 = .ok (.ireturn, 1) := by decide +kernel
theorem dL_law_1852 : decode cL_law 1852 = .ok (.iload 5, 2) := by decide +kernel
theorem dL_law_1854 : decode cL_law 1854 = .ok (.ifCond .ne 15, 3) := by decide +kernel
theorem dL_law_1857 : decode cL_law 1857 = .ok (.aload_n 3, 1) := by decide +kernel
theorem dL_law_1858 : decode cL_law 1858 = .ok (.iconst 0, 1) := by decide +kernel
theorem dL_law_1859 : decode cL_law 1859 = .ok (.laload, 1) := by decide +kernel
theorem dL_law_1860 : decode cL_law 1860 = .ok (.iload 6, 2) := by decide +kernel
theorem dL_law_1862 : decode cL_law 1862 = .ok (.i2l, 1) := by decide +kernel
theorem dL_law_1863 : decode cL_law 1863 = .ok (.lcmp, 1) := by decide +kernel
theorem dL_law_1864 : decode cL_law 1864 = .ok (.ifCond .eq 5, 3) := by decide +kernel
theorem dL_law_1867 : decode cL_law 1867 = .ok (.iconst 0, 1) := by decide +kernel
theorem dL_law_1868 : decode cL_law 1868 = .ok (.ireturn, 1) := by decide +kernel
theorem dL_law_1869 : decode cL_law 1869 = .ok (.goto 85, 3) := by decide +kernel
theorem dL_law_1872 : decode cL_law 1872 = .ok (.aload_n 1, 1) := by decide +kernel
theorem dL_law_1873 : decode cL_law 1873 = .ok (.aload_n 0, 1) := by decide +kernel
theorem dL_law_1874 : decode cL_law 1874 = .ok (.iload 4, 2) := by decide +kernel
theorem dL_law_1876 : decode cL_law 1876 = .ok (.iconst 1, 1) := by decide +kernel
theorem dL_law_1877 : decode cL_law 1877 = .ok (.iadd, 1) := by decide +kernel
theorem dL_law_1878 : decode cL_law 1878 = .ok (.iaload, 1) := by decide +kernel
theorem dL_law_1879 : decode cL_law 1879 = .ok (.aload_n 0, 1) := by decide +kernel
theorem dL_law_1880 : decode cL_law 1880 = .ok (.iload 4, 2) := by decide +kernel
theorem dL_law_1882 : decode cL_law 1882 = .ok (.iconst 2, 1) := by decide +kernel
theorem dL_law_1883 : decode cL_law 1883 = .ok (.iadd, 1) := by decide +kernel
theorem dL_law_1884 : decode cL_law 1884 = .ok (.iaload, 1) := by decide +kernel
theorem dL_law_1885 : decode cL_law 1885 = .ok (.aload_n 3, 1) := by decide +kernel
theorem dL_law_1886 : decode cL_law 1886 = .ok (.invokestatic 183, 3) := by decide +kernel
theorem dL_law_1889 : decode cL_law 1889 = .ok (.istore 5, 2) := by decide +kernel
theorem dL_law_1891 : decode cL_law 1891 = .ok (.aload_n 2, 1) := by decide +kernel
theorem dL_law_1892 : decode cL_law 1892 = .ok (.aload_n 0, 1) := by decide +kernel
theorem dL_law_1893 : decode cL_law 1893 = .ok (.iload 4, 2) := by decide +kernel
theorem dL_law_1895 : decode cL_law 1895 = .ok (.iconst 1, 1) := by decide +kernel
theorem dL_law_1896 : decode cL_law 1896 = .ok (.iadd, 1) := by decide +kernel
theorem dL_law_1897 : decode cL_law 1897 = .ok (.iaload, 1) := by decide +kernel
theorem dL_law_1898 : decode cL_law 1898 = .ok (.aload_n 0, 1) := by decide +kernel
theorem dL_law_1899 : decode cL_law 1899 = .ok (.iload 4, 2) := by decide +kernel
theorem dL_law_1901 : decode cL_law 1901 = .ok (.iconst 2, 1) := by decide +kernel
theorem dL_law_1902 : decode cL_law 1902 = .ok (.iadd, 1) := by decide +kernel
theorem dL_law_1903 : decode cL_law 1903 = .ok (.iaload, 1) := by decide +kernel
theorem dL_law_1904 : decode cL_law 1904 = .ok (.invokevirtual 185, 3) := by decide +kernel
theorem dL_law_1907 : decode cL_law 1907 = .ok (.istore 6, 2) := by decide +kernel
theorem dL_law_1909 : decode cL_law 1909 = .ok (.aload_n 2, 1) := by decide +kernel
theorem dL_law_1910 : decode cL_law 1910 = .ok (.invokevirtual 104, 3) := by decide +kernel
theorem dL_law_1913 : decode cL_law 1913 = .ok (.iload 5, 2) := by decide +kernel
theorem dL_law_1915 : decode cL_law 1915 = .ok (.if_icmp .eq 5, 3) := by decide +kernel
theorem dL_law_1918 : decode cL_law 1918 = .ok (.iconst 0, 1) := by decide +kernel
theorem dL_law_1919 : decode cL_law 1919 = .ok (.ireturn, 1) := by decide +kernel
theorem dL_law_1920 : decode cL_law 1920 = .ok (.iload 5, 2) := by decide +kernel
theorem dL_law_1922 : decode cL_law 1922 = .ok (.ifCond .ne 15, 3) := by decide +kernel
theorem dL_law_1925 : decode cL_law 1925 = .ok (.aload_n 3, 1) := by decide +kernel
theorem dL_law_1926 : decode cL_law 1926 = .ok (.iconst 0, 1) := by decide +kernel
theorem dL_law_1927 : decode cL_law 1927 = .ok (.laload, 1) := by decide +kernel
theorem dL_law_1928 : decode cL_law 1928 = .ok (.iload 6, 2) := by decide +kernel
theorem dL_law_1930 : decode cL_law 1930 = .ok (.i2l, 1) := by decide +kernel
theorem dL_law_1931 : decode cL_law 1931 = .ok (.lcmp, 1) := by decide +kernel
theorem dL_law_1932 : decode cL_law 1932 = .ok (.ifCond .eq 5, 3) := by decide +kernel
theorem dL_law_1935 : decode cL_law 1935 = .ok (.iconst 0, 1) := by decide +kernel
theorem dL_law_1936 : decode cL_law 1936 = .ok (.ireturn, 1) := by decide +kernel
theorem dL_law_1937 : decode cL_law 1937 = .ok (.goto 17, 3) := by decide +kernel
theorem dL_law_1940 : decode cL_law 1940 = .ok (.aload_n 1, 1) := by decide +kernel
theorem dL_law_1941 : decode cL_law 1941 = .ok (.invokevirtual 186, 3) := by decide +kernel
theorem dL_law_1944 : decode cL_law 1944 = .ok (.aload_n 2, 1) := by decide +kernel
theorem dL_law_1945 : decode cL_law 1945 = .ok (.invokevirtual 190, 3) := by decide +kernel
theorem dL_law_1948 : decode cL_law 1948 = .ok (.lcmp, 1) := by decide +kernel
theorem dL_law_1949 : decode cL_law 1949 = .ok (.ifCond .eq 5, 3) := by decide +kernel
theorem dL_law_1952 : decode cL_law 1952 = .ok (.iconst 0, 1) := by decide +kernel
theorem dL_law_1953 : decode cL_law 1953 = .ok (.ireturn, 1) := by decide +kernel
theorem dL_law_1954 : decode cL_law 1954 = .ok (.iinc 4 6, 3) := by decide +kernel
theorem dL_law_1957 : decode cL_law 1957 = .ok (.goto (-1934), 3) := by decide +kernel
theorem dL_law_1960 : decode cL_law 1960 = .ok (.iconst 1, 1) := by decide +kernel
theorem dL_law_1961 : decode cL_law 1961 = .ok (.ireturn, 1) := by decide +kernel
