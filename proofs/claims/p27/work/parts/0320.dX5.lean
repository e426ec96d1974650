theorem dX5_init_0 : decode cX5_init 0 = .ok (.aload_n 0, 1) := by decide +kernel
theorem dX5_init_1 : decode cX5_init 1 = .ok (.invokespecial 3, 3) := by decide +kernel
theorem dX5_init_4 : decode cX5_init 4 = .ok (.aload_n 0, 1) := by decide +kernel
theorem dX5_init_5 : decode cX5_init 5 = .ok (.new 9, 3) := by decide +kernel
theorem dX5_init_8 : decode cX5_init 8 = .ok (.dup, 1) := by decide +kernel
theorem dX5_init_9 : decode cX5_init 9 = .ok (.invokespecial 11, 3) := by decide +kernel
theorem dX5_init_12 : decode cX5_init 12 = .ok (.putfield 12, 3) := by decide +kernel
theorem dX5_init_15 : decode cX5_init 15 = .ok (.aload_n 0, 1) := by decide +kernel
theorem dX5_init_16 : decode cX5_init 16 = .ok (.new 16, 3) := by decide +kernel
theorem dX5_init_19 : decode cX5_init 19 = .ok (.dup, 1) := by decide +kernel
theorem dX5_init_20 : decode cX5_init 20 = .ok (.invokespecial 18, 3) := by decide +kernel
theorem dX5_init_23 : decode cX5_init 23 = .ok (.putfield 19, 3) := by decide +kernel
theorem dX5_init_26 : decode cX5_init 26 = .ok (.aload_n 0, 1) := by decide +kernel
theorem dX5_init_27 : decode cX5_init 27 = .ok (.new 23, 3) := by decide +kernel
theorem dX5_init_30 : decode cX5_init 30 = .ok (.dup, 1) := by decide +kernel
theorem dX5_init_31 : decode cX5_init 31 = .ok (.invokespecial 25, 3) := by decide +kernel
theorem dX5_init_34 : decode cX5_init 34 = .ok (.putfield 26, 3) := by decide +kernel
theorem dX5_init_37 : decode cX5_init 37 = .ok (.aload_n 0, 1) := by decide +kernel
theorem dX5_init_38 : decode cX5_init 38 = .ok (.new 30, 3) := by decide +kernel
theorem dX5_init_41 : decode cX5_init 41 = .ok (.dup, 1) := by decide +kernel
theorem dX5_init_42 : decode cX5_init 42 = .ok (.invokespecial 32, 3) := by decide +kernel
theorem dX5_init_45 : decode cX5_init 45 = .ok (.putfield 33, 3) := by decide +kernel
theorem dX5_init_48 : decode cX5_init 48 = .ok (.aload_n 0, 1) := by decide +kernel
theorem dX5_init_49 : decode cX5_init 49 = .ok (.new 9, 3) := by decide +kernel
theorem dX5_init_52 : decode cX5_init 52 = .ok (.dup, 1) := by decide +kernel
theorem dX5_init_53 : decode cX5_init 53 = .ok (.invokespecial 11, 3) := by decide +kernel
theorem dX5_init_56 : decode cX5_init 56 = .ok (.putfield 37, 3) := by decide +kernel
theorem dX5_init_59 : decode cX5_init 59 = .ok (.aload_n 0, 1) := by decide +kernel
theorem dX5_init_60 : decode cX5_init 60 = .ok (.new 9, 3) := by decide +kernel
theorem dX5_init_63 : decode cX5_init 63 = .ok (.dup, 1) := by decide +kernel
theorem dX5_init_64 : decode cX5_init 64 = .ok (.invokespecial 11, 3) := by decide +kernel
theorem dX5_init_67 : decode cX5_init 67 = .ok (.putfield 40, 3) := by decide +kernel
theorem dX5_init_70 : decode cX5_init 70 = .ok (.return_, 1) := by decide +kernel
theorem dX5_addRelay_0 : decode cX5_addRelay 0 = .ok (.iload_n 1, 1) := by decide +kernel
theorem dX5_addRelay_1 : decode cX5_addRelay 1 = .ok (.iload_n 2, 1) := by decide +kernel
theorem dX5_addRelay_2 : decode cX5_addRelay 2 = .ok (.iload_n 3, 1) := by decide +kernel
theorem dX5_addRelay_3 : decode cX5_addRelay 3 = .ok (.invokestatic 43, 3) := by decide +kernel
theorem dX5_addRelay_6 : decode cX5_addRelay 6 = .ok (.ifCond .ne 5, 3) := by decide +kernel
theorem dX5_addRelay_9 : decode cX5_addRelay 9 = .ok (.iconst (-1), 1) := by decide +kernel
theorem dX5_addRelay_10 : decode cX5_addRelay 10 = .ok (.ireturn, 1) := by decide +kernel
theorem dX5_addRelay_11 : decode cX5_addRelay 11 = .ok (.aload_n 0, 1) := by decide +kernel
theorem dX5_addRelay_12 : decode cX5_addRelay 12 = .ok (.getfield 12, 3) := by decide +kernel
theorem dX5_addRelay_15 : decode cX5_addRelay 15 = .ok (.getfield 47, 3) := by decide +kernel
theorem dX5_addRelay_18 : decode cX5_addRelay 18 = .ok (.bipush 8, 2) := by decide +kernel
theorem dX5_addRelay_20 : decode cX5_addRelay 20 = .ok (.if_icmp .lt 6, 3) := by decide +kernel
theorem dX5_addRelay_23 : decode cX5_addRelay 23 = .ok (.bipush (-3), 2) := by decide +kernel
theorem dX5_addRelay_25 : decode cX5_addRelay 25 = .ok (.ireturn, 1) := by decide +kernel
theorem dX5_addRelay_26 : decode cX5_addRelay 26 = .ok (.aload_n 0, 1) := by decide +kernel
theorem dX5_addRelay_27 : decode cX5_addRelay 27 = .ok (.getfield 19, 3) := by decide +kernel
theorem dX5_addRelay_30 : decode cX5_addRelay 30 = .ok (.aload_n 0, 1) := by decide +kernel
theorem dX5_addRelay_31 : decode cX5_addRelay 31 = .ok (.getfield 12, 3) := by decide +kernel
theorem dX5_addRelay_34 : decode cX5_addRelay 34 = .ok (.invokevirtual 51, 3) := by decide +kernel
theorem dX5_addRelay_37 : decode cX5_addRelay 37 = .ok (.aload_n 0, 1) := by decide +kernel
theorem dX5_addRelay_38 : decode cX5_addRelay 38 = .ok (.getfield 12, 3) := by decide +kernel
theorem dX5_addRelay_41 : decode cX5_addRelay 41 = .ok (.iload_n 1, 1) := by decide +kernel
theorem dX5_addRelay_42 : decode cX5_addRelay 42 = .ok (.iload_n 2, 1) := by decide +kernel
theorem dX5_addRelay_43 : decode cX5_addRelay 43 = .ok (.iload_n 3, 1) := by decide +kernel
theorem dX5_addRelay_44 : decode cX5_addRelay 44 = .ok (.invokevirtual 55, 3) := by decide +kernel
theorem dX5_addRelay_47 : decode cX5_addRelay 47 = .ok (.ireturn, 1) := by decide +kernel
theorem dX5_setDelays_0 : decode cX5_setDelays 0 = .ok (.aload_n 0, 1) := by decide +kernel
theorem dX5_setDelays_1 : decode cX5_setDelays 1 = .ok (.getfield 12, 3) := by decide +kernel
theorem dX5_setDelays_4 : decode cX5_setDelays 4 = .ok (.iload_n 1, 1) := by decide +kernel
theorem dX5_setDelays_5 : decode cX5_setDelays 5 = .ok (.invokevirtual 59, 3) := by decide +kernel
theorem dX5_setDelays_8 : decode cX5_setDelays 8 = .ok (.ifCond .eq 13, 3) := by decide +kernel
theorem dX5_setDelays_11 : decode cX5_setDelays 11 = .ok (.iload_n 2, 1) := by decide +kernel
theorem dX5_setDelays_12 : decode cX5_setDelays 12 = .ok (.iload_n 3, 1) := by decide +kernel
theorem dX5_setDelays_13 : decode cX5_setDelays 13 = .ok (.iload 4, 2) := by decide +kernel
theorem dX5_setDelays_15 : decode cX5_setDelays 15 = .ok (.invokestatic 43, 3) := by decide +kernel
theorem dX5_setDelays_18 : decode cX5_setDelays 18 = .ok (.ifCond .ne 5, 3) := by decide +kernel
theorem dX5_setDelays_21 : decode cX5_setDelays 21 = .ok (.iconst (-1), 1) := by decide +kernel
theorem dX5_setDelays_22 : decode cX5_setDelays 22 = .ok (.ireturn, 1) := by decide +kernel
theorem dX5_setDelays_23 : decode cX5_setDelays 23 = .ok (.aload_n 0, 1) := by decide +kernel
theorem dX5_setDelays_24 : decode cX5_setDelays 24 = .ok (.getfield 19, 3) := by decide +kernel
theorem dX5_setDelays_27 : decode cX5_setDelays 27 = .ok (.aload_n 0, 1) := by decide +kernel
theorem dX5_setDelays_28 : decode cX5_setDelays 28 = .ok (.getfield 12, 3) := by decide +kernel
theorem dX5_setDelays_31 : decode cX5_setDelays 31 = .ok (.invokevirtual 51, 3) := by decide +kernel
theorem dX5_setDelays_34 : decode cX5_setDelays 34 = .ok (.aload_n 0, 1) := by decide +kernel
theorem dX5_setDelays_35 : decode cX5_setDelays 35 = .ok (.getfield 12, 3) := by decide +kernel
theorem dX5_setDelays_38 : decode cX5_setDelays 38 = .ok (.iload_n 1, 1) := by decide +kernel
theorem dX5_setDelays_39 : decode cX5_setDelays 39 = .ok (.iload_n 2, 1) := by decide +kernel
theorem dX5_setDelays_40 : decode cX5_setDelays 40 = .ok (.iload_n 3, 1) := by decide +kernel
theorem dX5_setDelays_41 : decode cX5_setDelays 41 = .ok (.iload 4, 2) := by decide +kernel
theorem dX5_setDelays_43 : decode cX5_setDelays 43 = .ok (.invokevirtual 63, 3) := by decide +kernel
theorem dX5_setDelays_46 : decode cX5_setDelays 46 = .ok (.ifCond .eq 7, 3) := by decide +kernel
theorem dX5_setDelays_49 : decode cX5_setDelays 49 = .ok (.iconst 1, 1) := by decide +kernel
theorem dX5_setDelays_50 : decode cX5_setDelays 50 = .ok (.goto 4, 3) := by decide +kernel
theorem dX5_setDelays_53 : decode cX5_setDelays 53 = .ok (.iconst 0, 1) := by decide +kernel
theorem dX5_setDelays_54 : decode cX5_setDelays 54 = .ok (.ireturn, 1) := by decide +kernel
theorem dX5_setCondition_0 : decode cX5_setCondition 0 = .ok (.aload_n 0, 1) := by decide +kernel
theorem dX5_setCondition_1 : decode cX5_setCondition 1 = .ok (.getfield 12, 3) := by decide +kernel
theorem dX5_setCondition_4 : decode cX5_setCondition 4 = .ok (.iload_n 1, 1) := by decide +kernel
theorem dX5_setCondition_5 : decode cX5_setCondition 5 = .ok (.invokevirtual 59, 3) := by decide +kernel
theorem dX5_setCondition_8 : decode cX5_setCondition 8 = .ok (.ifCond .eq 19, 3) := by decide +kernel
theorem dX5_setCondition_11 : decode cX5_setCondition 11 = .ok (.iload_n 2, 1) := by decide +kernel
theorem dX5_setCondition_12 : decode cX5_setCondition 12 = .ok (.iconst 0, 1) := by decide +kernel
theorem dX5_setCondition_13 : decode cX5_setCondition 13 = .ok (.aload_n 0, 1) := by decide +kernel
theorem dX5_setCondition_14 : decode cX5_setCondition 14 = .ok (.getfield 12, 3) := by decide +kernel
theorem dX5_setCondition_17 : decode cX5_setCondition 17 = .ok (.iload_n 1, 1) := by decide +kernel
theorem dX5_setCondition_18 : decode cX5_setCondition 18 = .ok (.invokevirtual 67, 3) := by decide +kernel
theorem dX5_setCondition_21 : decode cX5_setCondition 21 = .ok (.invokestatic 71, 3) := by decide +kernel
theorem dX5_setCondition_24 : decode cX5_setCondition 24 = .ok (.ifCond .ne 5, 3) := by decide +kernel
theorem dX5_setCondition_27 : decode cX5_setCondition 27 = .ok (.iconst (-1), 1) := by decide +kernel
theorem dX5_setCondition_28 : decode cX5_setCondition 28 = .ok (.ireturn, 1) := by decide +kernel
theorem dX5_setCondition_29 : decode cX5_setCondition 29 = .ok (.iload_n 3, 1) := by decide +kernel
theorem dX5_setCondition_30 : decode cX5_setCondition 30 = .ok (.iconst 0, 1) := by decide +kernel
theorem dX5_setCondition_31 : decode cX5_setCondition 31 = .ok (.bipush 8, 2) := by decide +kernel
theorem dX5_setCondition_33 : decode cX5_setCondition 33 = .ok (.aload_n 0, 1) := by decide +kernel
theorem dX5_setCondition_34 : decode cX5_setCondition 34 = .ok (.getfield 12, 3) := by decide +kernel
theorem dX5_setCondition_37 : decode cX5_setCondition 37 = .ok (.getfield 47, 3) := by decide +kernel
theorem dX5_setCondition_40 : decode cX5_setCondition 40 = .ok (.iadd, 1) := by decide +kernel
theorem dX5_setCondition_41 : decode cX5_setCondition 41 = .ok (.iconst 1, 1) := by decide +kernel
theorem dX5_setCondition_42 : decode cX5_setCondition 42 = .ok (.isub, 1) := by decide +kernel
theorem dX5_setCondition_43 : decode cX5_setCondition 43 = .ok (.invokestatic 71, 3) := by decide +kernel
theorem dX5_setCondition_46 : decode cX5_setCondition 46 = .ok (.ifCond .eq 13, 3) := by decide +kernel
theorem dX5_setCondition_49 : decode cX5_setCondition 49 = .ok (.iload 4, 2) := by decide +kernel
theorem dX5_setCondition_51 : decode cX5_setCondition 51 = .ok (.iconst 0, 1) := by decide +kernel
theorem dX5_setCondition_52 : decode cX5_setCondition 52 = .ok (.iconst 2, 1) := by decide +kernel
theorem dX5_setCondition_53 : decode cX5_setCondition 53 = .ok (.invokestatic 71, 3) := by decide +kernel
theorem dX5_setCondition_56 : decode cX5_setCondition 56 = .ok (.ifCond .ne 5, 3) := by decide +kernel
theorem dX5_setCondition_59 : decode cX5_setCondition 59 = .ok (.iconst (-1), 1) := by decide +kernel
theorem dX5_setCondition_60 : decode cX5_setCondition 60 = .ok (.ireturn, 1) := by decide +kernel
theorem dX5_setCondition_61 : decode cX5_setCondition 61 = .ok (.iload_n 2, 1) := by decide +kernel
theorem dX5_setCondition_62 : decode cX5_setCondition 62 = .ok (.bipush 6, 2) := by decide +kernel
theorem dX5_setCondition_64 : decode cX5_setCondition 64 = .ok (.if_icmp .lt 6, 3) := by decide +kernel
theorem dX5_setCondition_67 : decode cX5_setCondition 67 = .ok (.bipush (-3), 2) := by decide +kernel
theorem dX5_setCondition_69 : decode cX5_setCondition 69 = .ok (.ireturn, 1) := by decide +kernel
theorem dX5_setCondition_70 : decode cX5_setCondition 70 = .ok (.aload_n 0, 1) := by decide +kernel
theorem dX5_setCondition_71 : decode cX5_setCondition 71 = .ok (.getfield 19, 3) := by decide +kernel
theorem dX5_setCondition_74 : decode cX5_setCondition 74 = .ok (.aload_n 0, 1) := by decide +kernel
theorem dX5_setCondition_75 : decode cX5_setCondition 75 = .ok (.getfield 12, 3) := by decide +kernel
theorem dX5_setCondition_78 : decode cX5_setCondition 78 = .ok (.invokevirtual 51, 3) := by decide +kernel
theorem dX5_setCondition_81 : decode cX5_setCondition 81 = .ok (.aload_n 0, 1) := by decide +kernel
theorem dX5_setCondition_82 : decode cX5_setCondition 82 = .ok (.getfield 12, 3) := by decide +kernel
theorem dX5_setCondition_85 : decode cX5_setCondition 85 = .ok (.iload_n 1, 1) := by decide +kernel
theorem dX5_setCondition_86 : decode cX5_setCondition 86 = .ok (.iload_n 2, 1) := by decide +kernel
theorem dX5_setCondition_87 : decode cX5_setCondition 87 = .ok (.iload_n 3, 1) := by decide +kernel
theorem dX5_setCondition_88 : decode cX5_setCondition 88 = .ok (.iload 4, 2) := by decide +kernel
theorem dX5_setCondition_90 : decode cX5_setCondition 90 = .ok (.invokevirtual 74, 3) := by decide +kernel
theorem dX5_setCondition_93 : decode cX5_setCondition 93 = .ok (.ireturn, 1) := by decide +kernel
theorem dX5_removeBranch_0 : decode cX5_removeBranch 0 = .ok (.aload_n 0, 1) := by decide +kernel
theorem dX5_removeBranch_1 : decode cX5_removeBranch 1 = .ok (.getfield 12, 3) := by decide +kernel
theorem dX5_removeBranch_4 : decode cX5_removeBranch 4 = .ok (.iload_n 1, 1) := by decide +kernel
theorem dX5_removeBranch_5 : decode cX5_removeBranch 5 = .ok (.invokevirtual 59, 3) := by decide +kernel
theorem dX5_removeBranch_8 : decode cX5_removeBranch 8 = .ok (.ifCond .eq 21, 3) := by decide +kernel
theorem dX5_removeBranch_11 : decode cX5_removeBranch 11 = .ok (.iload_n 2, 1) := by decide +kernel
theorem dX5_removeBranch_12 : decode cX5_removeBranch 12 = .ok (.iconst 0, 1) := by decide +kernel
theorem dX5_removeBranch_13 : decode cX5_removeBranch 13 = .ok (.aload_n 0, 1) := by decide +kernel
theorem dX5_removeBranch_14 : decode cX5_removeBranch 14 = .ok (.getfield 12, 3) := by decide +kernel
theorem dX5_removeBranch_17 : decode cX5_removeBranch 17 = .ok (.iload_n 1, 1) := by decide +kernel
theorem dX5_removeBranch_18 : decode cX5_removeBranch 18 = .ok (.invokevirtual 67, 3) := by decide +kernel
theorem dX5_removeBranch_21 : decode cX5_removeBranch 21 = .ok (.iconst 1, 1) := by decide +kernel
theorem dX5_removeBranch_22 : decode cX5_removeBranch 22 = .ok (.isub, 1) := by decide +kernel
theorem dX5_removeBranch_23 : decode cX5_removeBranch 23 = .ok (.invokestatic 71, 3) := by decide +kernel
theorem dX5_removeBranch_26 : decode cX5_removeBranch 26 = .ok (.ifCond .ne 5, 3) := by decide +kernel
theorem dX5_removeBranch_29 : decode cX5_removeBranch 29 = .ok (.iconst (-1), 1) := by decide +kernel
theorem dX5_removeBranch_30 : decode cX5_removeBranch 30 = .ok (.ireturn, 1) := by decide +kernel
theorem dX5_removeBranch_31 : decode cX5_removeBranch 31 = .ok (.aload_n 0, 1) := by decide +kernel
theorem dX5_removeBranch_32 : decode cX5_removeBranch 32 = .ok (.getfield 19, 3) := by decide +kernel
theorem dX5_removeBranch_35 : decode cX5_removeBranch 35 = .ok (.aload_n 0, 1) := by decide +kernel
theorem dX5_removeBranch_36 : decode cX5_removeBranch 36 = .ok (.getfield 12, 3) := by decide +kernel
theorem dX5_removeBranch_39 : decode cX5_removeBranch 39 = .ok (.invokevirtual 51, 3) := by decide +kernel
theorem dX5_removeBranch_42 : decode cX5_removeBranch 42 = .ok (.aload_n 0, 1) := by decide +kernel
theorem dX5_removeBranch_43 : decode cX5_removeBranch 43 = .ok (.getfield 12, 3) := by decide +kernel
theorem dX5_removeBranch_46 : decode cX5_removeBranch 46 = .ok (.iload_n 1, 1) := by decide +kernel
theorem dX5_removeBranch_47 : decode cX5_removeBranch 47 = .ok (.iload_n 2, 1) := by decide +kernel
theorem dX5_removeBranch_48 : decode cX5_removeBranch 48 = .ok (.invokevirtual 78, 3) := by decide +kernel
theorem dX5_removeBranch_51 : decode cX5_removeBranch 51 = .ok (.ireturn, 1) := by decide +kernel
theorem dX5_press_0 : decode cX5_press 0 = .ok (.iload_n 1, 1) := by decide +kernel
theorem dX5_press_1 : decode cX5_press 1 = .ok (.invokestatic 104, 3) := by decide +kernel
theorem dX5_press_4 : decode cX5_press 4 = .ok (.ifCond .eq 12, 3) := by decide +kernel
theorem dX5_press_7 : decode cX5_press 7 = .ok (.iload_n 2, 1) := by decide +kernel
theorem dX5_press_8 : decode cX5_press 8 = .ok (.iconst 0, 1) := by decide +kernel
theorem dX5_press_9 : decode cX5_press 9 = .ok (.iconst 1, 1) := by decide +kernel
theorem dX5_press_10 : decode cX5_press 10 = .ok (.invokestatic 71, 3) := by decide +kernel
theorem dX5_press_13 : decode cX5_press 13 = .ok (.ifCond .ne 5, 3) := by decide +kernel
theorem dX5_press_16 : decode cX5_press 16 = .ok (.iconst (-1), 1) := by decide +kernel
theorem dX5_press_17 : decode cX5_press 17 = .ok (.ireturn, 1) := by decide +kernel
theorem dX5_press_18 : decode cX5_press 18 = .ok (.aload_n 0, 1) := by decide +kernel
theorem dX5_press_19 : decode cX5_press 19 = .ok (.getfield 12, 3) := by decide +kernel
theorem dX5_press_22 : decode cX5_press 22 = .ok (.getfield 107, 3) := by decide +kernel
theorem dX5_press_25 : decode cX5_press 25 = .ok (.iload_n 1, 1) := by decide +kernel
theorem dX5_press_26 : decode cX5_press 26 = .ok (.invokestatic 110, 3) := by decide +kernel
theorem dX5_press_29 : decode cX5_press 29 = .ok (.iload_n 2, 1) := by decide +kernel
theorem dX5_press_30 : decode cX5_press 30 = .ok (.iconst 1, 1) := by decide +kernel
theorem dX5_press_31 : decode cX5_press 31 = .ok (.if_icmp .ne 7, 3) := by decide +kernel
theorem dX5_press_34 : decode cX5_press 34 = .ok (.iconst 1, 1) := by decide +kernel
theorem dX5_press_35 : decode cX5_press 35 = .ok (.goto 4, 3) := by decide +kernel
theorem dX5_press_38 : decode cX5_press 38 = .ok (.iconst 0, 1) := by decide +kernel
theorem dX5_press_39 : decode cX5_press 39 = .ok (.if_icmp .ne 6, 3) := by decide +kernel
theorem dX5_press_42 : decode cX5_press 42 = .ok (.bipush (-2), 2) := by decide +kernel
theorem dX5_press_44 : decode cX5_press 44 = .ok (.ireturn, 1) := by decide +kernel
theorem dX5_press_45 : decode cX5_press 45 = .ok (.aload_n 0, 1) := by decide +kernel
theorem dX5_press_46 : decode cX5_press 46 = .ok (.getfield 19, 3) := by decide +kernel
theorem dX5_press_49 : decode cX5_press 49 = .ok (.aload_n 0, 1) := by decide +kernel
theorem dX5_press_50 : decode cX5_press 50 = .ok (.getfield 12, 3) := by decide +kernel
theorem dX5_press_53 : decode cX5_press 53 = .ok (.invokevirtual 51, 3) := by decide +kernel
theorem dX5_press_56 : decode cX5_press 56 = .ok (.aload_n 0, 1) := by decide +kernel
theorem dX5_press_57 : decode cX5_press 57 = .ok (.getfield 12, 3) := by decide +kernel
theorem dX5_press_60 : decode cX5_press 60 = .ok (.iload_n 1, 1) := by decide +kernel
theorem dX5_press_61 : decode cX5_press 61 = .ok (.invokevirtual 114, 3) := by decide +kernel
theorem dX5_press_64 : decode cX5_press 64 = .ok (.ireturn, 1) := by decide +kernel
theorem dX5_setFault_0 : decode cX5_setFault 0 = .ok (.aload_n 0, 1) := by decide +kernel
theorem dX5_setFault_1 : decode cX5_setFault 1 = .ok (.getfield 12, 3) := by decide +kernel
theorem dX5_setFault_4 : decode cX5_setFault 4 = .ok (.iload_n 1, 1) := by decide +kernel
theorem dX5_setFault_5 : decode cX5_setFault 5 = .ok (.invokevirtual 59, 3) := by decide +kernel
theorem dX5_setFault_8 : decode cX5_setFault 8 = .ok (.ifCond .eq 12, 3) := by decide +kernel
theorem dX5_setFault_11 : decode cX5_setFault 11 = .ok (.iload_n 2, 1) := by decide +kernel
theorem dX5_setFault_12 : decode cX5_setFault 12 = .ok (.iconst 0, 1) := by decide +kernel
theorem dX5_setFault_13 : decode cX5_setFault 13 = .ok (.iconst 2, 1) := by decide +kernel
theorem dX5_setFault_14 : decode cX5_setFault 14 = .ok (.invokestatic 71, 3) := by decide +kernel
theorem dX5_setFault_17 : decode cX5_setFault 17 = .ok (.ifCond .ne 5, 3) := by decide +kernel
theorem dX5_setFault_20 : decode cX5_setFault 20 = .ok (.iconst (-1), 1) := by decide +kernel
theorem dX5_setFault_21 : decode cX5_setFault 21 = .ok (.ireturn, 1) := by decide +kernel
theorem dX5_setFault_22 : decode cX5_setFault 22 = .ok (.aload_n 0, 1) := by decide +kernel
theorem dX5_setFault_23 : decode cX5_setFault 23 = .ok (.getfield 19, 3) := by decide +kernel
theorem dX5_setFault_26 : decode cX5_setFault 26 = .ok (.aload_n 0, 1) := by decide +kernel
theorem dX5_setFault_27 : decode cX5_setFault 27 = .ok (.getfield 12, 3) := by decide +kernel
theorem dX5_setFault_30 : decode cX5_setFault 30 = .ok (.invokevirtual 51, 3) := by decide +kernel
theorem dX5_setFault_33 : decode cX5_setFault 33 = .ok (.aload_n 0, 1) := by decide +kernel
theorem dX5_setFault_34 : decode cX5_setFault 34 = .ok (.getfield 12, 3) := by decide +kernel
theorem dX5_setFault_37 : decode cX5_setFault 37 = .ok (.iload_n 1, 1) := by decide +kernel
theorem dX5_setFault_38 : decode cX5_setFault 38 = .ok (.invokevirtual 117, 3) := by decide +kernel
theorem dX5_setFault_41 : decode cX5_setFault 41 = .ok (.istore_n 3, 1) := by decide +kernel
theorem dX5_setFault_42 : decode cX5_setFault 42 = .ok (.aload_n 0, 1) := by decide +kernel
theorem dX5_setFault_43 : decode cX5_setFault 43 = .ok (.getfield 12, 3) := by decide +kernel
theorem dX5_setFault_46 : decode cX5_setFault 46 = .ok (.iload_n 1, 1) := by decide +kernel
theorem dX5_setFault_47 : decode cX5_setFault 47 = .ok (.iload_n 2, 1) := by decide +kernel
theorem dX5_setFault_48 : decode cX5_setFault 48 = .ok (.invokevirtual 120, 3) := by decide +kernel
theorem dX5_setFault_51 : decode cX5_setFault 51 = .ok (.iload_n 3, 1) := by decide +kernel
theorem dX5_setFault_52 : decode cX5_setFault 52 = .ok (.ireturn, 1) := by decide +kernel
theorem dX5_stick_0 : decode cX5_stick 0 = .ok (.aload_n 0, 1) := by decide +kernel
theorem dX5_stick_1 : decode cX5_stick 1 = .ok (.getfield 12, 3) := by decide +kernel
theorem dX5_stick_4 : decode cX5_stick 4 = .ok (.iload_n 1, 1) := by decide +kernel
theorem dX5_stick_5 : decode cX5_stick 5 = .ok (.invokevirtual 59, 3) := by decide +kernel
theorem dX5_stick_8 : decode cX5_stick 8 = .ok (.ifCond .eq 12, 3) := by decide +kernel
theorem dX5_stick_11 : decode cX5_stick 11 = .ok (.iload_n 2, 1) := by decide +kernel
theorem dX5_stick_12 : decode cX5_stick 12 = .ok (.iconst 0, 1) := by decide +kernel
theorem dX5_stick_13 : decode cX5_stick 13 = .ok (.iconst 1, 1) := by decide +kernel
theorem dX5_stick_14 : decode cX5_stick 14 = .ok (.invokestatic 71, 3) := by decide +kernel
theorem dX5_stick_17 : decode cX5_stick 17 = .ok (.ifCond .ne 5, 3) := by decide +kernel
theorem dX5_stick_20 : decode cX5_stick 20 = .ok (.iconst (-1), 1) := by decide +kernel
theorem dX5_stick_21 : decode cX5_stick 21 = .ok (.ireturn, 1) := by decide +kernel
theorem dX5_stick_22 : decode cX5_stick 22 = .ok (.aload_n 0, 1) := by decide +kernel
theorem dX5_stick_23 : decode cX5_stick 23 = .ok (.getfield 19, 3) := by decide +kernel
theorem dX5_stick_26 : decode cX5_stick 26 = .ok (.aload_n 0, 1) := by decide +kernel
theorem dX5_stick_27 : decode cX5_stick 27 = .ok (.getfield 12, 3) := by decide +kernel
theorem dX5_stick_30 : decode cX5_stick 30 = .ok (.invokevirtual 51, 3) := by decide +kernel
theorem dX5_stick_33 : decode cX5_stick 33 = .ok (.aload_n 0, 1) := by decide +kernel
theorem dX5_stick_34 : decode cX5_stick 34 = .ok (.getfield 12, 3) := by decide +kernel
theorem dX5_stick_37 : decode cX5_stick 37 = .ok (.getfield 124, 3) := by decide +kernel
theorem dX5_stick_40 : decode cX5_stick 40 = .ok (.iload_n 1, 1) := by decide +kernel
theorem dX5_stick_41 : decode cX5_stick 41 = .ok (.invokestatic 127, 3) := by decide +kernel
theorem dX5_stick_44 : decode cX5_stick 44 = .ok (.istore_n 3, 1) := by decide +kernel
theorem dX5_stick_45 : decode cX5_stick 45 = .ok (.aload_n 0, 1) := by decide +kernel
theorem dX5_stick_46 : decode cX5_stick 46 = .ok (.getfield 12, 3) := by decide +kernel
theorem dX5_stick_49 : decode cX5_stick 49 = .ok (.iload_n 2, 1) := by decide +kernel
theorem dX5_stick_50 : decode cX5_stick 50 = .ok (.iconst 1, 1) := by decide +kernel
theorem dX5_stick_51 : decode cX5_stick 51 = .ok (.if_icmp .ne 17, 3) := by decide +kernel
theorem dX5_stick_54 : decode cX5_stick 54 = .ok (.aload_n 0, 1) := by decide +kernel
theorem dX5_stick_55 : decode cX5_stick 55 = .ok (.getfield 12, 3) := by decide +kernel
theorem dX5_stick_58 : decode cX5_stick 58 = .ok (.getfield 124, 3) := by decide +kernel
theorem dX5_stick_61 : decode cX5_stick 61 = .ok (.iconst 1, 1) := by decide +kernel
theorem dX5_stick_62 : decode cX5_stick 62 = .ok (.iload_n 1, 1) := by decide +kernel
theorem dX5_stick_63 : decode cX5_stick 63 = .ok (.ishl, 1) := by decide +kernel
theorem dX5_stick_64 : decode cX5_stick 64 = .ok (.ior, 1) := by decide +kernel
theorem dX5_stick_65 : decode cX5_stick 65 = .ok (.goto 16, 3) := by decide +kernel
theorem dX5_stick_68 : decode cX5_stick 68 = .ok (.aload_n 0, 1) := by decide +kernel
theorem dX5_stick_69 : decode cX5_stick 69 = .ok (.getfield 12, 3) := by decide +kernel
theorem dX5_stick_72 : decode cX5_stick 72 = .ok (.getfield 124, 3) := by decide +kernel
theorem dX5_stick_75 : decode cX5_stick 75 = .ok (.iconst 1, 1) := by decide +kernel
theorem dX5_stick_76 : decode cX5_stick 76 = .ok (.iload_n 1, 1) := by decide +kernel
theorem dX5_stick_77 : decode cX5_stick 77 = .ok (.ishl, 1) := by decide +kernel
theorem dX5_stick_78 : decode cX5_stick 78 = .ok (.iconst (-1), 1) := by decide +kernel
theorem dX5_stick_79 : decode cX5_stick 79 = .ok (.ixor, 1) := by decide +kernel
theorem dX5_stick_80 : decode cX5_stick 80 = .ok (.iand, 1) := by decide +kernel
theorem dX5_stick_81 : decode cX5_stick 81 = .ok (.putfield 124, 3) := by decide +kernel
theorem dX5_stick_84 : decode cX5_stick 84 = .ok (.iload_n 3, 1) := by decide +kernel
theorem dX5_stick_85 : decode cX5_stick 85 = .ok (.ireturn, 1) := by decide +kernel
theorem dX5_step_0 : decode cX5_step 0 = .ok (.aload_n 0, 1) := by decide +kernel
theorem dX5_step_1 : decode cX5_step 1 = .ok (.getfield 12, 3) := by decide +kernel
theorem dX5_step_4 : decode cX5_step 4 = .ok (.iconst 0, 1) := by decide +kernel
theorem dX5_step_5 : decode cX5_step 5 = .ok (.invokevirtual 130, 3) := by decide +kernel
theorem dX5_step_8 : decode cX5_step 8 = .ok (.istore_n 1, 1) := by decide +kernel
theorem dX5_step_9 : decode cX5_step 9 = .ok (.iload_n 1, 1) := by decide +kernel
theorem dX5_step_10 : decode cX5_step 10 = .ok (.iconst (-1), 1) := by decide +kernel
theorem dX5_step_11 : decode cX5_step 11 = .ok (.if_icmp .ne 6, 3) := by decide +kernel
theorem dX5_step_14 : decode cX5_step 14 = .ok (.bipush (-2), 2) := by decide +kernel
theorem dX5_step_16 : decode cX5_step 16 = .ok (.ireturn, 1) := by decide +kernel
theorem dX5_step_17 : decode cX5_step 17 = .ok (.aload_n 0, 1) := by decide +kernel
theorem dX5_step_18 : decode cX5_step 18 = .ok (.getfield 19, 3) := by decide +kernel
theorem dX5_step_21 : decode cX5_step 21 = .ok (.aload_n 0, 1) := by decide +kernel
theorem dX5_step_22 : decode cX5_step 22 = .ok (.getfield 12, 3) := by decide +kernel
theorem dX5_step_25 : decode cX5_step 25 = .ok (.invokevirtual 51, 3) := by decide +kernel
theorem dX5_step_28 : decode cX5_step 28 = .ok (.aload_n 0, 1) := by decide +kernel
theorem dX5_step_29 : decode cX5_step 29 = .ok (.getfield 12, 3) := by decide +kernel
theorem dX5_step_32 : decode cX5_step 32 = .ok (.iload_n 1, 1) := by decide +kernel
theorem dX5_step_33 : decode cX5_step 33 = .ok (.invokevirtual 134, 3) := by decide +kernel
theorem dX5_step_36 : decode cX5_step 36 = .ok (.istore_n 2, 1) := by decide +kernel
theorem dX5_step_37 : decode cX5_step 37 = .ok (.aload_n 0, 1) := by decide +kernel
theorem dX5_step_38 : decode cX5_step 38 = .ok (.getfield 12, 3) := by decide +kernel
theorem dX5_step_41 : decode cX5_step 41 = .ok (.iload_n 1, 1) := by decide +kernel
theorem dX5_step_42 : decode cX5_step 42 = .ok (.invokevirtual 137, 3) := by decide +kernel
theorem dX5_step_45 : decode cX5_step 45 = .ok (.bipush 10, 2) := by decide +kernel
theorem dX5_step_47 : decode cX5_step 47 = .ok (.iload_n 1, 1) := by decide +kernel
theorem dX5_step_48 : decode cX5_step 48 = .ok (.invokestatic 141, 3) := by decide +kernel
theorem dX5_step_51 : decode cX5_step 51 = .ok (.imul, 1) := by decide +kernel
theorem dX5_step_52 : decode cX5_step 52 = .ok (.iload_n 2, 1) := by decide +kernel
theorem dX5_step_53 : decode cX5_step 53 = .ok (.iadd, 1) := by decide +kernel
theorem dX5_step_54 : decode cX5_step 54 = .ok (.ireturn, 1) := by decide +kernel
theorem dX5_settle_0 : decode cX5_settle 0 = .ok (.iload_n 1, 1) := by decide +kernel
theorem dX5_settle_1 : decode cX5_settle 1 = .ok (.iconst 1, 1) := by decide +kernel
theorem dX5_settle_2 : decode cX5_settle 2 = .ok (.sipush 200, 3) := by decide +kernel
theorem dX5_settle_5 : decode cX5_settle 5 = .ok (.invokestatic 71, 3) := by decide +kernel
theorem dX5_settle_8 : decode cX5_settle 8 = .ok (.ifCond .ne 5, 3) := by decide +kernel
theorem dX5_settle_11 : decode cX5_settle 11 = .ok (.iconst (-1), 1) := by decide +kernel
theorem dX5_settle_12 : decode cX5_settle 12 = .ok (.ireturn, 1) := by decide +kernel
theorem dX5_settle_13 : decode cX5_settle 13 = .ok (.aload_n 0, 1) := by decide +kernel
theorem dX5_settle_14 : decode cX5_settle 14 = .ok (.getfield 19, 3) := by decide +kernel
theorem dX5_settle_17 : decode cX5_settle 17 = .ok (.aload_n 0, 1) := by decide +kernel
theorem dX5_settle_18 : decode cX5_settle 18 = .ok (.getfield 12, 3) := by decide +kernel
theorem dX5_settle_21 : decode cX5_settle 21 = .ok (.invokevirtual 51, 3) := by decide +kernel
theorem dX5_settle_24 : decode cX5_settle 24 = .ok (.aload_n 0, 1) := by decide +kernel
theorem dX5_settle_25 : decode cX5_settle 25 = .ok (.getfield 12, 3) := by decide +kernel
theorem dX5_settle_28 : decode cX5_settle 28 = .ok (.iload_n 1, 1) := by decide +kernel
theorem dX5_settle_29 : decode cX5_settle 29 = .ok (.ldc 144, 2) := by decide +kernel
theorem dX5_settle_31 : decode cX5_settle 31 = .ok (.iconst 0, 1) := by decide +kernel
theorem dX5_settle_32 : decode cX5_settle 32 = .ok (.invokevirtual 145, 3) := by decide +kernel
theorem dX5_settle_35 : decode cX5_settle 35 = .ok (.ireturn, 1) := by decide +kernel
theorem dX5_pass_0 : decode cX5_pass 0 = .ok (.iload_n 1, 1) := by decide +kernel
theorem dX5_pass_1 : decode cX5_pass 1 = .ok (.iconst 1, 1) := by decide +kernel
theorem dX5_pass_2 : decode cX5_pass 2 = .ok (.sipush 1000, 3) := by decide +kernel
theorem dX5_pass_5 : decode cX5_pass 5 = .ok (.invokestatic 71, 3) := by decide +kernel
theorem dX5_pass_8 : decode cX5_pass 8 = .ok (.ifCond .ne 5, 3) := by decide +kernel
theorem dX5_pass_11 : decode cX5_pass 11 = .ok (.iconst (-1), 1) := by decide +kernel
theorem dX5_pass_12 : decode cX5_pass 12 = .ok (.ireturn, 1) := by decide +kernel
theorem dX5_pass_13 : decode cX5_pass 13 = .ok (.aload_n 0, 1) := by decide +kernel
theorem dX5_pass_14 : decode cX5_pass 14 = .ok (.getfield 12, 3) := by decide +kernel
theorem dX5_pass_17 : decode cX5_pass 17 = .ok (.getfield 149, 3) := by decide +kernel
theorem dX5_pass_20 : decode cX5_pass 20 = .ok (.iload_n 1, 1) := by decide +kernel
theorem dX5_pass_21 : decode cX5_pass 21 = .ok (.iadd, 1) := by decide +kernel
theorem dX5_pass_22 : decode cX5_pass 22 = .ok (.istore_n 2, 1) := by decide +kernel
theorem dX5_pass_23 : decode cX5_pass 23 = .ok (.iload_n 2, 1) := by decide +kernel
theorem dX5_pass_24 : decode cX5_pass 24 = .ok (.ldc 152, 2) := by decide +kernel
theorem dX5_pass_26 : decode cX5_pass 26 = .ok (.if_icmp .le 6, 3) := by decide +kernel
theorem dX5_pass_29 : decode cX5_pass 29 = .ok (.bipush (-3), 2) := by decide +kernel
theorem dX5_pass_31 : decode cX5_pass 31 = .ok (.ireturn, 1) := by decide +kernel
theorem dX5_pass_32 : decode cX5_pass 32 = .ok (.aload_n 0, 1) := by decide +kernel
theorem dX5_pass_33 : decode cX5_pass 33 = .ok (.getfield 40, 3) := by decide +kernel
theorem dX5_pass_36 : decode cX5_pass 36 = .ok (.aload_n 0, 1) := by decide +kernel
theorem dX5_pass_37 : decode cX5_pass 37 = .ok (.getfield 12, 3) := by decide +kernel
theorem dX5_pass_40 : decode cX5_pass 40 = .ok (.invokevirtual 153, 3) := by decide +kernel
theorem dX5_pass_43 : decode cX5_pass 43 = .ok (.aload_n 0, 1) := by decide +kernel
theorem dX5_pass_44 : decode cX5_pass 44 = .ok (.getfield 40, 3) := by decide +kernel
theorem dX5_pass_47 : decode cX5_pass 47 = .ok (.sipush 201, 3) := by decide +kernel
theorem dX5_pass_50 : decode cX5_pass 50 = .ok (.iload_n 2, 1) := by decide +kernel
theorem dX5_pass_51 : decode cX5_pass 51 = .ok (.iconst 0, 1) := by decide +kernel
theorem dX5_pass_52 : decode cX5_pass 52 = .ok (.invokevirtual 145, 3) := by decide +kernel
theorem dX5_pass_55 : decode cX5_pass 55 = .ok (.istore_n 3, 1) := by decide +kernel
theorem dX5_pass_56 : decode cX5_pass 56 = .ok (.iload_n 3, 1) := by decide +kernel
theorem dX5_pass_57 : decode cX5_pass 57 = .ok (.sipush 200, 3) := by decide +kernel
theorem dX5_pass_60 : decode cX5_pass 60 = .ok (.if_icmp .le 6, 3) := by decide +kernel
theorem dX5_pass_63 : decode cX5_pass 63 = .ok (.bipush (-3), 2) := by decide +kernel
theorem dX5_pass_65 : decode cX5_pass 65 = .ok (.ireturn, 1) := by decide +kernel
theorem dX5_pass_66 : decode cX5_pass 66 = .ok (.aload_n 0, 1) := by decide +kernel
theorem dX5_pass_67 : decode cX5_pass 67 = .ok (.getfield 19, 3) := by decide +kernel
theorem dX5_pass_70 : decode cX5_pass 70 = .ok (.aload_n 0, 1) := by decide +kernel
theorem dX5_pass_71 : decode cX5_pass 71 = .ok (.getfield 12, 3) := by decide +kernel
theorem dX5_pass_74 : decode cX5_pass 74 = .ok (.invokevirtual 51, 3) := by decide +kernel
theorem dX5_pass_77 : decode cX5_pass 77 = .ok (.aload_n 0, 1) := by decide +kernel
theorem dX5_pass_78 : decode cX5_pass 78 = .ok (.getfield 12, 3) := by decide +kernel
theorem dX5_pass_81 : decode cX5_pass 81 = .ok (.aload_n 0, 1) := by decide +kernel
theorem dX5_pass_82 : decode cX5_pass 82 = .ok (.getfield 40, 3) := by decide +kernel
theorem dX5_pass_85 : decode cX5_pass 85 = .ok (.invokevirtual 153, 3) := by decide +kernel
theorem dX5_pass_88 : decode cX5_pass 88 = .ok (.aload_n 0, 1) := by decide +kernel
theorem dX5_pass_89 : decode cX5_pass 89 = .ok (.getfield 12, 3) := by decide +kernel
theorem dX5_pass_92 : decode cX5_pass 92 = .ok (.iload_n 2, 1) := by decide +kernel
theorem dX5_pass_93 : decode cX5_pass 93 = .ok (.putfield 149, 3) := by decide +kernel
theorem dX5_pass_96 : decode cX5_pass 96 = .ok (.iload_n 3, 1) := by decide +kernel
theorem dX5_pass_97 : decode cX5_pass 97 = .ok (.ireturn, 1) := by decide +kernel
theorem dX5_count_0 : decode cX5_count 0 = .ok (.iload_n 1, 1) := by decide +kernel
theorem dX5_count_1 : decode cX5_count 1 = .ok (.tableswitch 135 0 9 #[55, 63, 71, 79, 87, 95, 103, 111, 119, 127], 55) := by decide +kernel
theorem dX5_count_56 : decode cX5_count 56 = .ok (.aload_n 0, 1) := by decide +kernel
theorem dX5_count_57 : decode cX5_count 57 = .ok (.getfield 12, 3) := by decide +kernel
theorem dX5_count_60 : decode cX5_count 60 = .ok (.getfield 47, 3) := by decide +kernel
theorem dX5_count_63 : decode cX5_count 63 = .ok (.ireturn, 1) := by decide +kernel
theorem dX5_count_64 : decode cX5_count 64 = .ok (.aload_n 0, 1) := by decide +kernel
theorem dX5_count_65 : decode cX5_count 65 = .ok (.getfield 12, 3) := by decide +kernel
theorem dX5_count_68 : decode cX5_count 68 = .ok (.getfield 149, 3) := by decide +kernel
theorem dX5_count_71 : decode cX5_count 71 = .ok (.ireturn, 1) := by decide +kernel
theorem dX5_count_72 : decode cX5_count 72 = .ok (.aload_n 0, 1) := by decide +kernel
theorem dX5_count_73 : decode cX5_count 73 = .ok (.getfield 12, 3) := by decide +kernel
theorem dX5_count_76 : decode cX5_count 76 = .ok (.invokevirtual 156, 3) := by decide +kernel
theorem dX5_count_79 : decode cX5_count 79 = .ok (.ireturn, 1) := by decide +kernel
theorem dX5_count_80 : decode cX5_count 80 = .ok (.aload_n 0, 1) := by decide +kernel
theorem dX5_count_81 : decode cX5_count 81 = .ok (.getfield 12, 3) := by decide +kernel
theorem dX5_count_84 : decode cX5_count 84 = .ok (.getfield 107, 3) := by decide +kernel
theorem dX5_count_87 : decode cX5_count 87 = .ok (.ireturn, 1) := by decide +kernel
theorem dX5_count_88 : decode cX5_count 88 = .ok (.aload_n 0, 1) := by decide +kernel
theorem dX5_count_89 : decode cX5_count 89 = .ok (.getfield 12, 3) := by decide +kernel
theorem dX5_count_92 : decode cX5_count 92 = .ok (.getfield 160, 3) := by decide +kernel
theorem dX5_count_95 : decode cX5_count 95 = .ok (.ireturn, 1) := by decide +kernel
theorem dX5_count_96 : decode cX5_count 96 = .ok (.aload_n 0, 1) := by decide +kernel
theorem dX5_count_97 : decode cX5_count 97 = .ok (.getfield 12, 3) := by decide +kernel
theorem dX5_count_100 : decode cX5_count 100 = .ok (.getfield 163, 3) := by decide +kernel
theorem dX5_count_103 : decode cX5_count 103 = .ok (.ireturn, 1) := by decide +kernel
theorem dX5_count_104 : decode cX5_count 104 = .ok (.aload_n 0, 1) := by decide +kernel
theorem dX5_count_105 : decode cX5_count 105 = .ok (.getfield 12, 3) := by decide +kernel
theorem dX5_count_108 : decode cX5_count 108 = .ok (.invokevirtual 166, 3) := by decide +kernel
theorem dX5_count_111 : decode cX5_count 111 = .ok (.ireturn, 1) := by decide +kernel
theorem dX5_count_112 : decode cX5_count 112 = .ok (.aload_n 0, 1) := by decide +kernel
theorem dX5_count_113 : decode cX5_count 113 = .ok (.getfield 12, 3) := by decide +kernel
theorem dX5_count_116 : decode cX5_count 116 = .ok (.getfield 169, 3) := by decide +kernel
theorem dX5_count_119 : decode cX5_count 119 = .ok (.ireturn, 1) := by decide +kernel
theorem dX5_count_120 : decode cX5_count 120 = .ok (.aload_n 0, 1) := by decide +kernel
theorem dX5_count_121 : decode cX5_count 121 = .ok (.getfield 26, 3) := by decide +kernel
theorem dX5_count_124 : decode cX5_count 124 = .ok (.getfield 82, 3) := by decide +kernel
theorem dX5_count_127 : decode cX5_count 127 = .ok (.ireturn, 1) := by decide +kernel
theorem dX5_count_128 : decode cX5_count 128 = .ok (.aload_n 0, 1) := by decide +kernel
theorem dX5_count_129 : decode cX5_count 129 = .ok (.getfield 19, 3) := by decide +kernel
theorem dX5_count_132 : decode cX5_count 132 = .ok (.getfield 172, 3) := by decide +kernel
theorem dX5_count_135 : decode cX5_count 135 = .ok (.ireturn, 1) := by decide +kernel
theorem dX5_count_136 : decode cX5_count 136 = .ok (.iconst (-1), 1) := by decide +kernel
theorem dX5_count_137 : decode cX5_count 137 = .ok (.ireturn, 1) := by decide +kernel
theorem dX5_relay_0 : decode cX5_relay 0 = .ok (.aload_n 0, 1) := by decide +kernel
theorem dX5_relay_1 : decode cX5_relay 1 = .ok (.getfield 12, 3) := by decide +kernel
theorem dX5_relay_4 : decode cX5_relay 4 = .ok (.iload_n 1, 1) := by decide +kernel
theorem dX5_relay_5 : decode cX5_relay 5 = .ok (.invokevirtual 59, 3) := by decide +kernel
theorem dX5_relay_8 : decode cX5_relay 8 = .ok (.ifCond .ne 5, 3) := by decide +kernel
theorem dX5_relay_11 : decode cX5_relay 11 = .ok (.iconst (-1), 1) := by decide +kernel
theorem dX5_relay_12 : decode cX5_relay 12 = .ok (.ireturn, 1) := by decide +kernel
theorem dX5_relay_13 : decode cX5_relay 13 = .ok (.iload_n 2, 1) := by decide +kernel
theorem dX5_relay_14 : decode cX5_relay 14 = .ok (.tableswitch 157 0 7 #[46, 58, 70, 82, 91, 100, 112, 133], 46) := by decide +kernel
theorem dX5_relay_60 : decode cX5_relay 60 = .ok (.aload_n 0, 1) := by decide +kernel
theorem dX5_relay_61 : decode cX5_relay 61 = .ok (.getfield 12, 3) := by decide +kernel
theorem dX5_relay_64 : decode cX5_relay 64 = .ok (.getfield 173, 3) := by decide +kernel
theorem dX5_relay_67 : decode cX5_relay 67 = .ok (.iload_n 1, 1) := by decide +kernel
theorem dX5_relay_68 : decode cX5_relay 68 = .ok (.invokestatic 176, 3) := by decide +kernel
theorem dX5_relay_71 : decode cX5_relay 71 = .ok (.ireturn, 1) := by decide +kernel
theorem dX5_relay_72 : decode cX5_relay 72 = .ok (.aload_n 0, 1) := by decide +kernel
theorem dX5_relay_73 : decode cX5_relay 73 = .ok (.getfield 12, 3) := by decide +kernel
theorem dX5_relay_76 : decode cX5_relay 76 = .ok (.getfield 180, 3) := by decide +kernel
theorem dX5_relay_79 : decode cX5_relay 79 = .ok (.iload_n 1, 1) := by decide +kernel
theorem dX5_relay_80 : decode cX5_relay 80 = .ok (.invokestatic 176, 3) := by decide +kernel
theorem dX5_relay_83 : decode cX5_relay 83 = .ok (.ireturn, 1) := by decide +kernel
theorem dX5_relay_84 : decode cX5_relay 84 = .ok (.aload_n 0, 1) := by decide +kernel
theorem dX5_relay_85 : decode cX5_relay 85 = .ok (.getfield 12, 3) := by decide +kernel
theorem dX5_relay_88 : decode cX5_relay 88 = .ok (.getfield 183, 3) := by decide +kernel
theorem dX5_relay_91 : decode cX5_relay 91 = .ok (.iload_n 1, 1) := by decide +kernel
theorem dX5_relay_92 : decode cX5_relay 92 = .ok (.invokestatic 176, 3) := by decide +kernel
theorem dX5_relay_95 : decode cX5_relay 95 = .ok (.ireturn, 1) := by decide +kernel
theorem dX5_relay_96 : decode cX5_relay 96 = .ok (.aload_n 0, 1) := by decide +kernel
theorem dX5_relay_97 : decode cX5_relay 97 = .ok (.getfield 12, 3) := by decide +kernel
theorem dX5_relay_100 : decode cX5_relay 100 = .ok (.iload_n 1, 1) := by decide +kernel
theorem dX5_relay_101 : decode cX5_relay 101 = .ok (.invokevirtual 67, 3) := by decide +kernel
theorem dX5_relay_104 : decode cX5_relay 104 = .ok (.ireturn, 1) := by decide +kernel
theorem dX5_relay_105 : decode cX5_relay 105 = .ok (.aload_n 0, 1) := by decide +kernel
theorem dX5_relay_106 : decode cX5_relay 106 = .ok (.getfield 12, 3) := by decide +kernel
theorem dX5_relay_109 : decode cX5_relay 109 = .ok (.iload_n 1, 1) := by decide +kernel
theorem dX5_relay_110 : decode cX5_relay 110 = .ok (.invokevirtual 117, 3) := by decide +kernel
theorem dX5_relay_113 : decode cX5_relay 113 = .ok (.ireturn, 1) := by decide +kernel
theorem dX5_relay_114 : decode cX5_relay 114 = .ok (.aload_n 0, 1) := by decide +kernel
theorem dX5_relay_115 : decode cX5_relay 115 = .ok (.getfield 12, 3) := by decide +kernel
theorem dX5_relay_118 : decode cX5_relay 118 = .ok (.getfield 124, 3) := by decide +kernel
theorem dX5_relay_121 : decode cX5_relay 121 = .ok (.iload_n 1, 1) := by decide +kernel
theorem dX5_relay_122 : decode cX5_relay 122 = .ok (.invokestatic 127, 3) := by decide +kernel
theorem dX5_relay_125 : decode cX5_relay 125 = .ok (.ireturn, 1) := by decide +kernel
theorem dX5_relay_126 : decode cX5_relay 126 = .ok (.aload_n 0, 1) := by decide +kernel
theorem dX5_relay_127 : decode cX5_relay 127 = .ok (.getfield 12, 3) := by decide +kernel
theorem dX5_relay_130 : decode cX5_relay 130 = .ok (.iload_n 1, 1) := by decide +kernel
theorem dX5_relay_131 : decode cX5_relay 131 = .ok (.bipush 8, 2) := by decide +kernel
theorem dX5_relay_133 : decode cX5_relay 133 = .ok (.iload_n 1, 1) := by decide +kernel
theorem dX5_relay_134 : decode cX5_relay 134 = .ok (.iadd, 1) := by decide +kernel
theorem dX5_relay_135 : decode cX5_relay 135 = .ok (.invokevirtual 186, 3) := by decide +kernel
theorem dX5_relay_138 : decode cX5_relay 138 = .ok (.ifCond .eq 7, 3) := by decide +kernel
theorem dX5_relay_141 : decode cX5_relay 141 = .ok (.iconst 1, 1) := by decide +kernel
theorem dX5_relay_142 : decode cX5_relay 142 = .ok (.goto 4, 3) := by decide +kernel
theorem dX5_relay_145 : decode cX5_relay 145 = .ok (.iconst 0, 1) := by decide +kernel
theorem dX5_relay_146 : decode cX5_relay 146 = .ok (.ireturn, 1) := by decide +kernel
theorem dX5_relay_147 : decode cX5_relay 147 = .ok (.aload_n 0, 1) := by decide +kernel
theorem dX5_relay_148 : decode cX5_relay 148 = .ok (.getfield 12, 3) := by decide +kernel
theorem dX5_relay_151 : decode cX5_relay 151 = .ok (.iload_n 1, 1) := by decide +kernel
theorem dX5_relay_152 : decode cX5_relay 152 = .ok (.aload_n 0, 1) := by decide +kernel
theorem dX5_relay_153 : decode cX5_relay 153 = .ok (.getfield 12, 3) := by decide +kernel
theorem dX5_relay_156 : decode cX5_relay 156 = .ok (.invokevirtual 189, 3) := by decide +kernel
theorem dX5_relay_159 : decode cX5_relay 159 = .ok (.invokevirtual 192, 3) := by decide +kernel
theorem dX5_relay_162 : decode cX5_relay 162 = .ok (.ifCond .eq 7, 3) := by decide +kernel
theorem dX5_relay_165 : decode cX5_relay 165 = .ok (.iconst 1, 1) := by decide +kernel
theorem dX5_relay_166 : decode cX5_relay 166 = .ok (.goto 4, 3) := by decide +kernel
theorem dX5_relay_169 : decode cX5_relay 169 = .ok (.iconst 0, 1) := by decide +kernel
theorem dX5_relay_170 : decode cX5_relay 170 = .ok (.ireturn, 1) := by decide +kernel
theorem dX5_relay_171 : decode cX5_relay 171 = .ok (.iconst (-1), 1) := by decide +kernel
theorem dX5_relay_172 : decode cX5_relay 172 = .ok (.ireturn, 1) := by decide +kernel
theorem dX5_condition_0 : decode cX5_condition 0 = .ok (.aload_n 0, 1) := by decide +kernel
theorem dX5_condition_1 : decode cX5_condition 1 = .ok (.getfield 12, 3) := by decide +kernel
theorem dX5_condition_4 : decode cX5_condition 4 = .ok (.iload_n 1, 1) := by decide +kernel
theorem dX5_condition_5 : decode cX5_condition 5 = .ok (.invokevirtual 59, 3) := by decide +kernel
theorem dX5_condition_8 : decode cX5_condition 8 = .ok (.ifCond .eq 21, 3) := by decide +kernel
theorem dX5_condition_11 : decode cX5_condition 11 = .ok (.iload_n 2, 1) := by decide +kernel
theorem dX5_condition_12 : decode cX5_condition 12 = .ok (.iconst 0, 1) := by decide +kernel
theorem dX5_condition_13 : decode cX5_condition 13 = .ok (.aload_n 0, 1) := by decide +kernel
theorem dX5_condition_14 : decode cX5_condition 14 = .ok (.getfield 12, 3) := by decide +kernel
theorem dX5_condition_17 : decode cX5_condition 17 = .ok (.iload_n 1, 1) := by decide +kernel
theorem dX5_condition_18 : decode cX5_condition 18 = .ok (.invokevirtual 67, 3) := by decide +kernel
theorem dX5_condition_21 : decode cX5_condition 21 = .ok (.iconst 1, 1) := by decide +kernel
theorem dX5_condition_22 : decode cX5_condition 22 = .ok (.isub, 1) := by decide +kernel
theorem dX5_condition_23 : decode cX5_condition 23 = .ok (.invokestatic 71, 3) := by decide +kernel
theorem dX5_condition_26 : decode cX5_condition 26 = .ok (.ifCond .ne 5, 3) := by decide +kernel
theorem dX5_condition_29 : decode cX5_condition 29 = .ok (.iconst (-1), 1) := by decide +kernel
theorem dX5_condition_30 : decode cX5_condition 30 = .ok (.ireturn, 1) := by decide +kernel
theorem dX5_condition_31 : decode cX5_condition 31 = .ok (.iload_n 3, 1) := by decide +kernel
theorem dX5_condition_32 : decode cX5_condition 32 = .ok (.iconst 0, 1) := by decide +kernel
theorem dX5_condition_33 : decode cX5_condition 33 = .ok (.bipush 15, 2) := by decide +kernel
theorem dX5_condition_35 : decode cX5_condition 35 = .ok (.invokestatic 71, 3) := by decide +kernel
theorem dX5_condition_38 : decode cX5_condition 38 = .ok (.ifCond .ne 5, 3) := by decide +kernel
theorem dX5_condition_41 : decode cX5_condition 41 = .ok (.iconst (-1), 1) := by decide +kernel
theorem dX5_condition_42 : decode cX5_condition 42 = .ok (.ireturn, 1) := by decide +kernel
theorem dX5_condition_43 : decode cX5_condition 43 = .ok (.aload_n 0, 1) := by decide +kernel
theorem dX5_condition_44 : decode cX5_condition 44 = .ok (.getfield 12, 3) := by decide +kernel
theorem dX5_condition_47 : decode cX5_condition 47 = .ok (.iload_n 1, 1) := by decide +kernel
theorem dX5_condition_48 : decode cX5_condition 48 = .ok (.iload_n 2, 1) := by decide +kernel
theorem dX5_condition_49 : decode cX5_condition 49 = .ok (.invokevirtual 195, 3) := by decide +kernel
theorem dX5_condition_52 : decode cX5_condition 52 = .ok (.iload_n 3, 1) := by decide +kernel
theorem dX5_condition_53 : decode cX5_condition 53 = .ok (.invokestatic 198, 3) := by decide +kernel
theorem dX5_condition_56 : decode cX5_condition 56 = .ok (.ireturn, 1) := by decide +kernel
theorem dX5_event_0 : decode cX5_event 0 = .ok (.iload_n 1, 1) := by decide +kernel
theorem dX5_event_1 : decode cX5_event 1 = .ok (.ifCond .lt 12, 3) := by decide +kernel
theorem dX5_event_4 : decode cX5_event 4 = .ok (.iload_n 2, 1) := by decide +kernel
theorem dX5_event_5 : decode cX5_event 5 = .ok (.iconst 0, 1) := by decide +kernel
theorem dX5_event_6 : decode cX5_event 6 = .ok (.iconst 2, 1) := by decide +kernel
theorem dX5_event_7 : decode cX5_event 7 = .ok (.invokestatic 71, 3) := by decide +kernel
theorem dX5_event_10 : decode cX5_event 10 = .ok (.ifCond .ne 5, 3) := by decide +kernel
theorem dX5_event_13 : decode cX5_event 13 = .ok (.iconst (-1), 1) := by decide +kernel
theorem dX5_event_14 : decode cX5_event 14 = .ok (.ireturn, 1) := by decide +kernel
theorem dX5_event_15 : decode cX5_event 15 = .ok (.aload_n 0, 1) := by decide +kernel
theorem dX5_event_16 : decode cX5_event 16 = .ok (.getfield 12, 3) := by decide +kernel
theorem dX5_event_19 : decode cX5_event 19 = .ok (.iload_n 1, 1) := by decide +kernel
theorem dX5_event_20 : decode cX5_event 20 = .ok (.invokevirtual 203, 3) := by decide +kernel
theorem dX5_event_23 : decode cX5_event 23 = .ok (.istore_n 3, 1) := by decide +kernel
theorem dX5_event_24 : decode cX5_event 24 = .ok (.iload_n 3, 1) := by decide +kernel
theorem dX5_event_25 : decode cX5_event 25 = .ok (.iconst (-1), 1) := by decide +kernel
theorem dX5_event_26 : decode cX5_event 26 = .ok (.if_icmp .ne 6, 3) := by decide +kernel
theorem dX5_event_29 : decode cX5_event 29 = .ok (.bipush (-9), 2) := by decide +kernel
theorem dX5_event_31 : decode cX5_event 31 = .ok (.ireturn, 1) := by decide +kernel
theorem dX5_event_32 : decode cX5_event 32 = .ok (.iload_n 2, 1) := by decide +kernel
theorem dX5_event_33 : decode cX5_event 33 = .ok (.lookupswitch 44 #[(0, 27), (1, 39)], 27) := by decide +kernel
theorem dX5_event_60 : decode cX5_event 60 = .ok (.aload_n 0, 1) := by decide +kernel
theorem dX5_event_61 : decode cX5_event 61 = .ok (.getfield 12, 3) := by decide +kernel
theorem dX5_event_64 : decode cX5_event 64 = .ok (.getfield 206, 3) := by decide +kernel
theorem dX5_event_67 : decode cX5_event 67 = .ok (.iload_n 3, 1) := by decide +kernel
theorem dX5_event_68 : decode cX5_event 68 = .ok (.invokestatic 176, 3) := by decide +kernel
theorem dX5_event_71 : decode cX5_event 71 = .ok (.ireturn, 1) := by decide +kernel
theorem dX5_event_72 : decode cX5_event 72 = .ok (.iload_n 3, 1) := by decide +kernel
theorem dX5_event_73 : decode cX5_event 73 = .ok (.invokestatic 141, 3) := by decide +kernel
theorem dX5_event_76 : decode cX5_event 76 = .ok (.ireturn, 1) := by decide +kernel
theorem dX5_event_77 : decode cX5_event 77 = .ok (.aload_n 0, 1) := by decide +kernel
theorem dX5_event_78 : decode cX5_event 78 = .ok (.getfield 12, 3) := by decide +kernel
theorem dX5_event_81 : decode cX5_event 81 = .ok (.iload_n 3, 1) := by decide +kernel
theorem dX5_event_82 : decode cX5_event 82 = .ok (.invokevirtual 134, 3) := by decide +kernel
theorem dX5_event_85 : decode cX5_event 85 = .ok (.ireturn, 1) := by decide +kernel
theorem dX5_outcome_0 : decode cX5_outcome 0 = .ok (.iload_n 1, 1) := by decide +kernel
theorem dX5_outcome_1 : decode cX5_outcome 1 = .ok (.iconst 0, 1) := by decide +kernel
theorem dX5_outcome_2 : decode cX5_outcome 2 = .ok (.iconst 1, 1) := by decide +kernel
theorem dX5_outcome_3 : decode cX5_outcome 3 = .ok (.invokestatic 71, 3) := by decide +kernel
theorem dX5_outcome_6 : decode cX5_outcome 6 = .ok (.ifCond .eq 14, 3) := by decide +kernel
theorem dX5_outcome_9 : decode cX5_outcome 9 = .ok (.iload_n 2, 1) := by decide +kernel
theorem dX5_outcome_10 : decode cX5_outcome 10 = .ok (.iconst 1, 1) := by decide +kernel
theorem dX5_outcome_11 : decode cX5_outcome 11 = .ok (.sipush 200, 3) := by decide +kernel
theorem dX5_outcome_14 : decode cX5_outcome 14 = .ok (.invokestatic 71, 3) := by decide +kernel
theorem dX5_outcome_17 : decode cX5_outcome 17 = .ok (.ifCond .ne 5, 3) := by decide +kernel
theorem dX5_outcome_20 : decode cX5_outcome 20 = .ok (.iconst (-1), 1) := by decide +kernel
theorem dX5_outcome_21 : decode cX5_outcome 21 = .ok (.ireturn, 1) := by decide +kernel
theorem dX5_outcome_22 : decode cX5_outcome 22 = .ok (.aload_n 0, 1) := by decide +kernel
theorem dX5_outcome_23 : decode cX5_outcome 23 = .ok (.aload_n 0, 1) := by decide +kernel
theorem dX5_outcome_24 : decode cX5_outcome 24 = .ok (.getfield 12, 3) := by decide +kernel
theorem dX5_outcome_27 : decode cX5_outcome 27 = .ok (.iload_n 2, 1) := by decide +kernel
theorem dX5_outcome_28 : decode cX5_outcome 28 = .ok (.iload_n 1, 1) := by decide +kernel
theorem dX5_outcome_29 : decode cX5_outcome 29 = .ok (.iconst 1, 1) := by decide +kernel
theorem dX5_outcome_30 : decode cX5_outcome 30 = .ok (.if_icmp .ne 7, 3) := by decide +kernel
theorem dX5_outcome_33 : decode cX5_outcome 33 = .ok (.iconst 1, 1) := by decide +kernel
theorem dX5_outcome_34 : decode cX5_outcome 34 = .ok (.goto 4, 3) := by decide +kernel
theorem dX5_outcome_37 : decode cX5_outcome 37 = .ok (.iconst 0, 1) := by decide +kernel
theorem dX5_outcome_38 : decode cX5_outcome 38 = .ok (.invokevirtual 209, 3) := by decide +kernel
theorem dX5_outcome_41 : decode cX5_outcome 41 = .ok (.ireturn, 1) := by decide +kernel
theorem dX5_isRace_0 : decode cX5_isRace 0 = .ok (.aload_n 0, 1) := by decide +kernel
theorem dX5_isRace_1 : decode cX5_isRace 1 = .ok (.aload_n 0, 1) := by decide +kernel
theorem dX5_isRace_2 : decode cX5_isRace 2 = .ok (.getfield 12, 3) := by decide +kernel
theorem dX5_isRace_5 : decode cX5_isRace 5 = .ok (.invokevirtual 213, 3) := by decide +kernel
theorem dX5_isRace_8 : decode cX5_isRace 8 = .ok (.ireturn, 1) := by decide +kernel
theorem dX5_undo_0 : decode cX5_undo 0 = .ok (.aload_n 0, 1) := by decide +kernel
theorem dX5_undo_1 : decode cX5_undo 1 = .ok (.getfield 19, 3) := by decide +kernel
theorem dX5_undo_4 : decode cX5_undo 4 = .ok (.aload_n 0, 1) := by decide +kernel
theorem dX5_undo_5 : decode cX5_undo 5 = .ok (.getfield 12, 3) := by decide +kernel
theorem dX5_undo_8 : decode cX5_undo 8 = .ok (.invokevirtual 224, 3) := by decide +kernel
theorem dX5_undo_11 : decode cX5_undo 11 = .ok (.ifCond .eq 13, 3) := by decide +kernel
theorem dX5_undo_14 : decode cX5_undo 14 = .ok (.aload_n 0, 1) := by decide +kernel
theorem dX5_undo_15 : decode cX5_undo 15 = .ok (.getfield 19, 3) := by decide +kernel
theorem dX5_undo_18 : decode cX5_undo 18 = .ok (.getfield 172, 3) := by decide +kernel
theorem dX5_undo_21 : decode cX5_undo 21 = .ok (.goto 5, 3) := by decide +kernel
theorem dX5_undo_24 : decode cX5_undo 24 = .ok (.bipush (-2), 2) := by decide +kernel
theorem dX5_undo_26 : decode cX5_undo 26 = .ok (.ireturn, 1) := by decide +kernel
theorem dX5_endingOf_0 : decode cX5_endingOf 0 = .ok (.aload_n 0, 1) := by decide +kernel
theorem dX5_endingOf_1 : decode cX5_endingOf 1 = .ok (.getfield 40, 3) := by decide +kernel
theorem dX5_endingOf_4 : decode cX5_endingOf 4 = .ok (.aload_n 1, 1) := by decide +kernel
theorem dX5_endingOf_5 : decode cX5_endingOf 5 = .ok (.invokevirtual 153, 3) := by decide +kernel
theorem dX5_endingOf_8 : decode cX5_endingOf 8 = .ok (.aload_n 0, 1) := by decide +kernel
theorem dX5_endingOf_9 : decode cX5_endingOf 9 = .ok (.getfield 40, 3) := by decide +kernel
theorem dX5_endingOf_12 : decode cX5_endingOf 12 = .ok (.iload_n 2, 1) := by decide +kernel
theorem dX5_endingOf_13 : decode cX5_endingOf 13 = .ok (.ldc 144, 2) := by decide +kernel
theorem dX5_endingOf_15 : decode cX5_endingOf 15 = .ok (.iload_n 3, 1) := by decide +kernel
theorem dX5_endingOf_16 : decode cX5_endingOf 16 = .ok (.invokevirtual 145, 3) := by decide +kernel
theorem dX5_endingOf_19 : decode cX5_endingOf 19 = .ok (.pop, 1) := by decide +kernel
theorem dX5_endingOf_20 : decode cX5_endingOf 20 = .ok (.aload_n 0, 1) := by decide +kernel
theorem dX5_endingOf_21 : decode cX5_endingOf 21 = .ok (.getfield 40, 3) := by decide +kernel
theorem dX5_endingOf_24 : decode cX5_endingOf 24 = .ok (.getfield 163, 3) := by decide +kernel
theorem dX5_endingOf_27 : decode cX5_endingOf 27 = .ok (.aload_n 0, 1) := by decide +kernel
theorem dX5_endingOf_28 : decode cX5_endingOf 28 = .ok (.getfield 40, 3) := by decide +kernel
theorem dX5_endingOf_31 : decode cX5_endingOf 31 = .ok (.invokevirtual 217, 3) := by decide +kernel
theorem dX5_endingOf_34 : decode cX5_endingOf 34 = .ok (.ifCond .eq 9, 3) := by decide +kernel
theorem dX5_endingOf_37 : decode cX5_endingOf 37 = .ok (.sipush 256, 3) := by decide +kernel
theorem dX5_endingOf_40 : decode cX5_endingOf 40 = .ok (.goto 4, 3) := by decide +kernel
theorem dX5_endingOf_43 : decode cX5_endingOf 43 = .ok (.iconst 0, 1) := by decide +kernel
theorem dX5_endingOf_44 : decode cX5_endingOf 44 = .ok (.iadd, 1) := by decide +kernel
theorem dX5_endingOf_45 : decode cX5_endingOf 45 = .ok (.ireturn, 1) := by decide +kernel
theorem dX5_raceIn_0 : decode cX5_raceIn 0 = .ok (.aload_n 0, 1) := by decide +kernel
theorem dX5_raceIn_1 : decode cX5_raceIn 1 = .ok (.aload_n 1, 1) := by decide +kernel
theorem dX5_raceIn_2 : decode cX5_raceIn 2 = .ok (.sipush 200, 3) := by decide +kernel
theorem dX5_raceIn_5 : decode cX5_raceIn 5 = .ok (.iconst 0, 1) := by decide +kernel
theorem dX5_raceIn_6 : decode cX5_raceIn 6 = .ok (.invokevirtual 209, 3) := by decide +kernel
theorem dX5_raceIn_9 : decode cX5_raceIn 9 = .ok (.istore_n 2, 1) := by decide +kernel
theorem dX5_raceIn_10 : decode cX5_raceIn 10 = .ok (.iload_n 2, 1) := by decide +kernel
theorem dX5_raceIn_11 : decode cX5_raceIn 11 = .ok (.aload_n 0, 1) := by decide +kernel
theorem dX5_raceIn_12 : decode cX5_raceIn 12 = .ok (.aload_n 1, 1) := by decide +kernel
theorem dX5_raceIn_13 : decode cX5_raceIn 13 = .ok (.sipush 200, 3) := by decide +kernel
theorem dX5_raceIn_16 : decode cX5_raceIn 16 = .ok (.iconst 1, 1) := by decide +kernel
theorem dX5_raceIn_17 : decode cX5_raceIn 17 = .ok (.invokevirtual 209, 3) := by decide +kernel
theorem dX5_raceIn_20 : decode cX5_raceIn 20 = .ok (.if_icmp .eq 7, 3) := by decide +kernel
theorem dX5_raceIn_23 : decode cX5_raceIn 23 = .ok (.iconst 1, 1) := by decide +kernel
theorem dX5_raceIn_24 : decode cX5_raceIn 24 = .ok (.goto 4, 3) := by decide +kernel
theorem dX5_raceIn_27 : decode cX5_raceIn 27 = .ok (.iconst 0, 1) := by decide +kernel
theorem dX5_raceIn_28 : decode cX5_raceIn 28 = .ok (.ireturn, 1) := by decide +kernel
theorem dX5_isKey_0 : decode cX5_isKey 0 = .ok (.iload_n 0, 1) := by decide +kernel
theorem dX5_isKey_1 : decode cX5_isKey 1 = .ok (.iconst 0, 1) := by decide +kernel
theorem dX5_isKey_2 : decode cX5_isKey 2 = .ok (.bipush 7, 2) := by decide +kernel
theorem dX5_isKey_4 : decode cX5_isKey 4 = .ok (.invokestatic 71, 3) := by decide +kernel
theorem dX5_isKey_7 : decode cX5_isKey 7 = .ok (.ireturn, 1) := by decide +kernel
theorem dX5_areDelays_0 : decode cX5_areDelays 0 = .ok (.iload_n 0, 1) := by decide +kernel
theorem dX5_areDelays_1 : decode cX5_areDelays 1 = .ok (.iconst 1, 1) := by decide +kernel
theorem dX5_areDelays_2 : decode cX5_areDelays 2 = .ok (.bipush 20, 2) := by decide +kernel
theorem dX5_areDelays_4 : decode cX5_areDelays 4 = .ok (.invokestatic 71, 3) := by decide +kernel
theorem dX5_areDelays_7 : decode cX5_areDelays 7 = .ok (.ifCond .eq 26, 3) := by decide +kernel
theorem dX5_areDelays_10 : decode cX5_areDelays 10 = .ok (.iload_n 1, 1) := by decide +kernel
theorem dX5_areDelays_11 : decode cX5_areDelays 11 = .ok (.iconst 1, 1) := by decide +kernel
theorem dX5_areDelays_12 : decode cX5_areDelays 12 = .ok (.bipush 20, 2) := by decide +kernel
theorem dX5_areDelays_14 : decode cX5_areDelays 14 = .ok (.invokestatic 71, 3) := by decide +kernel
theorem dX5_areDelays_17 : decode cX5_areDelays 17 = .ok (.ifCond .eq 16, 3) := by decide +kernel
theorem dX5_areDelays_20 : decode cX5_areDelays 20 = .ok (.iload_n 2, 1) := by decide +kernel
theorem dX5_areDelays_21 : decode cX5_areDelays 21 = .ok (.iconst 0, 1) := by decide +kernel
theorem dX5_areDelays_22 : decode cX5_areDelays 22 = .ok (.iconst 5, 1) := by decide +kernel
theorem dX5_areDelays_23 : decode cX5_areDelays 23 = .ok (.invokestatic 71, 3) := by decide +kernel
theorem dX5_areDelays_26 : decode cX5_areDelays 26 = .ok (.ifCond .eq 7, 3) := by decide +kernel
theorem dX5_areDelays_29 : decode cX5_areDelays 29 = .ok (.iconst 1, 1) := by decide +kernel
theorem dX5_areDelays_30 : decode cX5_areDelays 30 = .ok (.goto 4, 3) := by decide +kernel
theorem dX5_areDelays_33 : decode cX5_areDelays 33 = .ok (.iconst 0, 1) := by decide +kernel
theorem dX5_areDelays_34 : decode cX5_areDelays 34 = .ok (.ireturn, 1) := by decide +kernel
theorem dX5_isWithin_0 : decode cX5_isWithin 0 = .ok (.iload_n 1, 1) := by decide +kernel
theorem dX5_isWithin_1 : decode cX5_isWithin 1 = .ok (.iload_n 0, 1) := by decide +kernel
theorem dX5_isWithin_2 : decode cX5_isWithin 2 = .ok (.if_icmp .gt 12, 3) := by decide +kernel
theorem dX5_isWithin_5 : decode cX5_isWithin 5 = .ok (.iload_n 0, 1) := by decide +kernel
theorem dX5_isWithin_6 : decode cX5_isWithin 6 = .ok (.iload_n 2, 1) := by decide +kernel
theorem dX5_isWithin_7 : decode cX5_isWithin 7 = .ok (.if_icmp .gt 7, 3) := by decide +kernel
theorem dX5_isWithin_10 : decode cX5_isWithin 10 = .ok (.iconst 1, 1) := by decide +kernel
theorem dX5_isWithin_11 : decode cX5_isWithin 11 = .ok (.goto 4, 3) := by decide +kernel
theorem dX5_isWithin_14 : decode cX5_isWithin 14 = .ok (.iconst 0, 1) := by decide +kernel
theorem dX5_isWithin_15 : decode cX5_isWithin 15 = .ok (.ireturn, 1) := by decide +kernel
theorem dX5_bitOf_0 : decode cX5_bitOf 0 = .ok (.iload_n 0, 1) := by decide +kernel
theorem dX5_bitOf_1 : decode cX5_bitOf 1 = .ok (.iload_n 1, 1) := by decide +kernel
theorem dX5_bitOf_2 : decode cX5_bitOf 2 = .ok (.iushr, 1) := by decide +kernel
theorem dX5_bitOf_3 : decode cX5_bitOf 3 = .ok (.iconst 1, 1) := by decide +kernel
theorem dX5_bitOf_4 : decode cX5_bitOf 4 = .ok (.iand, 1) := by decide +kernel
theorem dX5_bitOf_5 : decode cX5_bitOf 5 = .ok (.ireturn, 1) := by decide +kernel
theorem dX5_isIn_0 : decode cX5_isIn 0 = .ok (.iload_n 0, 1) := by decide +kernel
theorem dX5_isIn_1 : decode cX5_isIn 1 = .ok (.iload_n 1, 1) := by decide +kernel
theorem dX5_isIn_2 : decode cX5_isIn 2 = .ok (.iushr, 1) := by decide +kernel
theorem dX5_isIn_3 : decode cX5_isIn 3 = .ok (.iconst 1, 1) := by decide +kernel
theorem dX5_isIn_4 : decode cX5_isIn 4 = .ok (.iand, 1) := by decide +kernel
theorem dX5_isIn_5 : decode cX5_isIn 5 = .ok (.iconst 1, 1) := by decide +kernel
theorem dX5_isIn_6 : decode cX5_isIn 6 = .ok (.if_icmp .ne 7, 3) := by decide +kernel
theorem dX5_isIn_9 : decode cX5_isIn 9 = .ok (.iconst 1, 1) := by decide +kernel
theorem dX5_isIn_10 : decode cX5_isIn 10 = .ok (.goto 4, 3) := by decide +kernel
theorem dX5_isIn_13 : decode cX5_isIn 13 = .ok (.iconst 0, 1) := by decide +kernel
theorem dX5_isIn_14 : decode cX5_isIn 14 = .ok (.ireturn, 1) := by decide +kernel
theorem dX5_at_0 : decode cX5_at 0 = .ok (.iconst 0, 1) := by decide +kernel
theorem dX5_at_1 : decode cX5_at 1 = .ok (.iload_n 1, 1) := by decide +kernel
theorem dX5_at_2 : decode cX5_at 2 = .ok (.if_icmp .gt 15, 3) := by decide +kernel
theorem dX5_at_5 : decode cX5_at 5 = .ok (.iload_n 1, 1) := by decide +kernel
theorem dX5_at_6 : decode cX5_at 6 = .ok (.aload_n 0, 1) := by decide +kernel
theorem dX5_at_7 : decode cX5_at 7 = .ok (.arraylength, 1) := by decide +kernel
theorem dX5_at_8 : decode cX5_at 8 = .ok (.if_icmp .ge 9, 3) := by decide +kernel
theorem dX5_at_11 : decode cX5_at 11 = .ok (.aload_n 0, 1) := by decide +kernel
theorem dX5_at_12 : decode cX5_at 12 = .ok (.iload_n 1, 1) := by decide +kernel
theorem dX5_at_13 : decode cX5_at 13 = .ok (.iaload, 1) := by decide +kernel
theorem dX5_at_14 : decode cX5_at 14 = .ok (.goto 4, 3) := by decide +kernel
theorem dX5_at_17 : decode cX5_at 17 = .ok (.iconst 0, 1) := by decide +kernel
theorem dX5_at_18 : decode cX5_at 18 = .ok (.ireturn, 1) := by decide +kernel
theorem dX5_put_0 : decode cX5_put 0 = .ok (.iconst 0, 1) := by decide +kernel
theorem dX5_put_1 : decode cX5_put 1 = .ok (.iload_n 1, 1) := by decide +kernel
theorem dX5_put_2 : decode cX5_put 2 = .ok (.if_icmp .gt 13, 3) := by decide +kernel
theorem dX5_put_5 : decode cX5_put 5 = .ok (.iload_n 1, 1) := by decide +kernel
theorem dX5_put_6 : decode cX5_put 6 = .ok (.aload_n 0, 1) := by decide +kernel
theorem dX5_put_7 : decode cX5_put 7 = .ok (.arraylength, 1) := by decide +kernel
theorem dX5_put_8 : decode cX5_put 8 = .ok (.if_icmp .ge 7, 3) := by decide +kernel
theorem dX5_put_11 : decode cX5_put 11 = .ok (.aload_n 0, 1) := by decide +kernel
theorem dX5_put_12 : decode cX5_put 12 = .ok (.iload_n 1, 1) := by decide +kernel
theorem dX5_put_13 : decode cX5_put 13 = .ok (.iload_n 2, 1) := by decide +kernel
theorem dX5_put_14 : decode cX5_put 14 = .ok (.iastore, 1) := by decide +kernel
theorem dX5_put_15 : decode cX5_put 15 = .ok (.return_, 1) := by decide +kernel
