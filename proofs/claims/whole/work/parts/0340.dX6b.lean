theorem dX6_here_58 : decode cX6_here 58 = .ok (.sipush 255, 3) := by decide +kernel
theorem dX6_here_61 : decode cX6_here 61 = .ok (.iand, 1) := by decide +kernel
theorem dX6_here_62 : decode cX6_here 62 = .ok (.goto 4, 3) := by decide +kernel
theorem dX6_here_65 : decode cX6_here 65 = .ok (.iconst (-1), 1) := by decide +kernel
theorem dX6_here_66 : decode cX6_here 66 = .ok (.ireturn, 1) := by decide +kernel
theorem dX6_subject_0 : decode cX6_subject 0 = .ok (.iload_n 1, 1) := by decide +kernel
theorem dX6_subject_1 : decode cX6_subject 1 = .ok (.bipush 97, 2) := by decide +kernel
theorem dX6_subject_3 : decode cX6_subject 3 = .ok (.bipush 104, 2) := by decide +kernel
theorem dX6_subject_5 : decode cX6_subject 5 = .ok (.invokestatic 33, 3) := by decide +kernel
theorem dX6_subject_8 : decode cX6_subject 8 = .ok (.ifCond .eq 10, 3) := by decide +kernel
theorem dX6_subject_11 : decode cX6_subject 11 = .ok (.iload_n 1, 1) := by decide +kernel
theorem dX6_subject_12 : decode cX6_subject 12 = .ok (.bipush 97, 2) := by decide +kernel
theorem dX6_subject_14 : decode cX6_subject 14 = .ok (.isub, 1) := by decide +kernel
theorem dX6_subject_15 : decode cX6_subject 15 = .ok (.goto 39, 3) := by decide +kernel
theorem dX6_subject_18 : decode cX6_subject 18 = .ok (.iload_n 1, 1) := by decide +kernel
theorem dX6_subject_19 : decode cX6_subject 19 = .ok (.bipush 65, 2) := by decide +kernel
theorem dX6_subject_21 : decode cX6_subject 21 = .ok (.bipush 72, 2) := by decide +kernel
theorem dX6_subject_23 : decode cX6_subject 23 = .ok (.invokestatic 33, 3) := by decide +kernel
theorem dX6_subject_26 : decode cX6_subject 26 = .ok (.ifCond .eq 26, 3) := by decide +kernel
theorem dX6_subject_29 : decode cX6_subject 29 = .ok (.iload_n 1, 1) := by decide +kernel
theorem dX6_subject_30 : decode cX6_subject 30 = .ok (.bipush 65, 2) := by decide +kernel
theorem dX6_subject_32 : decode cX6_subject 32 = .ok (.isub, 1) := by decide +kernel
theorem dX6_subject_33 : decode cX6_subject 33 = .ok (.aload_n 0, 1) := by decide +kernel
theorem dX6_subject_34 : decode cX6_subject 34 = .ok (.getfield 7, 3) := by decide +kernel
theorem dX6_subject_37 : decode cX6_subject 37 = .ok (.iconst 1, 1) := by decide +kernel
theorem dX6_subject_38 : decode cX6_subject 38 = .ok (.iaload, 1) := by decide +kernel
theorem dX6_subject_39 : decode cX6_subject 39 = .ok (.if_icmp .ge 13, 3) := by decide +kernel
theorem dX6_subject_42 : decode cX6_subject 42 = .ok (.iload_n 1, 1) := by decide +kernel
theorem dX6_subject_43 : decode cX6_subject 43 = .ok (.bipush 65, 2) := by decide +kernel
theorem dX6_subject_45 : decode cX6_subject 45 = .ok (.isub, 1) := by decide +kernel
theorem dX6_subject_46 : decode cX6_subject 46 = .ok (.bipush 8, 2) := by decide +kernel
theorem dX6_subject_48 : decode cX6_subject 48 = .ok (.iadd, 1) := by decide +kernel
theorem dX6_subject_49 : decode cX6_subject 49 = .ok (.goto 5, 3) := by decide +kernel
theorem dX6_subject_52 : decode cX6_subject 52 = .ok (.bipush (-9), 2) := by decide +kernel
theorem dX6_subject_54 : decode cX6_subject 54 = .ok (.ireturn, 1) := by decide +kernel
theorem dX6_readsCondition_0 : decode cX6_readsCondition 0 = .ok (.aload_n 0, 1) := by decide +kernel
theorem dX6_readsCondition_1 : decode cX6_readsCondition 1 = .ok (.invokevirtual 102, 3) := by decide +kernel
theorem dX6_readsCondition_4 : decode cX6_readsCondition 4 = .ok (.bipush 47, 2) := by decide +kernel
theorem dX6_readsCondition_6 : decode cX6_readsCondition 6 = .ok (.if_icmp .ne 7, 3) := by decide +kernel
theorem dX6_readsCondition_9 : decode cX6_readsCondition 9 = .ok (.iconst 2, 1) := by decide +kernel
theorem dX6_readsCondition_10 : decode cX6_readsCondition 10 = .ok (.goto 4, 3) := by decide +kernel
theorem dX6_readsCondition_13 : decode cX6_readsCondition 13 = .ok (.iconst 1, 1) := by decide +kernel
theorem dX6_readsCondition_14 : decode cX6_readsCondition 14 = .ok (.istore_n 3, 1) := by decide +kernel
theorem dX6_readsCondition_15 : decode cX6_readsCondition 15 = .ok (.aload_n 0, 1) := by decide +kernel
theorem dX6_readsCondition_16 : decode cX6_readsCondition 16 = .ok (.dup, 1) := by decide +kernel
theorem dX6_readsCondition_17 : decode cX6_readsCondition 17 = .ok (.getfield 99, 3) := by decide +kernel
theorem dX6_readsCondition_20 : decode cX6_readsCondition 20 = .ok (.iload_n 3, 1) := by decide +kernel
theorem dX6_readsCondition_21 : decode cX6_readsCondition 21 = .ok (.iconst 1, 1) := by decide +kernel
theorem dX6_readsCondition_22 : decode cX6_readsCondition 22 = .ok (.isub, 1) := by decide +kernel
theorem dX6_readsCondition_23 : decode cX6_readsCondition 23 = .ok (.iadd, 1) := by decide +kernel
theorem dX6_readsCondition_24 : decode cX6_readsCondition 24 = .ok (.putfield 99, 3) := by decide +kernel
theorem dX6_readsCondition_27 : decode cX6_readsCondition 27 = .ok (.aload_n 0, 1) := by decide +kernel
theorem dX6_readsCondition_28 : decode cX6_readsCondition 28 = .ok (.aload_n 0, 1) := by decide +kernel
theorem dX6_readsCondition_29 : decode cX6_readsCondition 29 = .ok (.invokevirtual 102, 3) := by decide +kernel
theorem dX6_readsCondition_32 : decode cX6_readsCondition 32 = .ok (.invokevirtual 105, 3) := by decide +kernel
theorem dX6_readsCondition_35 : decode cX6_readsCondition 35 = .ok (.istore 4, 2) := by decide +kernel
theorem dX6_readsCondition_37 : decode cX6_readsCondition 37 = .ok (.iload 4, 2) := by decide +kernel
theorem dX6_readsCondition_39 : decode cX6_readsCondition 39 = .ok (.bipush (-9), 2) := by decide +kernel
theorem dX6_readsCondition_41 : decode cX6_readsCondition 41 = .ok (.if_icmp .eq 17, 3) := by decide +kernel
theorem dX6_readsCondition_44 : decode cX6_readsCondition 44 = .ok (.aload_n 0, 1) := by decide +kernel
theorem dX6_readsCondition_45 : decode cX6_readsCondition 45 = .ok (.iload_n 1, 1) := by decide +kernel
theorem dX6_readsCondition_46 : decode cX6_readsCondition 46 = .ok (.iload_n 2, 1) := by decide +kernel
theorem dX6_readsCondition_47 : decode cX6_readsCondition 47 = .ok (.iload 4, 2) := by decide +kernel
theorem dX6_readsCondition_49 : decode cX6_readsCondition 49 = .ok (.invokevirtual 91, 3) := by decide +kernel
theorem dX6_readsCondition_52 : decode cX6_readsCondition 52 = .ok (.iconst 3, 1) := by decide +kernel
theorem dX6_readsCondition_53 : decode cX6_readsCondition 53 = .ok (.iload_n 3, 1) := by decide +kernel
theorem dX6_readsCondition_54 : decode cX6_readsCondition 54 = .ok (.isub, 1) := by decide +kernel
theorem dX6_readsCondition_55 : decode cX6_readsCondition 55 = .ok (.if_icmp .ne 5, 3) := by decide +kernel
theorem dX6_readsCondition_58 : decode cX6_readsCondition 58 = .ok (.iconst 0, 1) := by decide +kernel
theorem dX6_readsCondition_59 : decode cX6_readsCondition 59 = .ok (.ireturn, 1) := by decide +kernel
theorem dX6_readsCondition_60 : decode cX6_readsCondition 60 = .ok (.aload_n 0, 1) := by decide +kernel
theorem dX6_readsCondition_61 : decode cX6_readsCondition 61 = .ok (.iload_n 1, 1) := by decide +kernel
theorem dX6_readsCondition_62 : decode cX6_readsCondition 62 = .ok (.iload_n 2, 1) := by decide +kernel
theorem dX6_readsCondition_63 : decode cX6_readsCondition 63 = .ok (.iload 4, 2) := by decide +kernel
theorem dX6_readsCondition_65 : decode cX6_readsCondition 65 = .ok (.iload_n 3, 1) := by decide +kernel
theorem dX6_readsCondition_66 : decode cX6_readsCondition 66 = .ok (.invokevirtual 95, 3) := by decide +kernel
theorem dX6_readsCondition_69 : decode cX6_readsCondition 69 = .ok (.aload_n 0, 1) := by decide +kernel
theorem dX6_readsCondition_70 : decode cX6_readsCondition 70 = .ok (.dup, 1) := by decide +kernel
theorem dX6_readsCondition_71 : decode cX6_readsCondition 71 = .ok (.getfield 99, 3) := by decide +kernel
theorem dX6_readsCondition_74 : decode cX6_readsCondition 74 = .ok (.iconst 1, 1) := by decide +kernel
theorem dX6_readsCondition_75 : decode cX6_readsCondition 75 = .ok (.iadd, 1) := by decide +kernel
theorem dX6_readsCondition_76 : decode cX6_readsCondition 76 = .ok (.putfield 99, 3) := by decide +kernel
theorem dX6_readsCondition_79 : decode cX6_readsCondition 79 = .ok (.iconst 1, 1) := by decide +kernel
theorem dX6_readsCondition_80 : decode cX6_readsCondition 80 = .ok (.ireturn, 1) := by decide +kernel
theorem dX6_isEnd_0 : decode cX6_isEnd 0 = .ok (.aload_n 0, 1) := by decide +kernel
theorem dX6_isEnd_1 : decode cX6_isEnd 1 = .ok (.invokevirtual 102, 3) := by decide +kernel
theorem dX6_isEnd_4 : decode cX6_isEnd 4 = .ok (.ifCond .lt 12, 3) := by decide +kernel
theorem dX6_isEnd_7 : decode cX6_isEnd 7 = .ok (.aload_n 0, 1) := by decide +kernel
theorem dX6_isEnd_8 : decode cX6_isEnd 8 = .ok (.invokevirtual 102, 3) := by decide +kernel
theorem dX6_isEnd_11 : decode cX6_isEnd 11 = .ok (.bipush 43, 2) := by decide +kernel
theorem dX6_isEnd_13 : decode cX6_isEnd 13 = .ok (.if_icmp .ne 7, 3) := by decide +kernel
theorem dX6_isEnd_16 : decode cX6_isEnd 16 = .ok (.iconst 1, 1) := by decide +kernel
theorem dX6_isEnd_17 : decode cX6_isEnd 17 = .ok (.goto 4, 3) := by decide +kernel
theorem dX6_isEnd_20 : decode cX6_isEnd 20 = .ok (.iconst 0, 1) := by decide +kernel
theorem dX6_isEnd_21 : decode cX6_isEnd 21 = .ok (.ireturn, 1) := by decide +kernel
theorem dX6_readsBranch_0 : decode cX6_readsBranch 0 = .ok (.aload_n 0, 1) := by decide +kernel
theorem dX6_readsBranch_1 : decode cX6_readsBranch 1 = .ok (.invokevirtual 102, 3) := by decide +kernel
theorem dX6_readsBranch_4 : decode cX6_readsBranch 4 = .ok (.istore_n 2, 1) := by decide +kernel
theorem dX6_readsBranch_5 : decode cX6_readsBranch 5 = .ok (.aload_n 0, 1) := by decide +kernel
theorem dX6_readsBranch_6 : decode cX6_readsBranch 6 = .ok (.iload_n 1, 1) := by decide +kernel
theorem dX6_readsBranch_7 : decode cX6_readsBranch 7 = .ok (.bipush 12, 2) := by decide +kernel
theorem dX6_readsBranch_9 : decode cX6_readsBranch 9 = .ok (.invokevirtual 37, 3) := by decide +kernel
theorem dX6_readsBranch_12 : decode cX6_readsBranch 12 = .ok (.bipush 6, 2) := by decide +kernel
theorem dX6_readsBranch_14 : decode cX6_readsBranch 14 = .ok (.if_icmp .ne 5, 3) := by decide +kernel
theorem dX6_readsBranch_17 : decode cX6_readsBranch 17 = .ok (.iconst 0, 1) := by decide +kernel
theorem dX6_readsBranch_18 : decode cX6_readsBranch 18 = .ok (.ireturn, 1) := by decide +kernel
theorem dX6_readsBranch_19 : decode cX6_readsBranch 19 = .ok (.aload_n 0, 1) := by decide +kernel
theorem dX6_readsBranch_20 : decode cX6_readsBranch 20 = .ok (.iload_n 1, 1) := by decide +kernel
theorem dX6_readsBranch_21 : decode cX6_readsBranch 21 = .ok (.bipush 12, 2) := by decide +kernel
theorem dX6_readsBranch_23 : decode cX6_readsBranch 23 = .ok (.invokevirtual 37, 3) := by decide +kernel
theorem dX6_readsBranch_26 : decode cX6_readsBranch 26 = .ok (.istore_n 3, 1) := by decide +kernel
theorem dX6_readsBranch_27 : decode cX6_readsBranch 27 = .ok (.aload_n 0, 1) := by decide +kernel
theorem dX6_readsBranch_28 : decode cX6_readsBranch 28 = .ok (.iload_n 1, 1) := by decide +kernel
theorem dX6_readsBranch_29 : decode cX6_readsBranch 29 = .ok (.invokevirtual 88, 3) := by decide +kernel
theorem dX6_readsBranch_32 : decode cX6_readsBranch 32 = .ok (.iload_n 2, 1) := by decide +kernel
theorem dX6_readsBranch_33 : decode cX6_readsBranch 33 = .ok (.bipush 49, 2) := by decide +kernel
theorem dX6_readsBranch_35 : decode cX6_readsBranch 35 = .ok (.if_icmp .ne 18, 3) := by decide +kernel
theorem dX6_readsBranch_38 : decode cX6_readsBranch 38 = .ok (.aload_n 0, 1) := by decide +kernel
theorem dX6_readsBranch_39 : decode cX6_readsBranch 39 = .ok (.dup, 1) := by decide +kernel
theorem dX6_readsBranch_40 : decode cX6_readsBranch 40 = .ok (.getfield 99, 3) := by decide +kernel
theorem dX6_readsBranch_43 : decode cX6_readsBranch 43 = .ok (.iconst 1, 1) := by decide +kernel
theorem dX6_readsBranch_44 : decode cX6_readsBranch 44 = .ok (.iadd, 1) := by decide +kernel
theorem dX6_readsBranch_45 : decode cX6_readsBranch 45 = .ok (.putfield 99, 3) := by decide +kernel
theorem dX6_readsBranch_48 : decode cX6_readsBranch 48 = .ok (.aload_n 0, 1) := by decide +kernel
theorem dX6_readsBranch_49 : decode cX6_readsBranch 49 = .ok (.invokevirtual 108, 3) := by decide +kernel
theorem dX6_readsBranch_52 : decode cX6_readsBranch 52 = .ok (.ireturn, 1) := by decide +kernel
theorem dX6_readsBranch_53 : decode cX6_readsBranch 53 = .ok (.aload_n 0, 1) := by decide +kernel
theorem dX6_readsBranch_54 : decode cX6_readsBranch 54 = .ok (.iload_n 1, 1) := by decide +kernel
theorem dX6_readsBranch_55 : decode cX6_readsBranch 55 = .ok (.iload_n 3, 1) := by decide +kernel
theorem dX6_readsBranch_56 : decode cX6_readsBranch 56 = .ok (.invokevirtual 112, 3) := by decide +kernel
theorem dX6_readsBranch_59 : decode cX6_readsBranch 59 = .ok (.istore 4, 2) := by decide +kernel
theorem dX6_readsBranch_61 : decode cX6_readsBranch 61 = .ok (.iload 4, 2) := by decide +kernel
theorem dX6_readsBranch_63 : decode cX6_readsBranch 63 = .ok (.ifCond .eq 21, 3) := by decide +kernel
theorem dX6_readsBranch_66 : decode cX6_readsBranch 66 = .ok (.aload_n 0, 1) := by decide +kernel
theorem dX6_readsBranch_67 : decode cX6_readsBranch 67 = .ok (.invokevirtual 108, 3) := by decide +kernel
theorem dX6_readsBranch_70 : decode cX6_readsBranch 70 = .ok (.ifCond .ne 14, 3) := by decide +kernel
theorem dX6_readsBranch_73 : decode cX6_readsBranch 73 = .ok (.aload_n 0, 1) := by decide +kernel
theorem dX6_readsBranch_74 : decode cX6_readsBranch 74 = .ok (.iload_n 1, 1) := by decide +kernel
theorem dX6_readsBranch_75 : decode cX6_readsBranch 75 = .ok (.iload_n 3, 1) := by decide +kernel
theorem dX6_readsBranch_76 : decode cX6_readsBranch 76 = .ok (.invokevirtual 112, 3) := by decide +kernel
theorem dX6_readsBranch_79 : decode cX6_readsBranch 79 = .ok (.istore 4, 2) := by decide +kernel
theorem dX6_readsBranch_81 : decode cX6_readsBranch 81 = .ok (.goto (-20), 3) := by decide +kernel
theorem dX6_readsBranch_84 : decode cX6_readsBranch 84 = .ok (.iload 4, 2) := by decide +kernel
theorem dX6_readsBranch_86 : decode cX6_readsBranch 86 = .ok (.ireturn, 1) := by decide +kernel
theorem dX6_reads_0 : decode cX6_reads 0 = .ok (.aload_n 0, 1) := by decide +kernel
theorem dX6_reads_1 : decode cX6_reads 1 = .ok (.iconst 0, 1) := by decide +kernel
theorem dX6_reads_2 : decode cX6_reads 2 = .ok (.putfield 99, 3) := by decide +kernel
theorem dX6_reads_5 : decode cX6_reads 5 = .ok (.aload_n 0, 1) := by decide +kernel
theorem dX6_reads_6 : decode cX6_reads 6 = .ok (.iload_n 1, 1) := by decide +kernel
theorem dX6_reads_7 : decode cX6_reads 7 = .ok (.bipush 12, 2) := by decide +kernel
theorem dX6_reads_9 : decode cX6_reads 9 = .ok (.iconst 0, 1) := by decide +kernel
theorem dX6_reads_10 : decode cX6_reads 10 = .ok (.invokevirtual 49, 3) := by decide +kernel
theorem dX6_reads_13 : decode cX6_reads 13 = .ok (.aload_n 0, 1) := by decide +kernel
theorem dX6_reads_14 : decode cX6_reads 14 = .ok (.invokevirtual 102, 3) := by decide +kernel
theorem dX6_reads_17 : decode cX6_reads 17 = .ok (.bipush 48, 2) := by decide +kernel
theorem dX6_reads_19 : decode cX6_reads 19 = .ok (.if_icmp .ne 26, 3) := by decide +kernel
theorem dX6_reads_22 : decode cX6_reads 22 = .ok (.aload_n 0, 1) := by decide +kernel
theorem dX6_reads_23 : decode cX6_reads 23 = .ok (.dup, 1) := by decide +kernel
theorem dX6_reads_24 : decode cX6_reads 24 = .ok (.getfield 99, 3) := by decide +kernel
theorem dX6_reads_27 : decode cX6_reads 27 = .ok (.iconst 1, 1) := by decide +kernel
theorem dX6_reads_28 : decode cX6_reads 28 = .ok (.iadd, 1) := by decide +kernel
theorem dX6_reads_29 : decode cX6_reads 29 = .ok (.putfield 99, 3) := by decide +kernel
theorem dX6_reads_32 : decode cX6_reads 32 = .ok (.aload_n 0, 1) := by decide +kernel
theorem dX6_reads_33 : decode cX6_reads 33 = .ok (.invokevirtual 102, 3) := by decide +kernel
theorem dX6_reads_36 : decode cX6_reads 36 = .ok (.ifCond .ge 7, 3) := by decide +kernel
theorem dX6_reads_39 : decode cX6_reads 39 = .ok (.iconst 1, 1) := by decide +kernel
theorem dX6_reads_40 : decode cX6_reads 40 = .ok (.goto 4, 3) := by decide +kernel
theorem dX6_reads_43 : decode cX6_reads 43 = .ok (.iconst 0, 1) := by decide +kernel
theorem dX6_reads_44 : decode cX6_reads 44 = .ok (.ireturn, 1) := by decide +kernel
theorem dX6_reads_45 : decode cX6_reads 45 = .ok (.aload_n 0, 1) := by decide +kernel
theorem dX6_reads_46 : decode cX6_reads 46 = .ok (.iload_n 1, 1) := by decide +kernel
theorem dX6_reads_47 : decode cX6_reads 47 = .ok (.invokevirtual 115, 3) := by decide +kernel
theorem dX6_reads_50 : decode cX6_reads 50 = .ok (.istore_n 2, 1) := by decide +kernel
theorem dX6_reads_51 : decode cX6_reads 51 = .ok (.iload_n 2, 1) := by decide +kernel
theorem dX6_reads_52 : decode cX6_reads 52 = .ok (.ifCond .eq 31, 3) := by decide +kernel
theorem dX6_reads_55 : decode cX6_reads 55 = .ok (.aload_n 0, 1) := by decide +kernel
theorem dX6_reads_56 : decode cX6_reads 56 = .ok (.invokevirtual 102, 3) := by decide +kernel
theorem dX6_reads_59 : decode cX6_reads 59 = .ok (.bipush 43, 2) := by decide +kernel
theorem dX6_reads_61 : decode cX6_reads 61 = .ok (.if_icmp .ne 22, 3) := by decide +kernel
theorem dX6_reads_64 : decode cX6_reads 64 = .ok (.aload_n 0, 1) := by decide +kernel
theorem dX6_reads_65 : decode cX6_reads 65 = .ok (.dup, 1) := by decide +kernel
theorem dX6_reads_66 : decode cX6_reads 66 = .ok (.getfield 99, 3) := by decide +kernel
theorem dX6_reads_69 : decode cX6_reads 69 = .ok (.iconst 1, 1) := by decide +kernel
theorem dX6_reads_70 : decode cX6_reads 70 = .ok (.iadd, 1) := by decide +kernel
theorem dX6_reads_71 : decode cX6_reads 71 = .ok (.putfield 99, 3) := by decide +kernel
theorem dX6_reads_74 : decode cX6_reads 74 = .ok (.aload_n 0, 1) := by decide +kernel
theorem dX6_reads_75 : decode cX6_reads 75 = .ok (.iload_n 1, 1) := by decide +kernel
theorem dX6_reads_76 : decode cX6_reads 76 = .ok (.invokevirtual 115, 3) := by decide +kernel
theorem dX6_reads_79 : decode cX6_reads 79 = .ok (.istore_n 2, 1) := by decide +kernel
theorem dX6_reads_80 : decode cX6_reads 80 = .ok (.goto (-29), 3) := by decide +kernel
theorem dX6_reads_83 : decode cX6_reads 83 = .ok (.iload_n 2, 1) := by decide +kernel
theorem dX6_reads_84 : decode cX6_reads 84 = .ok (.ireturn, 1) := by decide +kernel
theorem dX6_exchanges_0 : decode cX6_exchanges 0 = .ok (.iconst 0, 1) := by decide +kernel
theorem dX6_exchanges_1 : decode cX6_exchanges 1 = .ok (.istore_n 1, 1) := by decide +kernel
theorem dX6_exchanges_2 : decode cX6_exchanges 2 = .ok (.iload_n 1, 1) := by decide +kernel
theorem dX6_exchanges_3 : decode cX6_exchanges 3 = .ok (.sipush 203, 3) := by decide +kernel
theorem dX6_exchanges_6 : decode cX6_exchanges 6 = .ok (.if_icmp .ge 35, 3) := by decide +kernel
theorem dX6_exchanges_9 : decode cX6_exchanges 9 = .ok (.aload_n 0, 1) := by decide +kernel
theorem dX6_exchanges_10 : decode cX6_exchanges 10 = .ok (.getfield 7, 3) := by decide +kernel
theorem dX6_exchanges_13 : decode cX6_exchanges 13 = .ok (.iload_n 1, 1) := by decide +kernel
theorem dX6_exchanges_14 : decode cX6_exchanges 14 = .ok (.iaload, 1) := by decide +kernel
theorem dX6_exchanges_15 : decode cX6_exchanges 15 = .ok (.istore_n 2, 1) := by decide +kernel
theorem dX6_exchanges_16 : decode cX6_exchanges 16 = .ok (.aload_n 0, 1) := by decide +kernel
theorem dX6_exchanges_17 : decode cX6_exchanges 17 = .ok (.getfield 7, 3) := by decide +kernel
theorem dX6_exchanges_20 : decode cX6_exchanges 20 = .ok (.iload_n 1, 1) := by decide +kernel
theorem dX6_exchanges_21 : decode cX6_exchanges 21 = .ok (.aload_n 0, 1) := by decide +kernel
theorem dX6_exchanges_22 : decode cX6_exchanges 22 = .ok (.getfield 16, 3) := by decide +kernel
theorem dX6_exchanges_25 : decode cX6_exchanges 25 = .ok (.iload_n 1, 1) := by decide +kernel
theorem dX6_exchanges_26 : decode cX6_exchanges 26 = .ok (.iaload, 1) := by decide +kernel
theorem dX6_exchanges_27 : decode cX6_exchanges 27 = .ok (.iastore, 1) := by decide +kernel
theorem dX6_exchanges_28 : decode cX6_exchanges 28 = .ok (.aload_n 0, 1) := by decide +kernel
theorem dX6_exchanges_29 : decode cX6_exchanges 29 = .ok (.getfield 16, 3) := by decide +kernel
theorem dX6_exchanges_32 : decode cX6_exchanges 32 = .ok (.iload_n 1, 1) := by decide +kernel
theorem dX6_exchanges_33 : decode cX6_exchanges 33 = .ok (.iload_n 2, 1) := by decide +kernel
theorem dX6_exchanges_34 : decode cX6_exchanges 34 = .ok (.iastore, 1) := by decide +kernel
theorem dX6_exchanges_35 : decode cX6_exchanges 35 = .ok (.iinc 1 1, 3) := by decide +kernel
theorem dX6_exchanges_38 : decode cX6_exchanges 38 = .ok (.goto (-36), 3) := by decide +kernel
theorem dX6_exchanges_41 : decode cX6_exchanges 41 = .ok (.return_, 1) := by decide +kernel
theorem dX6_load_0 : decode cX6_load 0 = .ok (.aload_n 0, 1) := by decide +kernel
theorem dX6_load_1 : decode cX6_load 1 = .ok (.iload_n 1, 1) := by decide +kernel
theorem dX6_load_2 : decode cX6_load 2 = .ok (.invokevirtual 82, 3) := by decide +kernel
theorem dX6_load_5 : decode cX6_load 5 = .ok (.ifCond .ne 5, 3) := by decide +kernel
theorem dX6_load_8 : decode cX6_load 8 = .ok (.iconst (-1), 1) := by decide +kernel
theorem dX6_load_9 : decode cX6_load 9 = .ok (.ireturn, 1) := by decide +kernel
theorem dX6_load_10 : decode cX6_load 10 = .ok (.aload_n 0, 1) := by decide +kernel
theorem dX6_load_11 : decode cX6_load 11 = .ok (.invokevirtual 118, 3) := by decide +kernel
theorem dX6_load_14 : decode cX6_load 14 = .ok (.aload_n 0, 1) := by decide +kernel
theorem dX6_load_15 : decode cX6_load 15 = .ok (.iload_n 1, 1) := by decide +kernel
theorem dX6_load_16 : decode cX6_load 16 = .ok (.invokevirtual 121, 3) := by decide +kernel
theorem dX6_load_19 : decode cX6_load 19 = .ok (.istore_n 2, 1) := by decide +kernel
theorem dX6_load_20 : decode cX6_load 20 = .ok (.aload_n 0, 1) := by decide +kernel
theorem dX6_load_21 : decode cX6_load 21 = .ok (.invokevirtual 124, 3) := by decide +kernel
theorem dX6_load_24 : decode cX6_load 24 = .ok (.iload_n 2, 1) := by decide +kernel
theorem dX6_load_25 : decode cX6_load 25 = .ok (.ifCond .ne 11, 3) := by decide +kernel
theorem dX6_load_28 : decode cX6_load 28 = .ok (.bipush (-10), 2) := by decide +kernel
theorem dX6_load_30 : decode cX6_load 30 = .ok (.aload_n 0, 1) := by decide +kernel
theorem dX6_load_31 : decode cX6_load 31 = .ok (.getfield 99, 3) := by decide +kernel
theorem dX6_load_34 : decode cX6_load 34 = .ok (.isub, 1) := by decide +kernel
theorem dX6_load_35 : decode cX6_load 35 = .ok (.ireturn, 1) := by decide +kernel
theorem dX6_load_36 : decode cX6_load 36 = .ok (.aload_n 0, 1) := by decide +kernel
theorem dX6_load_37 : decode cX6_load 37 = .ok (.invokevirtual 79, 3) := by decide +kernel
theorem dX6_load_40 : decode cX6_load 40 = .ok (.aload_n 0, 1) := by decide +kernel
theorem dX6_load_41 : decode cX6_load 41 = .ok (.invokevirtual 124, 3) := by decide +kernel
theorem dX6_load_44 : decode cX6_load 44 = .ok (.aload_n 0, 1) := by decide +kernel
theorem dX6_load_45 : decode cX6_load 45 = .ok (.iconst 0, 1) := by decide +kernel
theorem dX6_load_46 : decode cX6_load 46 = .ok (.putfield 26, 3) := by decide +kernel
theorem dX6_load_49 : decode cX6_load 49 = .ok (.aload_n 0, 1) := by decide +kernel
theorem dX6_load_50 : decode cX6_load 50 = .ok (.dup, 1) := by decide +kernel
theorem dX6_load_51 : decode cX6_load 51 = .ok (.getfield 65, 3) := by decide +kernel
theorem dX6_load_54 : decode cX6_load 54 = .ok (.aload_n 0, 1) := by decide +kernel
theorem dX6_load_55 : decode cX6_load 55 = .ok (.invokevirtual 68, 3) := by decide +kernel
theorem dX6_load_58 : decode cX6_load 58 = .ok (.iadd, 1) := by decide +kernel
theorem dX6_load_59 : decode cX6_load 59 = .ok (.putfield 65, 3) := by decide +kernel
theorem dX6_load_62 : decode cX6_load 62 = .ok (.aload_n 0, 1) := by decide +kernel
theorem dX6_load_63 : decode cX6_load 63 = .ok (.iload_n 1, 1) := by decide +kernel
theorem dX6_load_64 : decode cX6_load 64 = .ok (.bipush 12, 2) := by decide +kernel
theorem dX6_load_66 : decode cX6_load 66 = .ok (.invokevirtual 37, 3) := by decide +kernel
theorem dX6_load_69 : decode cX6_load 69 = .ok (.ireturn, 1) := by decide +kernel
theorem dX6_press_0 : decode cX6_press 0 = .ok (.iload_n 1, 1) := by decide +kernel
theorem dX6_press_1 : decode cX6_press 1 = .ok (.iconst 0, 1) := by decide +kernel
theorem dX6_press_2 : decode cX6_press 2 = .ok (.bipush 7, 2) := by decide +kernel
theorem dX6_press_4 : decode cX6_press 4 = .ok (.invokestatic 33, 3) := by decide +kernel
theorem dX6_press_7 : decode cX6_press 7 = .ok (.ifCond .eq 12, 3) := by decide +kernel
theorem dX6_press_10 : decode cX6_press 10 = .ok (.iload_n 2, 1) := by decide +kernel
theorem dX6_press_11 : decode cX6_press 11 = .ok (.iconst 0, 1) := by decide +kernel
theorem dX6_press_12 : decode cX6_press 12 = .ok (.iconst 1, 1) := by decide +kernel
theorem dX6_press_13 : decode cX6_press 13 = .ok (.invokestatic 33, 3) := by decide +kernel
theorem dX6_press_16 : decode cX6_press 16 = .ok (.ifCond .ne 5, 3) := by decide +kernel
theorem dX6_press_19 : decode cX6_press 19 = .ok (.iconst (-1), 1) := by decide +kernel
theorem dX6_press_20 : decode cX6_press 20 = .ok (.ireturn, 1) := by decide +kernel
theorem dX6_press_21 : decode cX6_press 21 = .ok (.aload_n 0, 1) := by decide +kernel
theorem dX6_press_22 : decode cX6_press 22 = .ok (.getfield 7, 3) := by decide +kernel
theorem dX6_press_25 : decode cX6_press 25 = .ok (.iconst 0, 1) := by decide +kernel
theorem dX6_press_26 : decode cX6_press 26 = .ok (.iaload, 1) := by decide +kernel
theorem dX6_press_27 : decode cX6_press 27 = .ok (.iload_n 1, 1) := by decide +kernel
theorem dX6_press_28 : decode cX6_press 28 = .ok (.ishr, 1) := by decide +kernel
theorem dX6_press_29 : decode cX6_press 29 = .ok (.iconst 1, 1) := by decide +kernel
theorem dX6_press_30 : decode cX6_press 30 = .ok (.iand, 1) := by decide +kernel
theorem dX6_press_31 : decode cX6_press 31 = .ok (.iload_n 2, 1) := by decide +kernel
theorem dX6_press_32 : decode cX6_press 32 = .ok (.if_icmp .ne 6, 3) := by decide +kernel
theorem dX6_press_35 : decode cX6_press 35 = .ok (.bipush (-2), 2) := by decide +kernel
theorem dX6_press_37 : decode cX6_press 37 = .ok (.ireturn, 1) := by decide +kernel
theorem dX6_press_38 : decode cX6_press 38 = .ok (.aload_n 0, 1) := by decide +kernel
theorem dX6_press_39 : decode cX6_press 39 = .ok (.invokevirtual 79, 3) := by decide +kernel
theorem dX6_press_42 : decode cX6_press 42 = .ok (.aload_n 0, 1) := by decide +kernel
theorem dX6_press_43 : decode cX6_press 43 = .ok (.getfield 7, 3) := by decide +kernel
theorem dX6_press_46 : decode cX6_press 46 = .ok (.iconst 0, 1) := by decide +kernel
theorem dX6_press_47 : decode cX6_press 47 = .ok (.dup2, 1) := by decide +kernel
theorem dX6_press_48 : decode cX6_press 48 = .ok (.iaload, 1) := by decide +kernel
theorem dX6_press_49 : decode cX6_press 49 = .ok (.iconst 1, 1) := by decide +kernel
theorem dX6_press_50 : decode cX6_press 50 = .ok (.iload_n 1, 1) := by decide +kernel
theorem dX6_press_51 : decode cX6_press 51 = .ok (.ishl, 1) := by decide +kernel
theorem dX6_press_52 : decode cX6_press 52 = .ok (.ixor, 1) := by decide +kernel
theorem dX6_press_53 : decode cX6_press 53 = .ok (.iastore, 1) := by decide +kernel
theorem dX6_press_54 : decode cX6_press 54 = .ok (.aload_n 0, 1) := by decide +kernel
theorem dX6_press_55 : decode cX6_press 55 = .ok (.invokevirtual 68, 3) := by decide +kernel
theorem dX6_press_58 : decode cX6_press 58 = .ok (.ireturn, 1) := by decide +kernel
theorem dX6_setFault_0 : decode cX6_setFault 0 = .ok (.aload_n 0, 1) := by decide +kernel
theorem dX6_setFault_1 : decode cX6_setFault 1 = .ok (.iload_n 1, 1) := by decide +kernel
theorem dX6_setFault_2 : decode cX6_setFault 2 = .ok (.invokevirtual 82, 3) := by decide +kernel
theorem dX6_setFault_5 : decode cX6_setFault 5 = .ok (.ifCond .eq 12, 3) := by decide +kernel
theorem dX6_setFault_8 : decode cX6_setFault 8 = .ok (.iload_n 2, 1) := by decide +kernel
theorem dX6_setFault_9 : decode cX6_setFault 9 = .ok (.iconst 0, 1) := by decide +kernel
theorem dX6_setFault_10 : decode cX6_setFault 10 = .ok (.iconst 2, 1) := by decide +kernel
theorem dX6_setFault_11 : decode cX6_setFault 11 = .ok (.invokestatic 33, 3) := by decide +kernel
theorem dX6_setFault_14 : decode cX6_setFault 14 = .ok (.ifCond .ne 5, 3) := by decide +kernel
theorem dX6_setFault_17 : decode cX6_setFault 17 = .ok (.iconst (-1), 1) := by decide +kernel
theorem dX6_setFault_18 : decode cX6_setFault 18 = .ok (.ireturn, 1) := by decide +kernel
theorem dX6_setFault_19 : decode cX6_setFault 19 = .ok (.aload_n 0, 1) := by decide +kernel
theorem dX6_setFault_20 : decode cX6_setFault 20 = .ok (.invokevirtual 79, 3) := by decide +kernel
theorem dX6_setFault_23 : decode cX6_setFault 23 = .ok (.aload_n 0, 1) := by decide +kernel
theorem dX6_setFault_24 : decode cX6_setFault 24 = .ok (.iload_n 1, 1) := by decide +kernel
theorem dX6_setFault_25 : decode cX6_setFault 25 = .ok (.bipush 6, 2) := by decide +kernel
theorem dX6_setFault_27 : decode cX6_setFault 27 = .ok (.invokevirtual 37, 3) := by decide +kernel
theorem dX6_setFault_30 : decode cX6_setFault 30 = .ok (.istore_n 3, 1) := by decide +kernel
theorem dX6_setFault_31 : decode cX6_setFault 31 = .ok (.aload_n 0, 1) := by decide +kernel
theorem dX6_setFault_32 : decode cX6_setFault 32 = .ok (.iload_n 1, 1) := by decide +kernel
theorem dX6_setFault_33 : decode cX6_setFault 33 = .ok (.bipush 6, 2) := by decide +kernel
theorem dX6_setFault_35 : decode cX6_setFault 35 = .ok (.iload_n 2, 1) := by decide +kernel
theorem dX6_setFault_36 : decode cX6_setFault 36 = .ok (.invokevirtual 49, 3) := by decide +kernel
theorem dX6_setFault_39 : decode cX6_setFault 39 = .ok (.aload_n 0, 1) := by decide +kernel
theorem dX6_setFault_40 : decode cX6_setFault 40 = .ok (.dup, 1) := by decide +kernel
theorem dX6_setFault_41 : decode cX6_setFault 41 = .ok (.getfield 65, 3) := by decide +kernel
theorem dX6_setFault_44 : decode cX6_setFault 44 = .ok (.aload_n 0, 1) := by decide +kernel
theorem dX6_setFault_45 : decode cX6_setFault 45 = .ok (.invokevirtual 68, 3) := by decide +kernel
theorem dX6_setFault_48 : decode cX6_setFault 48 = .ok (.iadd, 1) := by decide +kernel
theorem dX6_setFault_49 : decode cX6_setFault 49 = .ok (.putfield 65, 3) := by decide +kernel
theorem dX6_setFault_52 : decode cX6_setFault 52 = .ok (.iload_n 3, 1) := by decide +kernel
theorem dX6_setFault_53 : decode cX6_setFault 53 = .ok (.ireturn, 1) := by decide +kernel
theorem dX6_stick_0 : decode cX6_stick 0 = .ok (.aload_n 0, 1) := by decide +kernel
theorem dX6_stick_1 : decode cX6_stick 1 = .ok (.iload_n 1, 1) := by decide +kernel
theorem dX6_stick_2 : decode cX6_stick 2 = .ok (.invokevirtual 82, 3) := by decide +kernel
theorem dX6_stick_5 : decode cX6_stick 5 = .ok (.ifCond .eq 12, 3) := by decide +kernel
theorem dX6_stick_8 : decode cX6_stick 8 = .ok (.iload_n 2, 1) := by decide +kernel
theorem dX6_stick_9 : decode cX6_stick 9 = .ok (.iconst 0, 1) := by decide +kernel
theorem dX6_stick_10 : decode cX6_stick 10 = .ok (.iconst 1, 1) := by decide +kernel
theorem dX6_stick_11 : decode cX6_stick 11 = .ok (.invokestatic 33, 3) := by decide +kernel
theorem dX6_stick_14 : decode cX6_stick 14 = .ok (.ifCond .ne 5, 3) := by decide +kernel
theorem dX6_stick_17 : decode cX6_stick 17 = .ok (.iconst (-1), 1) := by decide +kernel
theorem dX6_stick_18 : decode cX6_stick 18 = .ok (.ireturn, 1) := by decide +kernel
theorem dX6_stick_19 : decode cX6_stick 19 = .ok (.aload_n 0, 1) := by decide +kernel
theorem dX6_stick_20 : decode cX6_stick 20 = .ok (.invokevirtual 79, 3) := by decide +kernel
theorem dX6_stick_23 : decode cX6_stick 23 = .ok (.aload_n 0, 1) := by decide +kernel
theorem dX6_stick_24 : decode cX6_stick 24 = .ok (.iload_n 1, 1) := by decide +kernel
theorem dX6_stick_25 : decode cX6_stick 25 = .ok (.bipush 7, 2) := by decide +kernel
theorem dX6_stick_27 : decode cX6_stick 27 = .ok (.invokevirtual 37, 3) := by decide +kernel
theorem dX6_stick_30 : decode cX6_stick 30 = .ok (.istore_n 3, 1) := by decide +kernel
theorem dX6_stick_31 : decode cX6_stick 31 = .ok (.aload_n 0, 1) := by decide +kernel
theorem dX6_stick_32 : decode cX6_stick 32 = .ok (.iload_n 1, 1) := by decide +kernel
theorem dX6_stick_33 : decode cX6_stick 33 = .ok (.bipush 7, 2) := by decide +kernel
theorem dX6_stick_35 : decode cX6_stick 35 = .ok (.iload_n 2, 1) := by decide +kernel
theorem dX6_stick_36 : decode cX6_stick 36 = .ok (.invokevirtual 49, 3) := by decide +kernel
theorem dX6_stick_39 : decode cX6_stick 39 = .ok (.aload_n 0, 1) := by decide +kernel
theorem dX6_stick_40 : decode cX6_stick 40 = .ok (.dup, 1) := by decide +kernel
theorem dX6_stick_41 : decode cX6_stick 41 = .ok (.getfield 65, 3) := by decide +kernel
theorem dX6_stick_44 : decode cX6_stick 44 = .ok (.aload_n 0, 1) := by decide +kernel
theorem dX6_stick_45 : decode cX6_stick 45 = .ok (.invokevirtual 68, 3) := by decide +kernel
theorem dX6_stick_48 : decode cX6_stick 48 = .ok (.iadd, 1) := by decide +kernel
theorem dX6_stick_49 : decode cX6_stick 49 = .ok (.putfield 65, 3) := by decide +kernel
theorem dX6_stick_52 : decode cX6_stick 52 = .ok (.iload_n 3, 1) := by decide +kernel
theorem dX6_stick_53 : decode cX6_stick 53 = .ok (.ireturn, 1) := by decide +kernel
theorem dX6_step_0 : decode cX6_step 0 = .ok (.aload_n 0, 1) := by decide +kernel
theorem dX6_step_1 : decode cX6_step 1 = .ok (.iconst 0, 1) := by decide +kernel
theorem dX6_step_2 : decode cX6_step 2 = .ok (.invokevirtual 71, 3) := by decide +kernel
theorem dX6_step_5 : decode cX6_step 5 = .ok (.istore_n 1, 1) := by decide +kernel
theorem dX6_step_6 : decode cX6_step 6 = .ok (.iload_n 1, 1) := by decide +kernel
theorem dX6_step_7 : decode cX6_step 7 = .ok (.bipush (-9), 2) := by decide +kernel
theorem dX6_step_9 : decode cX6_step 9 = .ok (.if_icmp .ne 6, 3) := by decide +kernel
theorem dX6_step_12 : decode cX6_step 12 = .ok (.bipush (-2), 2) := by decide +kernel
theorem dX6_step_14 : decode cX6_step 14 = .ok (.ireturn, 1) := by decide +kernel
theorem dX6_step_15 : decode cX6_step 15 = .ok (.aload_n 0, 1) := by decide +kernel
theorem dX6_step_16 : decode cX6_step 16 = .ok (.invokevirtual 79, 3) := by decide +kernel
theorem dX6_step_19 : decode cX6_step 19 = .ok (.aload_n 0, 1) := by decide +kernel
theorem dX6_step_20 : decode cX6_step 20 = .ok (.iload_n 1, 1) := by decide +kernel
theorem dX6_step_21 : decode cX6_step 21 = .ok (.invokevirtual 75, 3) := by decide +kernel
theorem dX6_step_24 : decode cX6_step 24 = .ok (.bipush 10, 2) := by decide +kernel
theorem dX6_step_26 : decode cX6_step 26 = .ok (.iload_n 1, 1) := by decide +kernel
theorem dX6_step_27 : decode cX6_step 27 = .ok (.iconst 4, 1) := by decide +kernel
theorem dX6_step_28 : decode cX6_step 28 = .ok (.idiv, 1) := by decide +kernel
theorem dX6_step_29 : decode cX6_step 29 = .ok (.imul, 1) := by decide +kernel
theorem dX6_step_30 : decode cX6_step 30 = .ok (.iload_n 1, 1) := by decide +kernel
theorem dX6_step_31 : decode cX6_step 31 = .ok (.iconst 4, 1) := by decide +kernel
theorem dX6_step_32 : decode cX6_step 32 = .ok (.irem, 1) := by decide +kernel
theorem dX6_step_33 : decode cX6_step 33 = .ok (.iadd, 1) := by decide +kernel
theorem dX6_step_34 : decode cX6_step 34 = .ok (.ireturn, 1) := by decide +kernel
theorem dX6_settle_0 : decode cX6_settle 0 = .ok (.iload_n 1, 1) := by decide +kernel
theorem dX6_settle_1 : decode cX6_settle 1 = .ok (.iconst 1, 1) := by decide +kernel
theorem dX6_settle_2 : decode cX6_settle 2 = .ok (.sipush 200, 3) := by decide +kernel
theorem dX6_settle_5 : decode cX6_settle 5 = .ok (.invokestatic 33, 3) := by decide +kernel
theorem dX6_settle_8 : decode cX6_settle 8 = .ok (.ifCond .ne 5, 3) := by decide +kernel
theorem dX6_settle_11 : decode cX6_settle 11 = .ok (.iconst (-1), 1) := by decide +kernel
theorem dX6_settle_12 : decode cX6_settle 12 = .ok (.ireturn, 1) := by decide +kernel
theorem dX6_settle_13 : decode cX6_settle 13 = .ok (.aload_n 0, 1) := by decide +kernel
theorem dX6_settle_14 : decode cX6_settle 14 = .ok (.invokevirtual 79, 3) := by decide +kernel
theorem dX6_settle_17 : decode cX6_settle 17 = .ok (.aload_n 0, 1) := by decide +kernel
theorem dX6_settle_18 : decode cX6_settle 18 = .ok (.iconst 0, 1) := by decide +kernel
theorem dX6_settle_19 : decode cX6_settle 19 = .ok (.iload_n 1, 1) := by decide +kernel
theorem dX6_settle_20 : decode cX6_settle 20 = .ok (.invokevirtual 127, 3) := by decide +kernel
theorem dX6_settle_23 : decode cX6_settle 23 = .ok (.ireturn, 1) := by decide +kernel
theorem dX6_pass_0 : decode cX6_pass 0 = .ok (.iload_n 1, 1) := by decide +kernel
theorem dX6_pass_1 : decode cX6_pass 1 = .ok (.iconst 1, 1) := by decide +kernel
theorem dX6_pass_2 : decode cX6_pass 2 = .ok (.sipush 1000, 3) := by decide +kernel
theorem dX6_pass_5 : decode cX6_pass 5 = .ok (.invokestatic 33, 3) := by decide +kernel
theorem dX6_pass_8 : decode cX6_pass 8 = .ok (.ifCond .ne 5, 3) := by decide +kernel
theorem dX6_pass_11 : decode cX6_pass 11 = .ok (.iconst (-1), 1) := by decide +kernel
theorem dX6_pass_12 : decode cX6_pass 12 = .ok (.ireturn, 1) := by decide +kernel
theorem dX6_pass_13 : decode cX6_pass 13 = .ok (.aload_n 0, 1) := by decide +kernel
theorem dX6_pass_14 : decode cX6_pass 14 = .ok (.getfield 7, 3) := by decide +kernel
theorem dX6_pass_17 : decode cX6_pass 17 = .ok (.iconst 2, 1) := by decide +kernel
theorem dX6_pass_18 : decode cX6_pass 18 = .ok (.iaload, 1) := by decide +kernel
theorem dX6_pass_19 : decode cX6_pass 19 = .ok (.iload_n 1, 1) := by decide +kernel
theorem dX6_pass_20 : decode cX6_pass 20 = .ok (.iadd, 1) := by decide +kernel
theorem dX6_pass_21 : decode cX6_pass 21 = .ok (.istore_n 2, 1) := by decide +kernel
theorem dX6_pass_22 : decode cX6_pass 22 = .ok (.iload_n 2, 1) := by decide +kernel
theorem dX6_pass_23 : decode cX6_pass 23 = .ok (.ldc 131, 2) := by decide +kernel
theorem dX6_pass_25 : decode cX6_pass 25 = .ok (.if_icmp .le 6, 3) := by decide +kernel
theorem dX6_pass_28 : decode cX6_pass 28 = .ok (.bipush (-3), 2) := by decide +kernel
theorem dX6_pass_30 : decode cX6_pass 30 = .ok (.ireturn, 1) := by decide +kernel
theorem dX6_pass_31 : decode cX6_pass 31 = .ok (.aload_n 0, 1) := by decide +kernel
theorem dX6_pass_32 : decode cX6_pass 32 = .ok (.invokevirtual 118, 3) := by decide +kernel
theorem dX6_pass_35 : decode cX6_pass 35 = .ok (.iconst 0, 1) := by decide +kernel
theorem dX6_pass_36 : decode cX6_pass 36 = .ok (.istore_n 3, 1) := by decide +kernel
theorem dX6_pass_37 : decode cX6_pass 37 = .ok (.aload_n 0, 1) := by decide +kernel
theorem dX6_pass_38 : decode cX6_pass 38 = .ok (.iconst 0, 1) := by decide +kernel
theorem dX6_pass_39 : decode cX6_pass 39 = .ok (.invokevirtual 71, 3) := by decide +kernel
theorem dX6_pass_42 : decode cX6_pass 42 = .ok (.istore 4, 2) := by decide +kernel
theorem dX6_pass_44 : decode cX6_pass 44 = .ok (.iload_n 3, 1) := by decide +kernel
theorem dX6_pass_45 : decode cX6_pass 45 = .ok (.sipush 200, 3) := by decide +kernel
theorem dX6_pass_48 : decode cX6_pass 48 = .ok (.if_icmp .gt 39, 3) := by decide +kernel
theorem dX6_pass_51 : decode cX6_pass 51 = .ok (.iload 4, 2) := by decide +kernel
theorem dX6_pass_53 : decode cX6_pass 53 = .ok (.bipush (-9), 2) := by decide +kernel
theorem dX6_pass_55 : decode cX6_pass 55 = .ok (.if_icmp .eq 32, 3) := by decide +kernel
theorem dX6_pass_58 : decode cX6_pass 58 = .ok (.aload_n 0, 1) := by decide +kernel
theorem dX6_pass_59 : decode cX6_pass 59 = .ok (.iload 4, 2) := by decide +kernel
theorem dX6_pass_61 : decode cX6_pass 61 = .ok (.invokevirtual 53, 3) := by decide +kernel
theorem dX6_pass_64 : decode cX6_pass 64 = .ok (.iload_n 2, 1) := by decide +kernel
theorem dX6_pass_65 : decode cX6_pass 65 = .ok (.if_icmp .gt 22, 3) := by decide +kernel
theorem dX6_pass_68 : decode cX6_pass 68 = .ok (.aload_n 0, 1) := by decide +kernel
theorem dX6_pass_69 : decode cX6_pass 69 = .ok (.iload 4, 2) := by decide +kernel
theorem dX6_pass_71 : decode cX6_pass 71 = .ok (.invokevirtual 75, 3) := by decide +kernel
theorem dX6_pass_74 : decode cX6_pass 74 = .ok (.iinc 3 1, 3) := by decide +kernel
theorem dX6_pass_77 : decode cX6_pass 77 = .ok (.aload_n 0, 1) := by decide +kernel
theorem dX6_pass_78 : decode cX6_pass 78 = .ok (.iconst 0, 1) := by decide +kernel
theorem dX6_pass_79 : decode cX6_pass 79 = .ok (.invokevirtual 71, 3) := by decide +kernel
theorem dX6_pass_82 : decode cX6_pass 82 = .ok (.istore 4, 2) := by decide +kernel
theorem dX6_pass_84 : decode cX6_pass 84 = .ok (.goto (-40), 3) := by decide +kernel
theorem dX6_pass_87 : decode cX6_pass 87 = .ok (.aload_n 0, 1) := by decide +kernel
theorem dX6_pass_88 : decode cX6_pass 88 = .ok (.getfield 7, 3) := by decide +kernel
theorem dX6_pass_91 : decode cX6_pass 91 = .ok (.iconst 2, 1) := by decide +kernel
theorem dX6_pass_92 : decode cX6_pass 92 = .ok (.iload_n 2, 1) := by decide +kernel
theorem dX6_pass_93 : decode cX6_pass 93 = .ok (.iastore, 1) := by decide +kernel
theorem dX6_pass_94 : decode cX6_pass 94 = .ok (.aload_n 0, 1) := by decide +kernel
theorem dX6_pass_95 : decode cX6_pass 95 = .ok (.invokevirtual 124, 3) := by decide +kernel
theorem dX6_pass_98 : decode cX6_pass 98 = .ok (.iload_n 3, 1) := by decide +kernel
theorem dX6_pass_99 : decode cX6_pass 99 = .ok (.sipush 200, 3) := by decide +kernel
theorem dX6_pass_102 : decode cX6_pass 102 = .ok (.if_icmp .le 6, 3) := by decide +kernel
theorem dX6_pass_105 : decode cX6_pass 105 = .ok (.bipush (-3), 2) := by decide +kernel
theorem dX6_pass_107 : decode cX6_pass 107 = .ok (.ireturn, 1) := by decide +kernel
theorem dX6_pass_108 : decode cX6_pass 108 = .ok (.aload_n 0, 1) := by decide +kernel
theorem dX6_pass_109 : decode cX6_pass 109 = .ok (.invokevirtual 79, 3) := by decide +kernel
theorem dX6_pass_112 : decode cX6_pass 112 = .ok (.aload_n 0, 1) := by decide +kernel
theorem dX6_pass_113 : decode cX6_pass 113 = .ok (.invokevirtual 124, 3) := by decide +kernel
theorem dX6_pass_116 : decode cX6_pass 116 = .ok (.iload_n 3, 1) := by decide +kernel
theorem dX6_pass_117 : decode cX6_pass 117 = .ok (.ireturn, 1) := by decide +kernel
theorem dX6_count_0 : decode cX6_count 0 = .ok (.iconst 0, 1) := by decide +kernel
theorem dX6_count_1 : decode cX6_count 1 = .ok (.istore_n 2, 1) := by decide +kernel
theorem dX6_count_2 : decode cX6_count 2 = .ok (.iload_n 1, 1) := by decide +kernel
theorem dX6_count_3 : decode cX6_count 3 = .ok (.tableswitch 153 0 9 #[53, 60, 67, 113, 120, 126, 132, 137, 143, 148], 53) := by decide +kernel
theorem dX6_count_56 : decode cX6_count 56 = .ok (.aload_n 0, 1) := by decide +kernel
theorem dX6_count_57 : decode cX6_count 57 = .ok (.getfield 7, 3) := by decide +kernel
theorem dX6_count_60 : decode cX6_count 60 = .ok (.iconst 1, 1) := by decide +kernel
theorem dX6_count_61 : decode cX6_count 61 = .ok (.iaload, 1) := by decide +kernel
theorem dX6_count_62 : decode cX6_count 62 = .ok (.ireturn, 1) := by decide +kernel
theorem dX6_count_63 : decode cX6_count 63 = .ok (.aload_n 0, 1) := by decide +kernel
theorem dX6_count_64 : decode cX6_count 64 = .ok (.getfield 7, 3) := by decide +kernel
theorem dX6_count_67 : decode cX6_count 67 = .ok (.iconst 2, 1) := by decide +kernel
theorem dX6_count_68 : decode cX6_count 68 = .ok (.iaload, 1) := by decide +kernel
theorem dX6_count_69 : decode cX6_count 69 = .ok (.ireturn, 1) := by decide +kernel
theorem dX6_count_70 : decode cX6_count 70 = .ok (.iconst 0, 1) := by decide +kernel
theorem dX6_count_71 : decode cX6_count 71 = .ok (.istore_n 3, 1) := by decide +kernel
theorem dX6_count_72 : decode cX6_count 72 = .ok (.iload_n 3, 1) := by decide +kernel
theorem dX6_count_73 : decode cX6_count 73 = .ok (.aload_n 0, 1) := by decide +kernel
theorem dX6_count_74 : decode cX6_count 74 = .ok (.getfield 7, 3) := by decide +kernel
theorem dX6_count_77 : decode cX6_count 77 = .ok (.iconst 1, 1) := by decide +kernel
theorem dX6_count_78 : decode cX6_count 78 = .ok (.iaload, 1) := by decide +kernel
theorem dX6_count_79 : decode cX6_count 79 = .ok (.if_icmp .ge 35, 3) := by decide +kernel
theorem dX6_count_82 : decode cX6_count 82 = .ok (.iload_n 2, 1) := by decide +kernel
theorem dX6_count_83 : decode cX6_count 83 = .ok (.aload_n 0, 1) := by decide +kernel
theorem dX6_count_84 : decode cX6_count 84 = .ok (.iload_n 3, 1) := by decide +kernel
theorem dX6_count_85 : decode cX6_count 85 = .ok (.bipush 8, 2) := by decide +kernel
theorem dX6_count_87 : decode cX6_count 87 = .ok (.invokevirtual 37, 3) := by decide +kernel
theorem dX6_count_90 : decode cX6_count 90 = .ok (.ifCond .le 7, 3) := by decide +kernel
theorem dX6_count_93 : decode cX6_count 93 = .ok (.iconst 1, 1) := by decide +kernel
theorem dX6_count_94 : decode cX6_count 94 = .ok (.goto 4, 3) := by decide +kernel
theorem dX6_count_97 : decode cX6_count 97 = .ok (.iconst 0, 1) := by decide +kernel
theorem dX6_count_98 : decode cX6_count 98 = .ok (.aload_n 0, 1) := by decide +kernel
theorem dX6_count_99 : decode cX6_count 99 = .ok (.iload_n 3, 1) := by decide +kernel
theorem dX6_count_100 : decode cX6_count 100 = .ok (.bipush 10, 2) := by decide +kernel
theorem dX6_count_102 : decode cX6_count 102 = .ok (.invokevirtual 37, 3) := by decide +kernel
theorem dX6_count_105 : decode cX6_count 105 = .ok (.iadd, 1) := by decide +kernel
theorem dX6_count_106 : decode cX6_count 106 = .ok (.iadd, 1) := by decide +kernel
theorem dX6_count_107 : decode cX6_count 107 = .ok (.istore_n 2, 1) := by decide +kernel
theorem dX6_count_108 : decode cX6_count 108 = .ok (.iinc 3 1, 3) := by decide +kernel
theorem dX6_count_111 : decode cX6_count 111 = .ok (.goto (-39), 3) := by decide +kernel
theorem dX6_count_114 : decode cX6_count 114 = .ok (.iload_n 2, 1) := by decide +kernel
theorem dX6_count_115 : decode cX6_count 115 = .ok (.ireturn, 1) := by decide +kernel
theorem dX6_count_116 : decode cX6_count 116 = .ok (.aload_n 0, 1) := by decide +kernel
theorem dX6_count_117 : decode cX6_count 117 = .ok (.getfield 7, 3) := by decide +kernel
theorem dX6_count_120 : decode cX6_count 120 = .ok (.iconst 0, 1) := by decide +kernel
theorem dX6_count_121 : decode cX6_count 121 = .ok (.iaload, 1) := by decide +kernel
theorem dX6_count_122 : decode cX6_count 122 = .ok (.ireturn, 1) := by decide +kernel
theorem dX6_count_123 : decode cX6_count 123 = .ok (.aload_n 0, 1) := by decide +kernel
theorem dX6_count_124 : decode cX6_count 124 = .ok (.iconst 4, 1) := by decide +kernel
theorem dX6_count_125 : decode cX6_count 125 = .ok (.invokevirtual 132, 3) := by decide +kernel
theorem dX6_count_128 : decode cX6_count 128 = .ok (.ireturn, 1) := by decide +kernel
theorem dX6_count_129 : decode cX6_count 129 = .ok (.aload_n 0, 1) := by decide +kernel
theorem dX6_count_130 : decode cX6_count 130 = .ok (.iconst 3, 1) := by decide +kernel
theorem dX6_count_131 : decode cX6_count 131 = .ok (.invokevirtual 132, 3) := by decide +kernel
theorem dX6_count_134 : decode cX6_count 134 = .ok (.ireturn, 1) := by decide +kernel
theorem dX6_count_135 : decode cX6_count 135 = .ok (.aload_n 0, 1) := by decide +kernel
theorem dX6_count_136 : decode cX6_count 136 = .ok (.invokevirtual 41, 3) := by decide +kernel
theorem dX6_count_139 : decode cX6_count 139 = .ok (.ireturn, 1) := by decide +kernel
theorem dX6_count_140 : decode cX6_count 140 = .ok (.aload_n 0, 1) := by decide +kernel
theorem dX6_count_141 : decode cX6_count 141 = .ok (.iconst 5, 1) := by decide +kernel
theorem dX6_count_142 : decode cX6_count 142 = .ok (.invokevirtual 132, 3) := by decide +kernel
theorem dX6_count_145 : decode cX6_count 145 = .ok (.ireturn, 1) := by decide +kernel
theorem dX6_count_146 : decode cX6_count 146 = .ok (.aload_n 0, 1) := by decide +kernel
theorem dX6_count_147 : decode cX6_count 147 = .ok (.getfield 26, 3) := by decide +kernel
theorem dX6_count_150 : decode cX6_count 150 = .ok (.ireturn, 1) := by decide +kernel
theorem dX6_count_151 : decode cX6_count 151 = .ok (.aload_n 0, 1) := by decide +kernel
theorem dX6_count_152 : decode cX6_count 152 = .ok (.getfield 30, 3) := by decide +kernel
theorem dX6_count_155 : decode cX6_count 155 = .ok (.ireturn, 1) := by decide +kernel
theorem dX6_count_156 : decode cX6_count 156 = .ok (.iconst (-1), 1) := by decide +kernel
theorem dX6_count_157 : decode cX6_count 157 = .ok (.ireturn, 1) := by decide +kernel
theorem dX6_ofItself_0 : decode cX6_ofItself 0 = .ok (.iconst 0, 1) := by decide +kernel
theorem dX6_ofItself_1 : decode cX6_ofItself 1 = .ok (.istore_n 2, 1) := by decide +kernel
theorem dX6_ofItself_2 : decode cX6_ofItself 2 = .ok (.iconst 0, 1) := by decide +kernel
theorem dX6_ofItself_3 : decode cX6_ofItself 3 = .ok (.istore_n 3, 1) := by decide +kernel
theorem dX6_ofItself_4 : decode cX6_ofItself 4 = .ok (.iload_n 3, 1) := by decide +kernel
theorem dX6_ofItself_5 : decode cX6_ofItself 5 = .ok (.aload_n 0, 1) := by decide +kernel
theorem dX6_ofItself_6 : decode cX6_ofItself 6 = .ok (.iload_n 1, 1) := by decide +kernel
theorem dX6_ofItself_7 : decode cX6_ofItself 7 = .ok (.bipush 12, 2) := by decide +kernel
theorem dX6_ofItself_9 : decode cX6_ofItself 9 = .ok (.invokevirtual 37, 3) := by decide +kernel
theorem dX6_ofItself_12 : decode cX6_ofItself 12 = .ok (.if_icmp .ge 28, 3) := by decide +kernel
theorem dX6_ofItself_15 : decode cX6_ofItself 15 = .ok (.aload_n 0, 1) := by decide +kernel
theorem dX6_ofItself_16 : decode cX6_ofItself 16 = .ok (.iload_n 1, 1) := by decide +kernel
theorem dX6_ofItself_17 : decode cX6_ofItself 17 = .ok (.iload_n 3, 1) := by decide +kernel
theorem dX6_ofItself_18 : decode cX6_ofItself 18 = .ok (.bipush 8, 2) := by decide +kernel
theorem dX6_ofItself_20 : decode cX6_ofItself 20 = .ok (.iload_n 1, 1) := by decide +kernel
theorem dX6_ofItself_21 : decode cX6_ofItself 21 = .ok (.iadd, 1) := by decide +kernel
theorem dX6_ofItself_22 : decode cX6_ofItself 22 = .ok (.invokevirtual 91, 3) := by decide +kernel
theorem dX6_ofItself_25 : decode cX6_ofItself 25 = .ok (.ifCond .le 7, 3) := by decide +kernel
theorem dX6_ofItself_28 : decode cX6_ofItself 28 = .ok (.iconst 1, 1) := by decide +kernel
theorem dX6_ofItself_29 : decode cX6_ofItself 29 = .ok (.goto 4, 3) := by decide +kernel
theorem dX6_ofItself_32 : decode cX6_ofItself 32 = .ok (.iload_n 2, 1) := by decide +kernel
theorem dX6_ofItself_33 : decode cX6_ofItself 33 = .ok (.istore_n 2, 1) := by decide +kernel
theorem dX6_ofItself_34 : decode cX6_ofItself 34 = .ok (.iinc 3 1, 3) := by decide +kernel
theorem dX6_ofItself_37 : decode cX6_ofItself 37 = .ok (.goto (-33), 3) := by decide +kernel
theorem dX6_ofItself_40 : decode cX6_ofItself 40 = .ok (.iload_n 2, 1) := by decide +kernel
theorem dX6_ofItself_41 : decode cX6_ofItself 41 = .ok (.ireturn, 1) := by decide +kernel
theorem dX6_relay_0 : decode cX6_relay 0 = .ok (.aload_n 0, 1) := by decide +kernel
theorem dX6_relay_1 : decode cX6_relay 1 = .ok (.iload_n 1, 1) := by decide +kernel
theorem dX6_relay_2 : decode cX6_relay 2 = .ok (.invokevirtual 82, 3) := by decide +kernel
theorem dX6_relay_5 : decode cX6_relay 5 = .ok (.ifCond .eq 13, 3) := by decide +kernel
theorem dX6_relay_8 : decode cX6_relay 8 = .ok (.iload_n 2, 1) := by decide +kernel
theorem dX6_relay_9 : decode cX6_relay 9 = .ok (.iconst 0, 1) := by decide +kernel
theorem dX6_relay_10 : decode cX6_relay 10 = .ok (.bipush 7, 2) := by decide +kernel
theorem dX6_relay_12 : decode cX6_relay 12 = .ok (.invokestatic 33, 3) := by decide +kernel
theorem dX6_relay_15 : decode cX6_relay 15 = .ok (.ifCond .ne 5, 3) := by decide +kernel
theorem dX6_relay_18 : decode cX6_relay 18 = .ok (.iconst (-1), 1) := by decide +kernel
theorem dX6_relay_19 : decode cX6_relay 19 = .ok (.ireturn, 1) := by decide +kernel
theorem dX6_relay_20 : decode cX6_relay 20 = .ok (.iload_n 2, 1) := by decide +kernel
theorem dX6_relay_21 : decode cX6_relay 21 = .ok (.tableswitch 93 3 7 #[35, 43, 51, 59, 65], 35) := by decide +kernel
theorem dX6_relay_56 : decode cX6_relay 56 = .ok (.aload_n 0, 1) := by decide +kernel
theorem dX6_relay_57 : decode cX6_relay 57 = .ok (.iload_n 1, 1) := by decide +kernel
theorem dX6_relay_58 : decode cX6_relay 58 = .ok (.bipush 12, 2) := by decide +kernel
theorem dX6_relay_60 : decode cX6_relay 60 = .ok (.invokevirtual 37, 3) := by decide +kernel
theorem dX6_relay_63 : decode cX6_relay 63 = .ok (.ireturn, 1) := by decide +kernel
theorem dX6_relay_64 : decode cX6_relay 64 = .ok (.aload_n 0, 1) := by decide +kernel
theorem dX6_relay_65 : decode cX6_relay 65 = .ok (.iload_n 1, 1) := by decide +kernel
theorem dX6_relay_66 : decode cX6_relay 66 = .ok (.bipush 6, 2) := by decide +kernel
theorem dX6_relay_68 : decode cX6_relay 68 = .ok (.invokevirtual 37, 3) := by decide +kernel
theorem dX6_relay_71 : decode cX6_relay 71 = .ok (.ireturn, 1) := by decide +kernel
theorem dX6_relay_72 : decode cX6_relay 72 = .ok (.aload_n 0, 1) := by decide +kernel
theorem dX6_relay_73 : decode cX6_relay 73 = .ok (.iload_n 1, 1) := by decide +kernel
theorem dX6_relay_74 : decode cX6_relay 74 = .ok (.bipush 7, 2) := by decide +kernel
theorem dX6_relay_76 : decode cX6_relay 76 = .ok (.invokevirtual 37, 3) := by decide +kernel
theorem dX6_relay_79 : decode cX6_relay 79 = .ok (.ireturn, 1) := by decide +kernel
theorem dX6_relay_80 : decode cX6_relay 80 = .ok (.aload_n 0, 1) := by decide +kernel
theorem dX6_relay_81 : decode cX6_relay 81 = .ok (.iload_n 1, 1) := by decide +kernel
theorem dX6_relay_82 : decode cX6_relay 82 = .ok (.invokevirtual 135, 3) := by decide +kernel
theorem dX6_relay_85 : decode cX6_relay 85 = .ok (.ireturn, 1) := by decide +kernel
theorem dX6_relay_86 : decode cX6_relay 86 = .ok (.aload_n 0, 1) := by decide +kernel
theorem dX6_relay_87 : decode cX6_relay 87 = .ok (.iload_n 1, 1) := by decide +kernel
theorem dX6_relay_88 : decode cX6_relay 88 = .ok (.aload_n 0, 1) := by decide +kernel
theorem dX6_relay_89 : decode cX6_relay 89 = .ok (.getfield 7, 3) := by decide +kernel
theorem dX6_relay_92 : decode cX6_relay 92 = .ok (.iconst 0, 1) := by decide +kernel
theorem dX6_relay_93 : decode cX6_relay 93 = .ok (.iaload, 1) := by decide +kernel
theorem dX6_relay_94 : decode cX6_relay 94 = .ok (.aload_n 0, 1) := by decide +kernel
theorem dX6_relay_95 : decode cX6_relay 95 = .ok (.invokevirtual 41, 3) := by decide +kernel
theorem dX6_relay_98 : decode cX6_relay 98 = .ok (.bipush 8, 2) := by decide +kernel
theorem dX6_relay_100 : decode cX6_relay 100 = .ok (.ishl, 1) := by decide +kernel
theorem dX6_relay_101 : decode cX6_relay 101 = .ok (.ior, 1) := by decide +kernel
theorem dX6_relay_102 : decode cX6_relay 102 = .ok (.invokevirtual 45, 3) := by decide +kernel
theorem dX6_relay_105 : decode cX6_relay 105 = .ok (.ifCond .eq 7, 3) := by decide +kernel
theorem dX6_relay_108 : decode cX6_relay 108 = .ok (.iconst 1, 1) := by decide +kernel
theorem dX6_relay_109 : decode cX6_relay 109 = .ok (.goto 4, 3) := by decide +kernel
theorem dX6_relay_112 : decode cX6_relay 112 = .ok (.iconst 0, 1) := by decide +kernel
theorem dX6_relay_113 : decode cX6_relay 113 = .ok (.ireturn, 1) := by decide +kernel
theorem dX6_relay_114 : decode cX6_relay 114 = .ok (.aload_n 0, 1) := by decide +kernel
theorem dX6_relay_115 : decode cX6_relay 115 = .ok (.iload_n 1, 1) := by decide +kernel
theorem dX6_relay_116 : decode cX6_relay 116 = .ok (.iload_n 2, 1) := by decide +kernel
theorem dX6_relay_117 : decode cX6_relay 117 = .ok (.invokevirtual 37, 3) := by decide +kernel
theorem dX6_relay_120 : decode cX6_relay 120 = .ok (.ireturn, 1) := by decide +kernel
theorem dX6_condition_0 : decode cX6_condition 0 = .ok (.aload_n 0, 1) := by decide +kernel
theorem dX6_condition_1 : decode cX6_condition 1 = .ok (.iload_n 1, 1) := by decide +kernel
theorem dX6_condition_2 : decode cX6_condition 2 = .ok (.invokevirtual 82, 3) := by decide +kernel
theorem dX6_condition_5 : decode cX6_condition 5 = .ok (.ifCond .eq 30, 3) := by decide +kernel
theorem dX6_condition_8 : decode cX6_condition 8 = .ok (.iload_n 2, 1) := by decide +kernel
theorem dX6_condition_9 : decode cX6_condition 9 = .ok (.iconst 0, 1) := by decide +kernel
theorem dX6_condition_10 : decode cX6_condition 10 = .ok (.aload_n 0, 1) := by decide +kernel
theorem dX6_condition_11 : decode cX6_condition 11 = .ok (.iload_n 1, 1) := by decide +kernel
theorem dX6_condition_12 : decode cX6_condition 12 = .ok (.bipush 12, 2) := by decide +kernel
theorem dX6_condition_14 : decode cX6_condition 14 = .ok (.invokevirtual 37, 3) := by decide +kernel
theorem dX6_condition_17 : decode cX6_condition 17 = .ok (.iconst 1, 1) := by decide +kernel
theorem dX6_condition_18 : decode cX6_condition 18 = .ok (.isub, 1) := by decide +kernel
theorem dX6_condition_19 : decode cX6_condition 19 = .ok (.invokestatic 33, 3) := by decide +kernel
theorem dX6_condition_22 : decode cX6_condition 22 = .ok (.ifCond .eq 13, 3) := by decide +kernel
theorem dX6_condition_25 : decode cX6_condition 25 = .ok (.iload_n 3, 1) := by decide +kernel
theorem dX6_condition_26 : decode cX6_condition 26 = .ok (.iconst 0, 1) := by decide +kernel
theorem dX6_condition_27 : decode cX6_condition 27 = .ok (.bipush 15, 2) := by decide +kernel
theorem dX6_condition_29 : decode cX6_condition 29 = .ok (.invokestatic 33, 3) := by decide +kernel
theorem dX6_condition_32 : decode cX6_condition 32 = .ok (.ifCond .ne 7, 3) := by decide +kernel
theorem dX6_condition_35 : decode cX6_condition 35 = .ok (.iconst (-1), 1) := by decide +kernel
theorem dX6_condition_36 : decode cX6_condition 36 = .ok (.goto 10, 3) := by decide +kernel
theorem dX6_condition_39 : decode cX6_condition 39 = .ok (.aload_n 0, 1) := by decide +kernel
theorem dX6_condition_40 : decode cX6_condition 40 = .ok (.iload_n 1, 1) := by decide +kernel
theorem dX6_condition_41 : decode cX6_condition 41 = .ok (.iload_n 2, 1) := by decide +kernel
theorem dX6_condition_42 : decode cX6_condition 42 = .ok (.iload_n 3, 1) := by decide +kernel
theorem dX6_condition_43 : decode cX6_condition 43 = .ok (.invokevirtual 91, 3) := by decide +kernel
theorem dX6_condition_46 : decode cX6_condition 46 = .ok (.ireturn, 1) := by decide +kernel
theorem dX6_event_0 : decode cX6_event 0 = .ok (.iload_n 1, 1) := by decide +kernel
theorem dX6_event_1 : decode cX6_event 1 = .ok (.ifCond .lt 12, 3) := by decide +kernel
theorem dX6_event_4 : decode cX6_event 4 = .ok (.iload_n 2, 1) := by decide +kernel
theorem dX6_event_5 : decode cX6_event 5 = .ok (.iconst 0, 1) := by decide +kernel
theorem dX6_event_6 : decode cX6_event 6 = .ok (.iconst 2, 1) := by decide +kernel
theorem dX6_event_7 : decode cX6_event 7 = .ok (.invokestatic 33, 3) := by decide +kernel
theorem dX6_event_10 : decode cX6_event 10 = .ok (.ifCond .ne 5, 3) := by decide +kernel
theorem dX6_event_13 : decode cX6_event 13 = .ok (.iconst (-1), 1) := by decide +kernel
theorem dX6_event_14 : decode cX6_event 14 = .ok (.ireturn, 1) := by decide +kernel
theorem dX6_event_15 : decode cX6_event 15 = .ok (.iconst 0, 1) := by decide +kernel
theorem dX6_event_16 : decode cX6_event 16 = .ok (.istore_n 3, 1) := by decide +kernel
theorem dX6_event_17 : decode cX6_event 17 = .ok (.iload_n 3, 1) := by decide +kernel
theorem dX6_event_18 : decode cX6_event 18 = .ok (.iconst 4, 1) := by decide +kernel
theorem dX6_event_19 : decode cX6_event 19 = .ok (.aload_n 0, 1) := by decide +kernel
theorem dX6_event_20 : decode cX6_event 20 = .ok (.getfield 7, 3) := by decide +kernel
theorem dX6_event_23 : decode cX6_event 23 = .ok (.iconst 1, 1) := by decide +kernel
theorem dX6_event_24 : decode cX6_event 24 = .ok (.iaload, 1) := by decide +kernel
theorem dX6_event_25 : decode cX6_event 25 = .ok (.imul, 1) := by decide +kernel
theorem dX6_event_26 : decode cX6_event 26 = .ok (.if_icmp .ge 113, 3) := by decide +kernel
theorem dX6_event_29 : decode cX6_event 29 = .ok (.iconst 0, 1) := by decide +kernel
theorem dX6_event_30 : decode cX6_event 30 = .ok (.istore 4, 2) := by decide +kernel
theorem dX6_event_32 : decode cX6_event 32 = .ok (.iconst 0, 1) := by decide +kernel
theorem dX6_event_33 : decode cX6_event 33 = .ok (.istore 5, 2) := by decide +kernel
theorem dX6_event_35 : decode cX6_event 35 = .ok (.iload 5, 2) := by decide +kernel
theorem dX6_event_37 : decode cX6_event 37 = .ok (.iconst 4, 1) := by decide +kernel
theorem dX6_event_38 : decode cX6_event 38 = .ok (.aload_n 0, 1) := by decide +kernel
theorem dX6_event_39 : decode cX6_event 39 = .ok (.getfield 7, 3) := by decide +kernel
theorem dX6_event_42 : decode cX6_event 42 = .ok (.iconst 1, 1) := by decide +kernel
theorem dX6_event_43 : decode cX6_event 43 = .ok (.iaload, 1) := by decide +kernel
theorem dX6_event_44 : decode cX6_event 44 = .ok (.imul, 1) := by decide +kernel
theorem dX6_event_45 : decode cX6_event 45 = .ok (.if_icmp .ge 47, 3) := by decide +kernel
theorem dX6_event_48 : decode cX6_event 48 = .ok (.aload_n 0, 1) := by decide +kernel
theorem dX6_event_49 : decode cX6_event 49 = .ok (.iload_n 3, 1) := by decide +kernel
theorem dX6_event_50 : decode cX6_event 50 = .ok (.invokevirtual 57, 3) := by decide +kernel
theorem dX6_event_53 : decode cX6_event 53 = .ok (.ifCond .eq 39, 3) := by decide +kernel
theorem dX6_event_56 : decode cX6_event 56 = .ok (.iload 4, 2) := by decide +kernel
theorem dX6_event_58 : decode cX6_event 58 = .ok (.aload_n 0, 1) := by decide +kernel
theorem dX6_event_59 : decode cX6_event 59 = .ok (.iload 5, 2) := by decide +kernel
theorem dX6_event_61 : decode cX6_event 61 = .ok (.invokevirtual 57, 3) := by decide +kernel
theorem dX6_event_64 : decode cX6_event 64 = .ok (.ifCond .eq 18, 3) := by decide +kernel
theorem dX6_event_67 : decode cX6_event 67 = .ok (.aload_n 0, 1) := by decide +kernel
theorem dX6_event_68 : decode cX6_event 68 = .ok (.iload 5, 2) := by decide +kernel
theorem dX6_event_70 : decode cX6_event 70 = .ok (.iload_n 3, 1) := by decide +kernel
theorem dX6_event_71 : decode cX6_event 71 = .ok (.iconst 0, 1) := by decide +kernel
theorem dX6_event_72 : decode cX6_event 72 = .ok (.invokevirtual 61, 3) := by decide +kernel
theorem dX6_event_75 : decode cX6_event 75 = .ok (.ifCond .eq 7, 3) := by decide +kernel
theorem dX6_event_78 : decode cX6_event 78 = .ok (.iconst 1, 1) := by decide +kernel
theorem dX6_event_79 : decode cX6_event 79 = .ok (.goto 4, 3) := by decide +kernel
theorem dX6_event_82 : decode cX6_event 82 = .ok (.iconst 0, 1) := by decide +kernel
theorem dX6_event_83 : decode cX6_event 83 = .ok (.iadd, 1) := by decide +kernel
theorem dX6_event_84 : decode cX6_event 84 = .ok (.istore 4, 2) := by decide +kernel
theorem dX6_event_86 : decode cX6_event 86 = .ok (.iinc 5 1, 3) := by decide +kernel
theorem dX6_event_89 : decode cX6_event 89 = .ok (.goto (-54), 3) := by decide +kernel
theorem dX6_event_92 : decode cX6_event 92 = .ok (.aload_n 0, 1) := by decide +kernel
theorem dX6_event_93 : decode cX6_event 93 = .ok (.iload_n 3, 1) := by decide +kernel
theorem dX6_event_94 : decode cX6_event 94 = .ok (.invokevirtual 57, 3) := by decide +kernel
theorem dX6_event_97 : decode cX6_event 97 = .ok (.ifCond .eq 36, 3) := by decide +kernel
theorem dX6_event_100 : decode cX6_event 100 = .ok (.iload 4, 2) := by decide +kernel
theorem dX6_event_102 : decode cX6_event 102 = .ok (.iload_n 1, 1) := by decide +kernel
theorem dX6_event_103 : decode cX6_event 103 = .ok (.if_icmp .ne 30, 3) := by decide +kernel
theorem dX6_event_106 : decode cX6_event 106 = .ok (.iload_n 2, 1) := by decide +kernel
theorem dX6_event_107 : decode cX6_event 107 = .ok (.ifCond .ne 11, 3) := by decide +kernel
theorem dX6_event_110 : decode cX6_event 110 = .ok (.aload_n 0, 1) := by decide +kernel
theorem dX6_event_111 : decode cX6_event 111 = .ok (.iload_n 3, 1) := by decide +kernel
theorem dX6_event_112 : decode cX6_event 112 = .ok (.invokevirtual 53, 3) := by decide +kernel
theorem dX6_event_115 : decode cX6_event 115 = .ok (.goto 17, 3) := by decide +kernel
theorem dX6_event_118 : decode cX6_event 118 = .ok (.iload_n 2, 1) := by decide +kernel
theorem dX6_event_119 : decode cX6_event 119 = .ok (.iconst 1, 1) := by decide +kernel
theorem dX6_event_120 : decode cX6_event 120 = .ok (.if_icmp .ne 9, 3) := by decide +kernel
theorem dX6_event_123 : decode cX6_event 123 = .ok (.iload_n 3, 1) := by decide +kernel
theorem dX6_event_124 : decode cX6_event 124 = .ok (.iconst 4, 1) := by decide +kernel
theorem dX6_event_125 : decode cX6_event 125 = .ok (.idiv, 1) := by decide +kernel
theorem dX6_event_126 : decode cX6_event 126 = .ok (.goto 6, 3) := by decide +kernel
theorem dX6_event_129 : decode cX6_event 129 = .ok (.iload_n 3, 1) := by decide +kernel
theorem dX6_event_130 : decode cX6_event 130 = .ok (.iconst 4, 1) := by decide +kernel
theorem dX6_event_131 : decode cX6_event 131 = .ok (.irem, 1) := by decide +kernel
theorem dX6_event_132 : decode cX6_event 132 = .ok (.ireturn, 1) := by decide +kernel
theorem dX6_event_133 : decode cX6_event 133 = .ok (.iinc 3 1, 3) := by decide +kernel
theorem dX6_event_136 : decode cX6_event 136 = .ok (.goto (-119), 3) := by decide +kernel
theorem dX6_event_139 : decode cX6_event 139 = .ok (.bipush (-9), 2) := by decide +kernel
theorem dX6_event_141 : decode cX6_event 141 = .ok (.ireturn, 1) := by decide +kernel
theorem dX6_ends_0 : decode cX6_ends 0 = .ok (.aload_n 0, 1) := by decide +kernel
theorem dX6_ends_1 : decode cX6_ends 1 = .ok (.iload_n 1, 1) := by decide +kernel
theorem dX6_ends_2 : decode cX6_ends 2 = .ok (.iload_n 2, 1) := by decide +kernel
theorem dX6_ends_3 : decode cX6_ends 3 = .ok (.invokevirtual 127, 3) := by decide +kernel
theorem dX6_ends_6 : decode cX6_ends 6 = .ok (.istore_n 3, 1) := by decide +kernel
theorem dX6_ends_7 : decode cX6_ends 7 = .ok (.aload_n 0, 1) := by decide +kernel
theorem dX6_ends_8 : decode cX6_ends 8 = .ok (.iconst 3, 1) := by decide +kernel
theorem dX6_ends_9 : decode cX6_ends 9 = .ok (.invokevirtual 132, 3) := by decide +kernel
theorem dX6_ends_12 : decode cX6_ends 12 = .ok (.iload_n 3, 1) := by decide +kernel
theorem dX6_ends_13 : decode cX6_ends 13 = .ok (.ifCond .lt 19, 3) := by decide +kernel
theorem dX6_ends_16 : decode cX6_ends 16 = .ok (.aload_n 0, 1) := by decide +kernel
theorem dX6_ends_17 : decode cX6_ends 17 = .ok (.iload_n 1, 1) := by decide +kernel
theorem dX6_ends_18 : decode cX6_ends 18 = .ok (.invokevirtual 71, 3) := by decide +kernel
theorem dX6_ends_21 : decode cX6_ends 21 = .ok (.bipush (-9), 2) := by decide +kernel
theorem dX6_ends_23 : decode cX6_ends 23 = .ok (.if_icmp .ne 9, 3) := by decide +kernel
theorem dX6_ends_26 : decode cX6_ends 26 = .ok (.sipush 256, 3) := by decide +kernel
theorem dX6_ends_29 : decode cX6_ends 29 = .ok (.goto 4, 3) := by decide +kernel
theorem dX6_ends_32 : decode cX6_ends 32 = .ok (.iconst 0, 1) := by decide +kernel
theorem dX6_ends_33 : decode cX6_ends 33 = .ok (.iadd, 1) := by decide +kernel
theorem dX6_ends_34 : decode cX6_ends 34 = .ok (.ireturn, 1) := by decide +kernel
theorem dX6_outcome_0 : decode cX6_outcome 0 = .ok (.iload_n 1, 1) := by decide +kernel
theorem dX6_outcome_1 : decode cX6_outcome 1 = .ok (.iconst 0, 1) := by decide +kernel
theorem dX6_outcome_2 : decode cX6_outcome 2 = .ok (.iconst 1, 1) := by decide +kernel
theorem dX6_outcome_3 : decode cX6_outcome 3 = .ok (.invokestatic 33, 3) := by decide +kernel
theorem dX6_outcome_6 : decode cX6_outcome 6 = .ok (.ifCond .eq 14, 3) := by decide +kernel
theorem dX6_outcome_9 : decode cX6_outcome 9 = .ok (.iload_n 2, 1) := by decide +kernel
theorem dX6_outcome_10 : decode cX6_outcome 10 = .ok (.iconst 1, 1) := by decide +kernel
theorem dX6_outcome_11 : decode cX6_outcome 11 = .ok (.sipush 200, 3) := by decide +kernel
theorem dX6_outcome_14 : decode cX6_outcome 14 = .ok (.invokestatic 33, 3) := by decide +kernel
theorem dX6_outcome_17 : decode cX6_outcome 17 = .ok (.ifCond .ne 5, 3) := by decide +kernel
theorem dX6_outcome_20 : decode cX6_outcome 20 = .ok (.iconst (-1), 1) := by decide +kernel
theorem dX6_outcome_21 : decode cX6_outcome 21 = .ok (.ireturn, 1) := by decide +kernel
theorem dX6_outcome_22 : decode cX6_outcome 22 = .ok (.aload_n 0, 1) := by decide +kernel
theorem dX6_outcome_23 : decode cX6_outcome 23 = .ok (.invokevirtual 118, 3) := by decide +kernel
theorem dX6_outcome_26 : decode cX6_outcome 26 = .ok (.aload_n 0, 1) := by decide +kernel
theorem dX6_outcome_27 : decode cX6_outcome 27 = .ok (.iload_n 1, 1) := by decide +kernel
theorem dX6_outcome_28 : decode cX6_outcome 28 = .ok (.iconst 1, 1) := by decide +kernel
theorem dX6_outcome_29 : decode cX6_outcome 29 = .ok (.if_icmp .ne 7, 3) := by decide +kernel
theorem dX6_outcome_32 : decode cX6_outcome 32 = .ok (.iconst 1, 1) := by decide +kernel
theorem dX6_outcome_33 : decode cX6_outcome 33 = .ok (.goto 4, 3) := by decide +kernel
theorem dX6_outcome_36 : decode cX6_outcome 36 = .ok (.iconst 0, 1) := by decide +kernel
theorem dX6_outcome_37 : decode cX6_outcome 37 = .ok (.iload_n 2, 1) := by decide +kernel
theorem dX6_outcome_38 : decode cX6_outcome 38 = .ok (.invokevirtual 138, 3) := by decide +kernel
theorem dX6_outcome_41 : decode cX6_outcome 41 = .ok (.istore_n 3, 1) := by decide +kernel
theorem dX6_outcome_42 : decode cX6_outcome 42 = .ok (.aload_n 0, 1) := by decide +kernel
theorem dX6_outcome_43 : decode cX6_outcome 43 = .ok (.invokevirtual 141, 3) := by decide +kernel
theorem dX6_outcome_46 : decode cX6_outcome 46 = .ok (.iload_n 3, 1) := by decide +kernel
theorem dX6_outcome_47 : decode cX6_outcome 47 = .ok (.ireturn, 1) := by decide +kernel
theorem dX6_races_0 : decode cX6_races 0 = .ok (.iconst 0, 1) := by decide +kernel
theorem dX6_races_1 : decode cX6_races 1 = .ok (.istore_n 1, 1) := by decide +kernel
theorem dX6_races_2 : decode cX6_races 2 = .ok (.iload_n 1, 1) := by decide +kernel
theorem dX6_races_3 : decode cX6_races 3 = .ok (.sipush 203, 3) := by decide +kernel
theorem dX6_races_6 : decode cX6_races 6 = .ok (.if_icmp .ge 21, 3) := by decide +kernel
theorem dX6_races_9 : decode cX6_races 9 = .ok (.aload_n 0, 1) := by decide +kernel
theorem dX6_races_10 : decode cX6_races 10 = .ok (.getfield 19, 3) := by decide +kernel
theorem dX6_races_13 : decode cX6_races 13 = .ok (.iload_n 1, 1) := by decide +kernel
theorem dX6_races_14 : decode cX6_races 14 = .ok (.aload_n 0, 1) := by decide +kernel
theorem dX6_races_15 : decode cX6_races 15 = .ok (.getfield 7, 3) := by decide +kernel
theorem dX6_races_18 : decode cX6_races 18 = .ok (.iload_n 1, 1) := by decide +kernel
theorem dX6_races_19 : decode cX6_races 19 = .ok (.iaload, 1) := by decide +kernel
theorem dX6_races_20 : decode cX6_races 20 = .ok (.iastore, 1) := by decide +kernel
theorem dX6_races_21 : decode cX6_races 21 = .ok (.iinc 1 1, 3) := by decide +kernel
theorem dX6_races_24 : decode cX6_races 24 = .ok (.goto (-22), 3) := by decide +kernel
theorem dX6_races_27 : decode cX6_races 27 = .ok (.aload_n 0, 1) := by decide +kernel
theorem dX6_races_28 : decode cX6_races 28 = .ok (.iconst 0, 1) := by decide +kernel
theorem dX6_races_29 : decode cX6_races 29 = .ok (.sipush 200, 3) := by decide +kernel
theorem dX6_races_32 : decode cX6_races 32 = .ok (.invokevirtual 138, 3) := by decide +kernel
theorem dX6_races_35 : decode cX6_races 35 = .ok (.istore_n 1, 1) := by decide +kernel
theorem dX6_races_36 : decode cX6_races 36 = .ok (.iconst 0, 1) := by decide +kernel
theorem dX6_races_37 : decode cX6_races 37 = .ok (.istore_n 2, 1) := by decide +kernel
theorem dX6_races_38 : decode cX6_races 38 = .ok (.iload_n 2, 1) := by decide +kernel
theorem dX6_races_39 : decode cX6_races 39 = .ok (.sipush 203, 3) := by decide +kernel
theorem dX6_races_42 : decode cX6_races 42 = .ok (.if_icmp .ge 21, 3) := by decide +kernel
theorem dX6_races_45 : decode cX6_races 45 = .ok (.aload_n 0, 1) := by decide +kernel
theorem dX6_races_46 : decode cX6_races 46 = .ok (.getfield 7, 3) := by decide +kernel
theorem dX6_races_49 : decode cX6_races 49 = .ok (.iload_n 2, 1) := by decide +kernel
theorem dX6_races_50 : decode cX6_races 50 = .ok (.aload_n 0, 1) := by decide +kernel
theorem dX6_races_51 : decode cX6_races 51 = .ok (.getfield 19, 3) := by decide +kernel
theorem dX6_races_54 : decode cX6_races 54 = .ok (.iload_n 2, 1) := by decide +kernel
theorem dX6_races_55 : decode cX6_races 55 = .ok (.iaload, 1) := by decide +kernel
theorem dX6_races_56 : decode cX6_races 56 = .ok (.iastore, 1) := by decide +kernel
theorem dX6_races_57 : decode cX6_races 57 = .ok (.iinc 2 1, 3) := by decide +kernel
theorem dX6_races_60 : decode cX6_races 60 = .ok (.goto (-22), 3) := by decide +kernel
theorem dX6_races_63 : decode cX6_races 63 = .ok (.aload_n 0, 1) := by decide +kernel
theorem dX6_races_64 : decode cX6_races 64 = .ok (.iconst 1, 1) := by decide +kernel
theorem dX6_races_65 : decode cX6_races 65 = .ok (.sipush 200, 3) := by decide +kernel
theorem dX6_races_68 : decode cX6_races 68 = .ok (.invokevirtual 138, 3) := by decide +kernel
theorem dX6_races_71 : decode cX6_races 71 = .ok (.istore_n 2, 1) := by decide +kernel
theorem dX6_races_72 : decode cX6_races 72 = .ok (.iconst 0, 1) := by decide +kernel
theorem dX6_races_73 : decode cX6_races 73 = .ok (.istore_n 3, 1) := by decide +kernel
theorem dX6_races_74 : decode cX6_races 74 = .ok (.iload_n 3, 1) := by decide +kernel
theorem dX6_races_75 : decode cX6_races 75 = .ok (.sipush 203, 3) := by decide +kernel
theorem dX6_races_78 : decode cX6_races 78 = .ok (.if_icmp .ge 21, 3) := by decide +kernel
theorem dX6_races_81 : decode cX6_races 81 = .ok (.aload_n 0, 1) := by decide +kernel
theorem dX6_races_82 : decode cX6_races 82 = .ok (.getfield 7, 3) := by decide +kernel
theorem dX6_races_85 : decode cX6_races 85 = .ok (.iload_n 3, 1) := by decide +kernel
theorem dX6_races_86 : decode cX6_races 86 = .ok (.aload_n 0, 1) := by decide +kernel
theorem dX6_races_87 : decode cX6_races 87 = .ok (.getfield 19, 3) := by decide +kernel
theorem dX6_races_90 : decode cX6_races 90 = .ok (.iload_n 3, 1) := by decide +kernel
theorem dX6_races_91 : decode cX6_races 91 = .ok (.iaload, 1) := by decide +kernel
theorem dX6_races_92 : decode cX6_races 92 = .ok (.iastore, 1) := by decide +kernel
theorem dX6_races_93 : decode cX6_races 93 = .ok (.iinc 3 1, 3) := by decide +kernel
theorem dX6_races_96 : decode cX6_races 96 = .ok (.goto (-22), 3) := by decide +kernel
theorem dX6_races_99 : decode cX6_races 99 = .ok (.iload_n 1, 1) := by decide +kernel
theorem dX6_races_100 : decode cX6_races 100 = .ok (.iload_n 2, 1) := by decide +kernel
theorem dX6_races_101 : decode cX6_races 101 = .ok (.if_icmp .ne 7, 3) := by decide +kernel
theorem dX6_races_104 : decode cX6_races 104 = .ok (.iconst 0, 1) := by decide +kernel
theorem dX6_races_105 : decode cX6_races 105 = .ok (.goto 4, 3) := by decide +kernel
theorem dX6_races_108 : decode cX6_races 108 = .ok (.iconst 1, 1) := by decide +kernel
theorem dX6_races_109 : decode cX6_races 109 = .ok (.ireturn, 1) := by decide +kernel
theorem dX6_isRace_0 : decode cX6_isRace 0 = .ok (.aload_n 0, 1) := by decide +kernel
theorem dX6_isRace_1 : decode cX6_isRace 1 = .ok (.invokevirtual 144, 3) := by decide +kernel
theorem dX6_isRace_4 : decode cX6_isRace 4 = .ok (.ireturn, 1) := by decide +kernel
theorem dX6_raceBy_0 : decode cX6_raceBy 0 = .ok (.iload_n 1, 1) := by decide +kernel
theorem dX6_raceBy_1 : decode cX6_raceBy 1 = .ok (.iconst 0, 1) := by decide +kernel
theorem dX6_raceBy_2 : decode cX6_raceBy 2 = .ok (.bipush 7, 2) := by decide +kernel
theorem dX6_raceBy_4 : decode cX6_raceBy 4 = .ok (.invokestatic 33, 3) := by decide +kernel
theorem dX6_raceBy_7 : decode cX6_raceBy 7 = .ok (.ifCond .ne 5, 3) := by decide +kernel
theorem dX6_raceBy_10 : decode cX6_raceBy 10 = .ok (.iconst (-1), 1) := by decide +kernel
theorem dX6_raceBy_11 : decode cX6_raceBy 11 = .ok (.ireturn, 1) := by decide +kernel
theorem dX6_raceBy_12 : decode cX6_raceBy 12 = .ok (.aload_n 0, 1) := by decide +kernel
theorem dX6_raceBy_13 : decode cX6_raceBy 13 = .ok (.invokevirtual 118, 3) := by decide +kernel
theorem dX6_raceBy_16 : decode cX6_raceBy 16 = .ok (.aload_n 0, 1) := by decide +kernel
theorem dX6_raceBy_17 : decode cX6_raceBy 17 = .ok (.getfield 7, 3) := by decide +kernel
theorem dX6_raceBy_20 : decode cX6_raceBy 20 = .ok (.iconst 0, 1) := by decide +kernel
theorem dX6_raceBy_21 : decode cX6_raceBy 21 = .ok (.dup2, 1) := by decide +kernel
theorem dX6_raceBy_22 : decode cX6_raceBy 22 = .ok (.iaload, 1) := by decide +kernel
theorem dX6_raceBy_23 : decode cX6_raceBy 23 = .ok (.iconst 1, 1) := by decide +kernel
theorem dX6_raceBy_24 : decode cX6_raceBy 24 = .ok (.iload_n 1, 1) := by decide +kernel
theorem dX6_raceBy_25 : decode cX6_raceBy 25 = .ok (.ishl, 1) := by decide +kernel
theorem dX6_raceBy_26 : decode cX6_raceBy 26 = .ok (.ixor, 1) := by decide +kernel
theorem dX6_raceBy_27 : decode cX6_raceBy 27 = .ok (.iastore, 1) := by decide +kernel
theorem dX6_raceBy_28 : decode cX6_raceBy 28 = .ok (.aload_n 0, 1) := by decide +kernel
theorem dX6_raceBy_29 : decode cX6_raceBy 29 = .ok (.dup, 1) := by decide +kernel
theorem dX6_raceBy_30 : decode cX6_raceBy 30 = .ok (.getfield 65, 3) := by decide +kernel
theorem dX6_raceBy_33 : decode cX6_raceBy 33 = .ok (.aload_n 0, 1) := by decide +kernel
theorem dX6_raceBy_34 : decode cX6_raceBy 34 = .ok (.invokevirtual 68, 3) := by decide +kernel
theorem dX6_raceBy_37 : decode cX6_raceBy 37 = .ok (.iadd, 1) := by decide +kernel
theorem dX6_raceBy_38 : decode cX6_raceBy 38 = .ok (.putfield 65, 3) := by decide +kernel
theorem dX6_raceBy_41 : decode cX6_raceBy 41 = .ok (.aload_n 0, 1) := by decide +kernel
theorem dX6_raceBy_42 : decode cX6_raceBy 42 = .ok (.invokevirtual 144, 3) := by decide +kernel
theorem dX6_raceBy_45 : decode cX6_raceBy 45 = .ok (.istore_n 2, 1) := by decide +kernel
theorem dX6_raceBy_46 : decode cX6_raceBy 46 = .ok (.aload_n 0, 1) := by decide +kernel
theorem dX6_raceBy_47 : decode cX6_raceBy 47 = .ok (.invokevirtual 141, 3) := by decide +kernel
theorem dX6_raceBy_50 : decode cX6_raceBy 50 = .ok (.iload_n 2, 1) := by decide +kernel
theorem dX6_raceBy_51 : decode cX6_raceBy 51 = .ok (.ireturn, 1) := by decide +kernel
theorem dX6_hazards_0 : decode cX6_hazards 0 = .ok (.iload_n 1, 1) := by decide +kernel
theorem dX6_hazards_1 : decode cX6_hazards 1 = .ok (.iconst 0, 1) := by decide +kernel
theorem dX6_hazards_2 : decode cX6_hazards 2 = .ok (.bipush 7, 2) := by decide +kernel
theorem dX6_hazards_4 : decode cX6_hazards 4 = .ok (.invokestatic 33, 3) := by decide +kernel
theorem dX6_hazards_7 : decode cX6_hazards 7 = .ok (.ifCond .ne 5, 3) := by decide +kernel
theorem dX6_hazards_10 : decode cX6_hazards 10 = .ok (.iconst (-1), 1) := by decide +kernel
theorem dX6_hazards_11 : decode cX6_hazards 11 = .ok (.ireturn, 1) := by decide +kernel
theorem dX6_hazards_12 : decode cX6_hazards 12 = .ok (.aload_n 0, 1) := by decide +kernel
theorem dX6_hazards_13 : decode cX6_hazards 13 = .ok (.invokevirtual 118, 3) := by decide +kernel
theorem dX6_hazards_16 : decode cX6_hazards 16 = .ok (.aload_n 0, 1) := by decide +kernel
theorem dX6_hazards_17 : decode cX6_hazards 17 = .ok (.iconst 4, 1) := by decide +kernel
theorem dX6_hazards_18 : decode cX6_hazards 18 = .ok (.invokevirtual 132, 3) := by decide +kernel
theorem dX6_hazards_21 : decode cX6_hazards 21 = .ok (.istore_n 2, 1) := by decide +kernel
theorem dX6_hazards_22 : decode cX6_hazards 22 = .ok (.aload_n 0, 1) := by decide +kernel
theorem dX6_hazards_23 : decode cX6_hazards 23 = .ok (.getfield 7, 3) := by decide +kernel
theorem dX6_hazards_26 : decode cX6_hazards 26 = .ok (.iconst 0, 1) := by decide +kernel
theorem dX6_hazards_27 : decode cX6_hazards 27 = .ok (.dup2, 1) := by decide +kernel
theorem dX6_hazards_28 : decode cX6_hazards 28 = .ok (.iaload, 1) := by decide +kernel
theorem dX6_hazards_29 : decode cX6_hazards 29 = .ok (.iconst 1, 1) := by decide +kernel
theorem dX6_hazards_30 : decode cX6_hazards 30 = .ok (.iload_n 1, 1) := by decide +kernel
theorem dX6_hazards_31 : decode cX6_hazards 31 = .ok (.ishl, 1) := by decide +kernel
theorem dX6_hazards_32 : decode cX6_hazards 32 = .ok (.ixor, 1) := by decide +kernel
theorem dX6_hazards_33 : decode cX6_hazards 33 = .ok (.iastore, 1) := by decide +kernel
theorem dX6_hazards_34 : decode cX6_hazards 34 = .ok (.aload_n 0, 1) := by decide +kernel
theorem dX6_hazards_35 : decode cX6_hazards 35 = .ok (.dup, 1) := by decide +kernel
theorem dX6_hazards_36 : decode cX6_hazards 36 = .ok (.getfield 65, 3) := by decide +kernel
theorem dX6_hazards_39 : decode cX6_hazards 39 = .ok (.aload_n 0, 1) := by decide +kernel
theorem dX6_hazards_40 : decode cX6_hazards 40 = .ok (.invokevirtual 68, 3) := by decide +kernel
theorem dX6_hazards_43 : decode cX6_hazards 43 = .ok (.iadd, 1) := by decide +kernel
theorem dX6_hazards_44 : decode cX6_hazards 44 = .ok (.putfield 65, 3) := by decide +kernel
theorem dX6_hazards_47 : decode cX6_hazards 47 = .ok (.aload_n 0, 1) := by decide +kernel
theorem dX6_hazards_48 : decode cX6_hazards 48 = .ok (.iconst 4, 1) := by decide +kernel
theorem dX6_hazards_49 : decode cX6_hazards 49 = .ok (.invokevirtual 132, 3) := by decide +kernel
theorem dX6_hazards_52 : decode cX6_hazards 52 = .ok (.istore_n 3, 1) := by decide +kernel
theorem dX6_hazards_53 : decode cX6_hazards 53 = .ok (.iconst 0, 1) := by decide +kernel
theorem dX6_hazards_54 : decode cX6_hazards 54 = .ok (.istore 4, 2) := by decide +kernel
theorem dX6_hazards_56 : decode cX6_hazards 56 = .ok (.aload_n 0, 1) := by decide +kernel
theorem dX6_hazards_57 : decode cX6_hazards 57 = .ok (.iconst 0, 1) := by decide +kernel
theorem dX6_hazards_58 : decode cX6_hazards 58 = .ok (.invokevirtual 71, 3) := by decide +kernel
theorem dX6_hazards_61 : decode cX6_hazards 61 = .ok (.istore 5, 2) := by decide +kernel
theorem dX6_hazards_63 : decode cX6_hazards 63 = .ok (.iload 4, 2) := by decide +kernel
theorem dX6_hazards_65 : decode cX6_hazards 65 = .ok (.sipush 200, 3) := by decide +kernel
theorem dX6_hazards_68 : decode cX6_hazards 68 = .ok (.if_icmp .ge 37, 3) := by decide +kernel
theorem dX6_hazards_71 : decode cX6_hazards 71 = .ok (.iload 5, 2) := by decide +kernel
theorem dX6_hazards_73 : decode cX6_hazards 73 = .ok (.bipush (-9), 2) := by decide +kernel
theorem dX6_hazards_75 : decode cX6_hazards 75 = .ok (.if_icmp .eq 30, 3) := by decide +kernel
theorem dX6_hazards_78 : decode cX6_hazards 78 = .ok (.aload_n 0, 1) := by decide +kernel
theorem dX6_hazards_79 : decode cX6_hazards 79 = .ok (.iload 5, 2) := by decide +kernel
theorem dX6_hazards_81 : decode cX6_hazards 81 = .ok (.invokevirtual 75, 3) := by decide +kernel
theorem dX6_hazards_84 : decode cX6_hazards 84 = .ok (.iload_n 3, 1) := by decide +kernel
theorem dX6_hazards_85 : decode cX6_hazards 85 = .ok (.aload_n 0, 1) := by decide +kernel
theorem dX6_hazards_86 : decode cX6_hazards 86 = .ok (.iconst 4, 1) := by decide +kernel
theorem dX6_hazards_87 : decode cX6_hazards 87 = .ok (.invokevirtual 132, 3) := by decide +kernel
theorem dX6_hazards_90 : decode cX6_hazards 90 = .ok (.iand, 1) := by decide +kernel
theorem dX6_hazards_91 : decode cX6_hazards 91 = .ok (.istore_n 3, 1) := by decide +kernel
theorem dX6_hazards_92 : decode cX6_hazards 92 = .ok (.iinc 4 1, 3) := by decide +kernel
theorem dX6_hazards_95 : decode cX6_hazards 95 = .ok (.aload_n 0, 1) := by decide +kernel
theorem dX6_hazards_96 : decode cX6_hazards 96 = .ok (.iconst 0, 1) := by decide +kernel
theorem dX6_hazards_97 : decode cX6_hazards 97 = .ok (.invokevirtual 71, 3) := by decide +kernel
theorem dX6_hazards_100 : decode cX6_hazards 100 = .ok (.istore 5, 2) := by decide +kernel
theorem dX6_hazards_102 : decode cX6_hazards 102 = .ok (.goto (-39), 3) := by decide +kernel
theorem dX6_hazards_105 : decode cX6_hazards 105 = .ok (.aload_n 0, 1) := by decide +kernel
theorem dX6_hazards_106 : decode cX6_hazards 106 = .ok (.iconst 0, 1) := by decide +kernel
theorem dX6_hazards_107 : decode cX6_hazards 107 = .ok (.invokevirtual 71, 3) := by decide +kernel
theorem dX6_hazards_110 : decode cX6_hazards 110 = .ok (.bipush (-9), 2) := by decide +kernel
theorem dX6_hazards_112 : decode cX6_hazards 112 = .ok (.if_icmp .ne 17, 3) := by decide +kernel
theorem dX6_hazards_115 : decode cX6_hazards 115 = .ok (.iload_n 2, 1) := by decide +kernel
theorem dX6_hazards_116 : decode cX6_hazards 116 = .ok (.aload_n 0, 1) := by decide +kernel
theorem dX6_hazards_117 : decode cX6_hazards 117 = .ok (.iconst 4, 1) := by decide +kernel
theorem dX6_hazards_118 : decode cX6_hazards 118 = .ok (.invokevirtual 132, 3) := by decide +kernel
theorem dX6_hazards_121 : decode cX6_hazards 121 = .ok (.iand, 1) := by decide +kernel
theorem dX6_hazards_122 : decode cX6_hazards 122 = .ok (.iload_n 3, 1) := by decide +kernel
theorem dX6_hazards_123 : decode cX6_hazards 123 = .ok (.iconst (-1), 1) := by decide +kernel
theorem dX6_hazards_124 : decode cX6_hazards 124 = .ok (.ixor, 1) := by decide +kernel
theorem dX6_hazards_125 : decode cX6_hazards 125 = .ok (.iand, 1) := by decide +kernel
theorem dX6_hazards_126 : decode cX6_hazards 126 = .ok (.goto 5, 3) := by decide +kernel
theorem dX6_hazards_129 : decode cX6_hazards 129 = .ok (.bipush (-9), 2) := by decide +kernel
theorem dX6_hazards_131 : decode cX6_hazards 131 = .ok (.istore 5, 2) := by decide +kernel
theorem dX6_hazards_133 : decode cX6_hazards 133 = .ok (.aload_n 0, 1) := by decide +kernel
theorem dX6_hazards_134 : decode cX6_hazards 134 = .ok (.invokevirtual 141, 3) := by decide +kernel
theorem dX6_hazards_137 : decode cX6_hazards 137 = .ok (.iload 5, 2) := by decide +kernel
theorem dX6_hazards_139 : decode cX6_hazards 139 = .ok (.ireturn, 1) := by decide +kernel
theorem dX6_stableStates_0 : decode cX6_stableStates 0 = .ok (.iconst 0, 1) := by decide +kernel
theorem dX6_stableStates_1 : decode cX6_stableStates 1 = .ok (.istore_n 1, 1) := by decide +kernel
theorem dX6_stableStates_2 : decode cX6_stableStates 2 = .ok (.iconst 0, 1) := by decide +kernel
theorem dX6_stableStates_3 : decode cX6_stableStates 3 = .ok (.istore_n 2, 1) := by decide +kernel
theorem dX6_stableStates_4 : decode cX6_stableStates 4 = .ok (.iload_n 2, 1) := by decide +kernel
theorem dX6_stableStates_5 : decode cX6_stableStates 5 = .ok (.iconst 1, 1) := by decide +kernel
theorem dX6_stableStates_6 : decode cX6_stableStates 6 = .ok (.aload_n 0, 1) := by decide +kernel
theorem dX6_stableStates_7 : decode cX6_stableStates 7 = .ok (.getfield 7, 3) := by decide +kernel
theorem dX6_stableStates_10 : decode cX6_stableStates 10 = .ok (.iconst 1, 1) := by decide +kernel
theorem dX6_stableStates_11 : decode cX6_stableStates 11 = .ok (.iaload, 1) := by decide +kernel
theorem dX6_stableStates_12 : decode cX6_stableStates 12 = .ok (.ishl, 1) := by decide +kernel
theorem dX6_stableStates_13 : decode cX6_stableStates 13 = .ok (.if_icmp .ge 25, 3) := by decide +kernel
theorem dX6_stableStates_16 : decode cX6_stableStates 16 = .ok (.iload_n 1, 1) := by decide +kernel
theorem dX6_stableStates_17 : decode cX6_stableStates 17 = .ok (.aload_n 0, 1) := by decide +kernel
theorem dX6_stableStates_18 : decode cX6_stableStates 18 = .ok (.iload_n 2, 1) := by decide +kernel
theorem dX6_stableStates_19 : decode cX6_stableStates 19 = .ok (.invokevirtual 147, 3) := by decide +kernel
theorem dX6_stableStates_22 : decode cX6_stableStates 22 = .ok (.ifCond .eq 7, 3) := by decide +kernel
theorem dX6_stableStates_25 : decode cX6_stableStates 25 = .ok (.iconst 1, 1) := by decide +kernel
theorem dX6_stableStates_26 : decode cX6_stableStates 26 = .ok (.goto 4, 3) := by decide +kernel
theorem dX6_stableStates_29 : decode cX6_stableStates 29 = .ok (.iconst 0, 1) := by decide +kernel
theorem dX6_stableStates_30 : decode cX6_stableStates 30 = .ok (.iadd, 1) := by decide +kernel
theorem dX6_stableStates_31 : decode cX6_stableStates 31 = .ok (.istore_n 1, 1) := by decide +kernel
theorem dX6_stableStates_32 : decode cX6_stableStates 32 = .ok (.iinc 2 1, 3) := by decide +kernel
theorem dX6_stableStates_35 : decode cX6_stableStates 35 = .ok (.goto (-31), 3) := by decide +kernel
theorem dX6_stableStates_38 : decode cX6_stableStates 38 = .ok (.iload_n 1, 1) := by decide +kernel
theorem dX6_stableStates_39 : decode cX6_stableStates 39 = .ok (.ireturn, 1) := by decide +kernel
theorem dX6_isStable_0 : decode cX6_isStable 0 = .ok (.iconst 0, 1) := by decide +kernel
theorem dX6_isStable_1 : decode cX6_isStable 1 = .ok (.istore_n 2, 1) := by decide +kernel
theorem dX6_isStable_2 : decode cX6_isStable 2 = .ok (.iconst 1, 1) := by decide +kernel
theorem dX6_isStable_3 : decode cX6_isStable 3 = .ok (.istore_n 3, 1) := by decide +kernel
theorem dX6_isStable_4 : decode cX6_isStable 4 = .ok (.iconst 0, 1) := by decide +kernel
theorem dX6_isStable_5 : decode cX6_isStable 5 = .ok (.istore 4, 2) := by decide +kernel
theorem dX6_isStable_7 : decode cX6_isStable 7 = .ok (.iload 4, 2) := by decide +kernel
theorem dX6_isStable_9 : decode cX6_isStable 9 = .ok (.aload_n 0, 1) := by decide +kernel
theorem dX6_isStable_10 : decode cX6_isStable 10 = .ok (.getfield 7, 3) := by decide +kernel
theorem dX6_isStable_13 : decode cX6_isStable 13 = .ok (.iconst 1, 1) := by decide +kernel
theorem dX6_isStable_14 : decode cX6_isStable 14 = .ok (.iaload, 1) := by decide +kernel
theorem dX6_isStable_15 : decode cX6_isStable 15 = .ok (.if_icmp .ge 90, 3) := by decide +kernel
theorem dX6_isStable_18 : decode cX6_isStable 18 = .ok (.iload_n 1, 1) := by decide +kernel
theorem dX6_isStable_19 : decode cX6_isStable 19 = .ok (.iload 4, 2) := by decide +kernel
theorem dX6_isStable_21 : decode cX6_isStable 21 = .ok (.ishr, 1) := by decide +kernel
theorem dX6_isStable_22 : decode cX6_isStable 22 = .ok (.iconst 1, 1) := by decide +kernel
theorem dX6_isStable_23 : decode cX6_isStable 23 = .ok (.iand, 1) := by decide +kernel
theorem dX6_isStable_24 : decode cX6_isStable 24 = .ok (.istore 5, 2) := by decide +kernel
theorem dX6_isStable_26 : decode cX6_isStable 26 = .ok (.iload_n 3, 1) := by decide +kernel
theorem dX6_isStable_27 : decode cX6_isStable 27 = .ok (.ifCond .eq 30, 3) := by decide +kernel
theorem dX6_isStable_30 : decode cX6_isStable 30 = .ok (.aload_n 0, 1) := by decide +kernel
theorem dX6_isStable_31 : decode cX6_isStable 31 = .ok (.iload 4, 2) := by decide +kernel
theorem dX6_isStable_33 : decode cX6_isStable 33 = .ok (.bipush 7, 2) := by decide +kernel
theorem dX6_isStable_35 : decode cX6_isStable 35 = .ok (.invokevirtual 37, 3) := by decide +kernel
theorem dX6_isStable_38 : decode cX6_isStable 38 = .ok (.ifCond .eq 15, 3) := by decide +kernel
theorem dX6_isStable_41 : decode cX6_isStable 41 = .ok (.aload_n 0, 1) := by decide +kernel
theorem dX6_isStable_42 : decode cX6_isStable 42 = .ok (.iload 4, 2) := by decide +kernel
theorem dX6_isStable_44 : decode cX6_isStable 44 = .ok (.iconst 3, 1) := by decide +kernel
theorem dX6_isStable_45 : decode cX6_isStable 45 = .ok (.invokevirtual 37, 3) := by decide +kernel
theorem dX6_isStable_48 : decode cX6_isStable 48 = .ok (.iload 5, 2) := by decide +kernel
theorem dX6_isStable_50 : decode cX6_isStable 50 = .ok (.if_icmp .ne 7, 3) := by decide +kernel
theorem dX6_isStable_53 : decode cX6_isStable 53 = .ok (.iconst 1, 1) := by decide +kernel
theorem dX6_isStable_54 : decode cX6_isStable 54 = .ok (.goto 4, 3) := by decide +kernel
theorem dX6_isStable_57 : decode cX6_isStable 57 = .ok (.iconst 0, 1) := by decide +kernel
theorem dX6_isStable_58 : decode cX6_isStable 58 = .ok (.istore_n 3, 1) := by decide +kernel
theorem dX6_isStable_59 : decode cX6_isStable 59 = .ok (.iload_n 2, 1) := by decide +kernel
theorem dX6_isStable_60 : decode cX6_isStable 60 = .ok (.aload_n 0, 1) := by decide +kernel
theorem dX6_isStable_61 : decode cX6_isStable 61 = .ok (.iload 4, 2) := by decide +kernel
theorem dX6_isStable_63 : decode cX6_isStable 63 = .ok (.bipush 6, 2) := by decide +kernel
theorem dX6_isStable_65 : decode cX6_isStable 65 = .ok (.invokevirtual 37, 3) := by decide +kernel
theorem dX6_isStable_68 : decode cX6_isStable 68 = .ok (.iconst 2, 1) := by decide +kernel
theorem dX6_isStable_69 : decode cX6_isStable 69 = .ok (.if_icmp .eq 20, 3) := by decide +kernel
theorem dX6_isStable_72 : decode cX6_isStable 72 = .ok (.aload_n 0, 1) := by decide +kernel
theorem dX6_isStable_73 : decode cX6_isStable 73 = .ok (.iload 4, 2) := by decide +kernel
theorem dX6_isStable_75 : decode cX6_isStable 75 = .ok (.bipush 6, 2) := by decide +kernel
theorem dX6_isStable_77 : decode cX6_isStable 77 = .ok (.invokevirtual 37, 3) := by decide +kernel
theorem dX6_isStable_80 : decode cX6_isStable 80 = .ok (.ifCond .ne 16, 3) := by decide +kernel
theorem dX6_isStable_83 : decode cX6_isStable 83 = .ok (.iload 5, 2) := by decide +kernel
theorem dX6_isStable_85 : decode cX6_isStable 85 = .ok (.iconst 1, 1) := by decide +kernel
theorem dX6_isStable_86 : decode cX6_isStable 86 = .ok (.if_icmp .ne 10, 3) := by decide +kernel
theorem dX6_isStable_89 : decode cX6_isStable 89 = .ok (.iconst 1, 1) := by decide +kernel
theorem dX6_isStable_90 : decode cX6_isStable 90 = .ok (.iload 4, 2) := by decide +kernel
theorem dX6_isStable_92 : decode cX6_isStable 92 = .ok (.ishl, 1) := by decide +kernel
theorem dX6_isStable_93 : decode cX6_isStable 93 = .ok (.goto 4, 3) := by decide +kernel
theorem dX6_isStable_96 : decode cX6_isStable 96 = .ok (.iconst 0, 1) := by decide +kernel
theorem dX6_isStable_97 : decode cX6_isStable 97 = .ok (.ior, 1) := by decide +kernel
theorem dX6_isStable_98 : decode cX6_isStable 98 = .ok (.istore_n 2, 1) := by decide +kernel
theorem dX6_isStable_99 : decode cX6_isStable 99 = .ok (.iinc 4 1, 3) := by decide +kernel
theorem dX6_isStable_102 : decode cX6_isStable 102 = .ok (.goto (-95), 3) := by decide +kernel
theorem dX6_isStable_105 : decode cX6_isStable 105 = .ok (.iconst 0, 1) := by decide +kernel
theorem dX6_isStable_106 : decode cX6_isStable 106 = .ok (.istore 4, 2) := by decide +kernel
theorem dX6_isStable_108 : decode cX6_isStable 108 = .ok (.iload 4, 2) := by decide +kernel
theorem dX6_isStable_110 : decode cX6_isStable 110 = .ok (.aload_n 0, 1) := by decide +kernel
theorem dX6_isStable_111 : decode cX6_isStable 111 = .ok (.getfield 7, 3) := by decide +kernel
theorem dX6_isStable_114 : decode cX6_isStable 114 = .ok (.iconst 1, 1) := by decide +kernel
theorem dX6_isStable_115 : decode cX6_isStable 115 = .ok (.iaload, 1) := by decide +kernel
theorem dX6_isStable_116 : decode cX6_isStable 116 = .ok (.if_icmp .ge 66, 3) := by decide +kernel
theorem dX6_isStable_119 : decode cX6_isStable 119 = .ok (.iload_n 3, 1) := by decide +kernel
theorem dX6_isStable_120 : decode cX6_isStable 120 = .ok (.ifCond .eq 62, 3) := by decide +kernel
theorem dX6_isStable_123 : decode cX6_isStable 123 = .ok (.aload_n 0, 1) := by decide +kernel
theorem dX6_isStable_124 : decode cX6_isStable 124 = .ok (.iload 4, 2) := by decide +kernel
theorem dX6_isStable_126 : decode cX6_isStable 126 = .ok (.bipush 7, 2) := by decide +kernel
theorem dX6_isStable_128 : decode cX6_isStable 128 = .ok (.invokevirtual 37, 3) := by decide +kernel
theorem dX6_isStable_131 : decode cX6_isStable 131 = .ok (.iconst 1, 1) := by decide +kernel
theorem dX6_isStable_132 : decode cX6_isStable 132 = .ok (.if_icmp .eq 38, 3) := by decide +kernel
theorem dX6_isStable_135 : decode cX6_isStable 135 = .ok (.aload_n 0, 1) := by decide +kernel
theorem dX6_isStable_136 : decode cX6_isStable 136 = .ok (.iload 4, 2) := by decide +kernel
theorem dX6_isStable_138 : decode cX6_isStable 138 = .ok (.aload_n 0, 1) := by decide +kernel
theorem dX6_isStable_139 : decode cX6_isStable 139 = .ok (.getfield 7, 3) := by decide +kernel
theorem dX6_isStable_142 : decode cX6_isStable 142 = .ok (.iconst 0, 1) := by decide +kernel
theorem dX6_isStable_143 : decode cX6_isStable 143 = .ok (.iaload, 1) := by decide +kernel
theorem dX6_isStable_144 : decode cX6_isStable 144 = .ok (.iload_n 2, 1) := by decide +kernel
theorem dX6_isStable_145 : decode cX6_isStable 145 = .ok (.bipush 8, 2) := by decide +kernel
theorem dX6_isStable_147 : decode cX6_isStable 147 = .ok (.ishl, 1) := by decide +kernel
theorem dX6_isStable_148 : decode cX6_isStable 148 = .ok (.ior, 1) := by decide +kernel
theorem dX6_isStable_149 : decode cX6_isStable 149 = .ok (.invokevirtual 45, 3) := by decide +kernel
theorem dX6_isStable_152 : decode cX6_isStable 152 = .ok (.iload_n 1, 1) := by decide +kernel
theorem dX6_isStable_153 : decode cX6_isStable 153 = .ok (.iload 4, 2) := by decide +kernel
theorem dX6_isStable_155 : decode cX6_isStable 155 = .ok (.ishr, 1) := by decide +kernel
theorem dX6_isStable_156 : decode cX6_isStable 156 = .ok (.iconst 1, 1) := by decide +kernel
theorem dX6_isStable_157 : decode cX6_isStable 157 = .ok (.iand, 1) := by decide +kernel
theorem dX6_isStable_158 : decode cX6_isStable 158 = .ok (.iconst 1, 1) := by decide +kernel
theorem dX6_isStable_159 : decode cX6_isStable 159 = .ok (.if_icmp .ne 7, 3) := by decide +kernel
theorem dX6_isStable_162 : decode cX6_isStable 162 = .ok (.iconst 1, 1) := by decide +kernel
theorem dX6_isStable_163 : decode cX6_isStable 163 = .ok (.goto 4, 3) := by decide +kernel
theorem dX6_isStable_166 : decode cX6_isStable 166 = .ok (.iconst 0, 1) := by decide +kernel
theorem dX6_isStable_167 : decode cX6_isStable 167 = .ok (.if_icmp .ne 7, 3) := by decide +kernel
theorem dX6_isStable_170 : decode cX6_isStable 170 = .ok (.iconst 1, 1) := by decide +kernel
theorem dX6_isStable_171 : decode cX6_isStable 171 = .ok (.goto 4, 3) := by decide +kernel
theorem dX6_isStable_174 : decode cX6_isStable 174 = .ok (.iconst 0, 1) := by decide +kernel
theorem dX6_isStable_175 : decode cX6_isStable 175 = .ok (.istore_n 3, 1) := by decide +kernel
theorem dX6_isStable_176 : decode cX6_isStable 176 = .ok (.iinc 4 1, 3) := by decide +kernel
theorem dX6_isStable_179 : decode cX6_isStable 179 = .ok (.goto (-71), 3) := by decide +kernel
theorem dX6_isStable_182 : decode cX6_isStable 182 = .ok (.iload_n 3, 1) := by decide +kernel
theorem dX6_isStable_183 : decode cX6_isStable 183 = .ok (.ireturn, 1) := by decide +kernel
theorem dX6_explain_0 : decode cX6_explain 0 = .ok (.iload_n 1, 1) := by decide +kernel
theorem dX6_explain_1 : decode cX6_explain 1 = .ok (.iconst 0, 1) := by decide +kernel
theorem dX6_explain_2 : decode cX6_explain 2 = .ok (.sipush 255, 3) := by decide +kernel
theorem dX6_explain_5 : decode cX6_explain 5 = .ok (.invokestatic 33, 3) := by decide +kernel
theorem dX6_explain_8 : decode cX6_explain 8 = .ok (.ifCond .ne 5, 3) := by decide +kernel
theorem dX6_explain_11 : decode cX6_explain 11 = .ok (.iconst (-1), 1) := by decide +kernel
theorem dX6_explain_12 : decode cX6_explain 12 = .ok (.ireturn, 1) := by decide +kernel
theorem dX6_explain_13 : decode cX6_explain 13 = .ok (.aload_n 0, 1) := by decide +kernel
theorem dX6_explain_14 : decode cX6_explain 14 = .ok (.invokevirtual 118, 3) := by decide +kernel
theorem dX6_explain_17 : decode cX6_explain 17 = .ok (.iconst 0, 1) := by decide +kernel
theorem dX6_explain_18 : decode cX6_explain 18 = .ok (.istore_n 2, 1) := by decide +kernel
theorem dX6_explain_19 : decode cX6_explain 19 = .ok (.iconst 0, 1) := by decide +kernel
theorem dX6_explain_20 : decode cX6_explain 20 = .ok (.istore_n 3, 1) := by decide +kernel
theorem dX6_explain_21 : decode cX6_explain 21 = .ok (.iload_n 3, 1) := by decide +kernel
theorem dX6_explain_22 : decode cX6_explain 22 = .ok (.iconst 2, 1) := by decide +kernel
theorem dX6_explain_23 : decode cX6_explain 23 = .ok (.aload_n 0, 1) := by decide +kernel
theorem dX6_explain_24 : decode cX6_explain 24 = .ok (.getfield 7, 3) := by decide +kernel
theorem dX6_explain_27 : decode cX6_explain 27 = .ok (.iconst 1, 1) := by decide +kernel
theorem dX6_explain_28 : decode cX6_explain 28 = .ok (.iaload, 1) := by decide +kernel
theorem dX6_explain_29 : decode cX6_explain 29 = .ok (.imul, 1) := by decide +kernel
theorem dX6_explain_30 : decode cX6_explain 30 = .ok (.if_icmp .ge 78, 3) := by decide +kernel
theorem dX6_explain_33 : decode cX6_explain 33 = .ok (.aload_n 0, 1) := by decide +kernel
theorem dX6_explain_34 : decode cX6_explain 34 = .ok (.iload_n 3, 1) := by decide +kernel
theorem dX6_explain_35 : decode cX6_explain 35 = .ok (.iconst 2, 1) := by decide +kernel
theorem dX6_explain_36 : decode cX6_explain 36 = .ok (.idiv, 1) := by decide +kernel
theorem dX6_explain_37 : decode cX6_explain 37 = .ok (.bipush 6, 2) := by decide +kernel
theorem dX6_explain_39 : decode cX6_explain 39 = .ok (.invokevirtual 37, 3) := by decide +kernel
theorem dX6_explain_42 : decode cX6_explain 42 = .ok (.ifCond .ne 60, 3) := by decide +kernel
theorem dX6_explain_45 : decode cX6_explain 45 = .ok (.aload_n 0, 1) := by decide +kernel
theorem dX6_explain_46 : decode cX6_explain 46 = .ok (.iload_n 3, 1) := by decide +kernel
theorem dX6_explain_47 : decode cX6_explain 47 = .ok (.iconst 2, 1) := by decide +kernel
theorem dX6_explain_48 : decode cX6_explain 48 = .ok (.idiv, 1) := by decide +kernel
theorem dX6_explain_49 : decode cX6_explain 49 = .ok (.bipush 6, 2) := by decide +kernel
theorem dX6_explain_51 : decode cX6_explain 51 = .ok (.iconst 1, 1) := by decide +kernel
theorem dX6_explain_52 : decode cX6_explain 52 = .ok (.iload_n 3, 1) := by decide +kernel
theorem dX6_explain_53 : decode cX6_explain 53 = .ok (.iconst 2, 1) := by decide +kernel
theorem dX6_explain_54 : decode cX6_explain 54 = .ok (.irem, 1) := by decide +kernel
theorem dX6_explain_55 : decode cX6_explain 55 = .ok (.iadd, 1) := by decide +kernel
theorem dX6_explain_56 : decode cX6_explain 56 = .ok (.invokevirtual 49, 3) := by decide +kernel
theorem dX6_explain_59 : decode cX6_explain 59 = .ok (.aload_n 0, 1) := by decide +kernel
theorem dX6_explain_60 : decode cX6_explain 60 = .ok (.dup, 1) := by decide +kernel
theorem dX6_explain_61 : decode cX6_explain 61 = .ok (.getfield 65, 3) := by decide +kernel
theorem dX6_explain_64 : decode cX6_explain 64 = .ok (.aload_n 0, 1) := by decide +kernel
theorem dX6_explain_65 : decode cX6_explain 65 = .ok (.invokevirtual 68, 3) := by decide +kernel
theorem dX6_explain_68 : decode cX6_explain 68 = .ok (.iadd, 1) := by decide +kernel
theorem dX6_explain_69 : decode cX6_explain 69 = .ok (.putfield 65, 3) := by decide +kernel
theorem dX6_explain_72 : decode cX6_explain 72 = .ok (.iload_n 2, 1) := by decide +kernel
theorem dX6_explain_73 : decode cX6_explain 73 = .ok (.aload_n 0, 1) := by decide +kernel
theorem dX6_explain_74 : decode cX6_explain 74 = .ok (.iconst 0, 1) := by decide +kernel
theorem dX6_explain_75 : decode cX6_explain 75 = .ok (.sipush 200, 3) := by decide +kernel
theorem dX6_explain_78 : decode cX6_explain 78 = .ok (.invokevirtual 138, 3) := by decide +kernel
theorem dX6_explain_81 : decode cX6_explain 81 = .ok (.sipush 256, 3) := by decide +kernel
theorem dX6_explain_84 : decode cX6_explain 84 = .ok (.iload_n 1, 1) := by decide +kernel
theorem dX6_explain_85 : decode cX6_explain 85 = .ok (.iadd, 1) := by decide +kernel
theorem dX6_explain_86 : decode cX6_explain 86 = .ok (.if_icmp .ne 9, 3) := by decide +kernel
theorem dX6_explain_89 : decode cX6_explain 89 = .ok (.iconst 1, 1) := by decide +kernel
theorem dX6_explain_90 : decode cX6_explain 90 = .ok (.iload_n 3, 1) := by decide +kernel
theorem dX6_explain_91 : decode cX6_explain 91 = .ok (.ishl, 1) := by decide +kernel
theorem dX6_explain_92 : decode cX6_explain 92 = .ok (.goto 4, 3) := by decide +kernel
theorem dX6_explain_95 : decode cX6_explain 95 = .ok (.iconst 0, 1) := by decide +kernel
theorem dX6_explain_96 : decode cX6_explain 96 = .ok (.ior, 1) := by decide +kernel
theorem dX6_explain_97 : decode cX6_explain 97 = .ok (.istore_n 2, 1) := by decide +kernel
theorem dX6_explain_98 : decode cX6_explain 98 = .ok (.aload_n 0, 1) := by decide +kernel
theorem dX6_explain_99 : decode cX6_explain 99 = .ok (.invokevirtual 141, 3) := by decide +kernel
theorem dX6_explain_102 : decode cX6_explain 102 = .ok (.iinc 3 1, 3) := by decide +kernel
theorem dX6_explain_105 : decode cX6_explain 105 = .ok (.goto (-84), 3) := by decide +kernel
theorem dX6_explain_108 : decode cX6_explain 108 = .ok (.iload_n 2, 1) := by decide +kernel
theorem dX6_explain_109 : decode cX6_explain 109 = .ok (.ireturn, 1) := by decide +kernel
