theorem dX1_bit_0 : decode cX1_bit 0 = .ok (.iload_n 1, 1) := by decide +kernel
theorem dX1_bit_1 : decode cX1_bit 1 = .ok (.lookupswitch 38 #[(1, 27), (2, 31)], 27) := by decide +kernel
theorem dX1_bit_28 : decode cX1_bit 28 = .ok (.iconst 1, 1) := by decide +kernel
theorem dX1_bit_29 : decode cX1_bit 29 = .ok (.iload_n 0, 1) := by decide +kernel
theorem dX1_bit_30 : decode cX1_bit 30 = .ok (.ishl, 1) := by decide +kernel
theorem dX1_bit_31 : decode cX1_bit 31 = .ok (.ireturn, 1) := by decide +kernel
theorem dX1_bit_32 : decode cX1_bit 32 = .ok (.iconst 1, 1) := by decide +kernel
theorem dX1_bit_33 : decode cX1_bit 33 = .ok (.bipush 16, 2) := by decide +kernel
theorem dX1_bit_35 : decode cX1_bit 35 = .ok (.iload_n 0, 1) := by decide +kernel
theorem dX1_bit_36 : decode cX1_bit 36 = .ok (.iadd, 1) := by decide +kernel
theorem dX1_bit_37 : decode cX1_bit 37 = .ok (.ishl, 1) := by decide +kernel
theorem dX1_bit_38 : decode cX1_bit 38 = .ok (.ireturn, 1) := by decide +kernel
theorem dX1_bit_39 : decode cX1_bit 39 = .ok (.iconst 0, 1) := by decide +kernel
theorem dX1_bit_40 : decode cX1_bit 40 = .ok (.ireturn, 1) := by decide +kernel
theorem dX1_howOf_0 : decode cX1_howOf 0 = .ok (.iload_n 0, 1) := by decide +kernel
theorem dX1_howOf_1 : decode cX1_howOf 1 = .ok (.iload_n 1, 1) := by decide +kernel
theorem dX1_howOf_2 : decode cX1_howOf 2 = .ok (.iconst 1, 1) := by decide +kernel
theorem dX1_howOf_3 : decode cX1_howOf 3 = .ok (.invokestatic 9, 3) := by decide +kernel
theorem dX1_howOf_6 : decode cX1_howOf 6 = .ok (.iand, 1) := by decide +kernel
theorem dX1_howOf_7 : decode cX1_howOf 7 = .ok (.ifCond .eq 5, 3) := by decide +kernel
theorem dX1_howOf_10 : decode cX1_howOf 10 = .ok (.iconst 1, 1) := by decide +kernel
theorem dX1_howOf_11 : decode cX1_howOf 11 = .ok (.ireturn, 1) := by decide +kernel
theorem dX1_howOf_12 : decode cX1_howOf 12 = .ok (.iload_n 0, 1) := by decide +kernel
theorem dX1_howOf_13 : decode cX1_howOf 13 = .ok (.iload_n 1, 1) := by decide +kernel
theorem dX1_howOf_14 : decode cX1_howOf 14 = .ok (.iconst 2, 1) := by decide +kernel
theorem dX1_howOf_15 : decode cX1_howOf 15 = .ok (.invokestatic 9, 3) := by decide +kernel
theorem dX1_howOf_18 : decode cX1_howOf 18 = .ok (.iand, 1) := by decide +kernel
theorem dX1_howOf_19 : decode cX1_howOf 19 = .ok (.ifCond .eq 7, 3) := by decide +kernel
theorem dX1_howOf_22 : decode cX1_howOf 22 = .ok (.iconst 2, 1) := by decide +kernel
theorem dX1_howOf_23 : decode cX1_howOf 23 = .ok (.goto 4, 3) := by decide +kernel
theorem dX1_howOf_26 : decode cX1_howOf 26 = .ok (.iconst 0, 1) := by decide +kernel
theorem dX1_howOf_27 : decode cX1_howOf 27 = .ok (.ireturn, 1) := by decide +kernel
theorem dX1_with_0 : decode cX1_with 0 = .ok (.iload_n 0, 1) := by decide +kernel
theorem dX1_with_1 : decode cX1_with 1 = .ok (.iload_n 1, 1) := by decide +kernel
theorem dX1_with_2 : decode cX1_with 2 = .ok (.iconst 1, 1) := by decide +kernel
theorem dX1_with_3 : decode cX1_with 3 = .ok (.invokestatic 9, 3) := by decide +kernel
theorem dX1_with_6 : decode cX1_with 6 = .ok (.iload_n 1, 1) := by decide +kernel
theorem dX1_with_7 : decode cX1_with 7 = .ok (.iconst 2, 1) := by decide +kernel
theorem dX1_with_8 : decode cX1_with 8 = .ok (.invokestatic 9, 3) := by decide +kernel
theorem dX1_with_11 : decode cX1_with 11 = .ok (.ior, 1) := by decide +kernel
theorem dX1_with_12 : decode cX1_with 12 = .ok (.iconst (-1), 1) := by decide +kernel
theorem dX1_with_13 : decode cX1_with 13 = .ok (.ixor, 1) := by decide +kernel
theorem dX1_with_14 : decode cX1_with 14 = .ok (.iand, 1) := by decide +kernel
theorem dX1_with_15 : decode cX1_with 15 = .ok (.istore_n 3, 1) := by decide +kernel
theorem dX1_with_16 : decode cX1_with 16 = .ok (.iload_n 3, 1) := by decide +kernel
theorem dX1_with_17 : decode cX1_with 17 = .ok (.iload_n 1, 1) := by decide +kernel
theorem dX1_with_18 : decode cX1_with 18 = .ok (.iload_n 2, 1) := by decide +kernel
theorem dX1_with_19 : decode cX1_with 19 = .ok (.invokestatic 9, 3) := by decide +kernel
theorem dX1_with_22 : decode cX1_with 22 = .ok (.ior, 1) := by decide +kernel
theorem dX1_with_23 : decode cX1_with 23 = .ok (.ireturn, 1) := by decide +kernel
theorem dX2_init_0 : decode cX2_init 0 = .ok (.aload_n 0, 1) := by decide +kernel
theorem dX2_init_1 : decode cX2_init 1 = .ok (.invokespecial 3, 3) := by decide +kernel
theorem dX2_init_4 : decode cX2_init 4 = .ok (.aload_n 0, 1) := by decide +kernel
theorem dX2_init_5 : decode cX2_init 5 = .ok (.bipush 6, 2) := by decide +kernel
theorem dX2_init_7 : decode cX2_init 7 = .ok (.newarray .int, 2) := by decide +kernel
theorem dX2_init_9 : decode cX2_init 9 = .ok (.putfield 9, 3) := by decide +kernel
theorem dX2_init_12 : decode cX2_init 12 = .ok (.return_, 1) := by decide +kernel
theorem dX2_read_0 : decode cX2_read 0 = .ok (.aload_n 0, 1) := by decide +kernel
theorem dX2_read_1 : decode cX2_read 1 = .ok (.iload_n 2, 1) := by decide +kernel
theorem dX2_read_2 : decode cX2_read 2 = .ok (.putfield 15, 3) := by decide +kernel
theorem dX2_read_5 : decode cX2_read 5 = .ok (.aload_n 0, 1) := by decide +kernel
theorem dX2_read_6 : decode cX2_read 6 = .ok (.iconst 0, 1) := by decide +kernel
theorem dX2_read_7 : decode cX2_read 7 = .ok (.putfield 19, 3) := by decide +kernel
theorem dX2_read_10 : decode cX2_read 10 = .ok (.aload_n 0, 1) := by decide +kernel
theorem dX2_read_11 : decode cX2_read 11 = .ok (.iconst 0, 1) := by decide +kernel
theorem dX2_read_12 : decode cX2_read 12 = .ok (.putfield 22, 3) := by decide +kernel
theorem dX2_read_15 : decode cX2_read 15 = .ok (.iconst 0, 1) := by decide +kernel
theorem dX2_read_16 : decode cX2_read 16 = .ok (.istore_n 3, 1) := by decide +kernel
theorem dX2_read_17 : decode cX2_read 17 = .ok (.iload_n 3, 1) := by decide +kernel
theorem dX2_read_18 : decode cX2_read 18 = .ok (.aload_n 1, 1) := by decide +kernel
theorem dX2_read_19 : decode cX2_read 19 = .ok (.getfield 25, 3) := by decide +kernel
theorem dX2_read_22 : decode cX2_read 22 = .ok (.if_icmp .ge 34, 3) := by decide +kernel
theorem dX2_read_25 : decode cX2_read 25 = .ok (.aload_n 1, 1) := by decide +kernel
theorem dX2_read_26 : decode cX2_read 26 = .ok (.iload_n 3, 1) := by decide +kernel
theorem dX2_read_27 : decode cX2_read 27 = .ok (.invokevirtual 30, 3) := by decide +kernel
theorem dX2_read_30 : decode cX2_read 30 = .ok (.istore 4, 2) := by decide +kernel
theorem dX2_read_32 : decode cX2_read 32 = .ok (.iload 4, 2) := by decide +kernel
theorem dX2_read_34 : decode cX2_read 34 = .ok (.bipush 32, 2) := by decide +kernel
theorem dX2_read_36 : decode cX2_read 36 = .ok (.if_icmp .eq 14, 3) := by decide +kernel
theorem dX2_read_39 : decode cX2_read 39 = .ok (.aload_n 0, 1) := by decide +kernel
theorem dX2_read_40 : decode cX2_read 40 = .ok (.iload 4, 2) := by decide +kernel
theorem dX2_read_42 : decode cX2_read 42 = .ok (.invokevirtual 34, 3) := by decide +kernel
theorem dX2_read_45 : decode cX2_read 45 = .ok (.ifCond .ne 5, 3) := by decide +kernel
theorem dX2_read_48 : decode cX2_read 48 = .ok (.iload_n 3, 1) := by decide +kernel
theorem dX2_read_49 : decode cX2_read 49 = .ok (.ireturn, 1) := by decide +kernel
theorem dX2_read_50 : decode cX2_read 50 = .ok (.iinc 3 1, 3) := by decide +kernel
theorem dX2_read_53 : decode cX2_read 53 = .ok (.goto (-36), 3) := by decide +kernel
theorem dX2_read_56 : decode cX2_read 56 = .ok (.aload_n 0, 1) := by decide +kernel
theorem dX2_read_57 : decode cX2_read 57 = .ok (.getfield 22, 3) := by decide +kernel
theorem dX2_read_60 : decode cX2_read 60 = .ok (.iconst 2, 1) := by decide +kernel
theorem dX2_read_61 : decode cX2_read 61 = .ok (.if_icmp .eq 19, 3) := by decide +kernel
theorem dX2_read_64 : decode cX2_read 64 = .ok (.aload_n 0, 1) := by decide +kernel
theorem dX2_read_65 : decode cX2_read 65 = .ok (.getfield 22, 3) := by decide +kernel
theorem dX2_read_68 : decode cX2_read 68 = .ok (.iconst 4, 1) := by decide +kernel
theorem dX2_read_69 : decode cX2_read 69 = .ok (.if_icmp .eq 11, 3) := by decide +kernel
theorem dX2_read_72 : decode cX2_read 72 = .ok (.aload_n 0, 1) := by decide +kernel
theorem dX2_read_73 : decode cX2_read 73 = .ok (.getfield 22, 3) := by decide +kernel
theorem dX2_read_76 : decode cX2_read 76 = .ok (.iconst 5, 1) := by decide +kernel
theorem dX2_read_77 : decode cX2_read 77 = .ok (.if_icmp .ne 7, 3) := by decide +kernel
theorem dX2_read_80 : decode cX2_read 80 = .ok (.iconst 1, 1) := by decide +kernel
theorem dX2_read_81 : decode cX2_read 81 = .ok (.goto 4, 3) := by decide +kernel
theorem dX2_read_84 : decode cX2_read 84 = .ok (.iconst 0, 1) := by decide +kernel
theorem dX2_read_85 : decode cX2_read 85 = .ok (.istore_n 3, 1) := by decide +kernel
theorem dX2_read_86 : decode cX2_read 86 = .ok (.iload_n 3, 1) := by decide +kernel
theorem dX2_read_87 : decode cX2_read 87 = .ok (.ifCond .eq 7, 3) := by decide +kernel
theorem dX2_read_90 : decode cX2_read 90 = .ok (.iconst (-1), 1) := by decide +kernel
theorem dX2_read_91 : decode cX2_read 91 = .ok (.goto 7, 3) := by decide +kernel
theorem dX2_read_94 : decode cX2_read 94 = .ok (.aload_n 1, 1) := by decide +kernel
theorem dX2_read_95 : decode cX2_read 95 = .ok (.getfield 25, 3) := by decide +kernel
theorem dX2_read_98 : decode cX2_read 98 = .ok (.ireturn, 1) := by decide +kernel
theorem dX2_take_0 : decode cX2_take 0 = .ok (.aload_n 0, 1) := by decide +kernel
theorem dX2_take_1 : decode cX2_take 1 = .ok (.getfield 22, 3) := by decide +kernel
theorem dX2_take_4 : decode cX2_take 4 = .ok (.tableswitch 109 0 4 #[36, 56, 62, 82, 89], 36) := by decide +kernel
theorem dX2_take_40 : decode cX2_take 40 = .ok (.iload_n 1, 1) := by decide +kernel
theorem dX2_take_41 : decode cX2_take 41 = .ok (.bipush 48, 2) := by decide +kernel
theorem dX2_take_43 : decode cX2_take 43 = .ok (.if_icmp .ne 11, 3) := by decide +kernel
theorem dX2_take_46 : decode cX2_take 46 = .ok (.aload_n 0, 1) := by decide +kernel
theorem dX2_take_47 : decode cX2_take 47 = .ok (.iconst 5, 1) := by decide +kernel
theorem dX2_take_48 : decode cX2_take 48 = .ok (.invokevirtual 38, 3) := by decide +kernel
theorem dX2_take_51 : decode cX2_take 51 = .ok (.goto 8, 3) := by decide +kernel
theorem dX2_take_54 : decode cX2_take 54 = .ok (.aload_n 0, 1) := by decide +kernel
theorem dX2_take_55 : decode cX2_take 55 = .ok (.iload_n 1, 1) := by decide +kernel
theorem dX2_take_56 : decode cX2_take 56 = .ok (.invokevirtual 42, 3) := by decide +kernel
theorem dX2_take_59 : decode cX2_take 59 = .ok (.ireturn, 1) := by decide +kernel
theorem dX2_take_60 : decode cX2_take 60 = .ok (.aload_n 0, 1) := by decide +kernel
theorem dX2_take_61 : decode cX2_take 61 = .ok (.iload_n 1, 1) := by decide +kernel
theorem dX2_take_62 : decode cX2_take 62 = .ok (.invokevirtual 42, 3) := by decide +kernel
theorem dX2_take_65 : decode cX2_take 65 = .ok (.ireturn, 1) := by decide +kernel
theorem dX2_take_66 : decode cX2_take 66 = .ok (.iload_n 1, 1) := by decide +kernel
theorem dX2_take_67 : decode cX2_take 67 = .ok (.bipush 43, 2) := by decide +kernel
theorem dX2_take_69 : decode cX2_take 69 = .ok (.if_icmp .ne 11, 3) := by decide +kernel
theorem dX2_take_72 : decode cX2_take 72 = .ok (.aload_n 0, 1) := by decide +kernel
theorem dX2_take_73 : decode cX2_take 73 = .ok (.iconst 1, 1) := by decide +kernel
theorem dX2_take_74 : decode cX2_take 74 = .ok (.invokevirtual 38, 3) := by decide +kernel
theorem dX2_take_77 : decode cX2_take 77 = .ok (.goto 8, 3) := by decide +kernel
theorem dX2_take_80 : decode cX2_take 80 = .ok (.aload_n 0, 1) := by decide +kernel
theorem dX2_take_81 : decode cX2_take 81 = .ok (.iload_n 1, 1) := by decide +kernel
theorem dX2_take_82 : decode cX2_take 82 = .ok (.invokevirtual 45, 3) := by decide +kernel
theorem dX2_take_85 : decode cX2_take 85 = .ok (.ireturn, 1) := by decide +kernel
theorem dX2_take_86 : decode cX2_take 86 = .ok (.aload_n 0, 1) := by decide +kernel
theorem dX2_take_87 : decode cX2_take 87 = .ok (.iload_n 1, 1) := by decide +kernel
theorem dX2_take_88 : decode cX2_take 88 = .ok (.iconst 2, 1) := by decide +kernel
theorem dX2_take_89 : decode cX2_take 89 = .ok (.invokevirtual 48, 3) := by decide +kernel
theorem dX2_take_92 : decode cX2_take 92 = .ok (.ireturn, 1) := by decide +kernel
theorem dX2_take_93 : decode cX2_take 93 = .ok (.iload_n 1, 1) := by decide +kernel
theorem dX2_take_94 : decode cX2_take 94 = .ok (.bipush 43, 2) := by decide +kernel
theorem dX2_take_96 : decode cX2_take 96 = .ok (.if_icmp .ne 15, 3) := by decide +kernel
theorem dX2_take_99 : decode cX2_take 99 = .ok (.aload_n 0, 1) := by decide +kernel
theorem dX2_take_100 : decode cX2_take 100 = .ok (.iconst 1, 1) := by decide +kernel
theorem dX2_take_101 : decode cX2_take 101 = .ok (.invokevirtual 38, 3) := by decide +kernel
theorem dX2_take_104 : decode cX2_take 104 = .ok (.ifCond .eq 7, 3) := by decide +kernel
theorem dX2_take_107 : decode cX2_take 107 = .ok (.iconst 1, 1) := by decide +kernel
theorem dX2_take_108 : decode cX2_take 108 = .ok (.goto 4, 3) := by decide +kernel
theorem dX2_take_111 : decode cX2_take 111 = .ok (.iconst 0, 1) := by decide +kernel
theorem dX2_take_112 : decode cX2_take 112 = .ok (.ireturn, 1) := by decide +kernel
theorem dX2_take_113 : decode cX2_take 113 = .ok (.iconst 0, 1) := by decide +kernel
theorem dX2_take_114 : decode cX2_take 114 = .ok (.ireturn, 1) := by decide +kernel
theorem dX2_goTo_0 : decode cX2_goTo 0 = .ok (.aload_n 0, 1) := by decide +kernel
theorem dX2_goTo_1 : decode cX2_goTo 1 = .ok (.iload_n 1, 1) := by decide +kernel
theorem dX2_goTo_2 : decode cX2_goTo 2 = .ok (.putfield 22, 3) := by decide +kernel
theorem dX2_goTo_5 : decode cX2_goTo 5 = .ok (.iconst 1, 1) := by decide +kernel
theorem dX2_goTo_6 : decode cX2_goTo 6 = .ok (.ireturn, 1) := by decide +kernel
theorem dX2_beginBranch_0 : decode cX2_beginBranch 0 = .ok (.aload_n 0, 1) := by decide +kernel
theorem dX2_beginBranch_1 : decode cX2_beginBranch 1 = .ok (.getfield 19, 3) := by decide +kernel
theorem dX2_beginBranch_4 : decode cX2_beginBranch 4 = .ok (.bipush 6, 2) := by decide +kernel
theorem dX2_beginBranch_6 : decode cX2_beginBranch 6 = .ok (.if_icmp .lt 5, 3) := by decide +kernel
theorem dX2_beginBranch_9 : decode cX2_beginBranch 9 = .ok (.iconst 0, 1) := by decide +kernel
theorem dX2_beginBranch_10 : decode cX2_beginBranch 10 = .ok (.ireturn, 1) := by decide +kernel
theorem dX2_beginBranch_11 : decode cX2_beginBranch 11 = .ok (.aload_n 0, 1) := by decide +kernel
theorem dX2_beginBranch_12 : decode cX2_beginBranch 12 = .ok (.getfield 9, 3) := by decide +kernel
theorem dX2_beginBranch_15 : decode cX2_beginBranch 15 = .ok (.aload_n 0, 1) := by decide +kernel
theorem dX2_beginBranch_16 : decode cX2_beginBranch 16 = .ok (.getfield 19, 3) := by decide +kernel
theorem dX2_beginBranch_19 : decode cX2_beginBranch 19 = .ok (.iconst 0, 1) := by decide +kernel
theorem dX2_beginBranch_20 : decode cX2_beginBranch 20 = .ok (.invokestatic 52, 3) := by decide +kernel
theorem dX2_beginBranch_23 : decode cX2_beginBranch 23 = .ok (.aload_n 0, 1) := by decide +kernel
theorem dX2_beginBranch_24 : decode cX2_beginBranch 24 = .ok (.dup, 1) := by decide +kernel
theorem dX2_beginBranch_25 : decode cX2_beginBranch 25 = .ok (.getfield 19, 3) := by decide +kernel
theorem dX2_beginBranch_28 : decode cX2_beginBranch 28 = .ok (.iconst 1, 1) := by decide +kernel
theorem dX2_beginBranch_29 : decode cX2_beginBranch 29 = .ok (.iadd, 1) := by decide +kernel
theorem dX2_beginBranch_30 : decode cX2_beginBranch 30 = .ok (.putfield 19, 3) := by decide +kernel
theorem dX2_beginBranch_33 : decode cX2_beginBranch 33 = .ok (.iload_n 1, 1) := by decide +kernel
theorem dX2_beginBranch_34 : decode cX2_beginBranch 34 = .ok (.bipush 49, 2) := by decide +kernel
theorem dX2_beginBranch_36 : decode cX2_beginBranch 36 = .ok (.if_icmp .ne 11, 3) := by decide +kernel
theorem dX2_beginBranch_39 : decode cX2_beginBranch 39 = .ok (.aload_n 0, 1) := by decide +kernel
theorem dX2_beginBranch_40 : decode cX2_beginBranch 40 = .ok (.iconst 4, 1) := by decide +kernel
theorem dX2_beginBranch_41 : decode cX2_beginBranch 41 = .ok (.invokevirtual 38, 3) := by decide +kernel
theorem dX2_beginBranch_44 : decode cX2_beginBranch 44 = .ok (.goto 8, 3) := by decide +kernel
theorem dX2_beginBranch_47 : decode cX2_beginBranch 47 = .ok (.aload_n 0, 1) := by decide +kernel
theorem dX2_beginBranch_48 : decode cX2_beginBranch 48 = .ok (.iload_n 1, 1) := by decide +kernel
theorem dX2_beginBranch_49 : decode cX2_beginBranch 49 = .ok (.invokevirtual 45, 3) := by decide +kernel
theorem dX2_beginBranch_52 : decode cX2_beginBranch 52 = .ok (.ireturn, 1) := by decide +kernel
theorem dX2_beginCondition_0 : decode cX2_beginCondition 0 = .ok (.iload_n 1, 1) := by decide +kernel
theorem dX2_beginCondition_1 : decode cX2_beginCondition 1 = .ok (.bipush 47, 2) := by decide +kernel
theorem dX2_beginCondition_3 : decode cX2_beginCondition 3 = .ok (.if_icmp .ne 11, 3) := by decide +kernel
theorem dX2_beginCondition_6 : decode cX2_beginCondition 6 = .ok (.aload_n 0, 1) := by decide +kernel
theorem dX2_beginCondition_7 : decode cX2_beginCondition 7 = .ok (.iconst 3, 1) := by decide +kernel
theorem dX2_beginCondition_8 : decode cX2_beginCondition 8 = .ok (.invokevirtual 38, 3) := by decide +kernel
theorem dX2_beginCondition_11 : decode cX2_beginCondition 11 = .ok (.goto 9, 3) := by decide +kernel
theorem dX2_beginCondition_14 : decode cX2_beginCondition 14 = .ok (.aload_n 0, 1) := by decide +kernel
theorem dX2_beginCondition_15 : decode cX2_beginCondition 15 = .ok (.iload_n 1, 1) := by decide +kernel
theorem dX2_beginCondition_16 : decode cX2_beginCondition 16 = .ok (.iconst 1, 1) := by decide +kernel
theorem dX2_beginCondition_17 : decode cX2_beginCondition 17 = .ok (.invokevirtual 48, 3) := by decide +kernel
theorem dX2_beginCondition_20 : decode cX2_beginCondition 20 = .ok (.ireturn, 1) := by decide +kernel
theorem dX2_takeLetter_0 : decode cX2_takeLetter 0 = .ok (.aload_n 0, 1) := by decide +kernel
theorem dX2_takeLetter_1 : decode cX2_takeLetter 1 = .ok (.iload_n 1, 1) := by decide +kernel
theorem dX2_takeLetter_2 : decode cX2_takeLetter 2 = .ok (.invokevirtual 56, 3) := by decide +kernel
theorem dX2_takeLetter_5 : decode cX2_takeLetter 5 = .ok (.istore_n 3, 1) := by decide +kernel
theorem dX2_takeLetter_6 : decode cX2_takeLetter 6 = .ok (.aload_n 0, 1) := by decide +kernel
theorem dX2_takeLetter_7 : decode cX2_takeLetter 7 = .ok (.getfield 9, 3) := by decide +kernel
theorem dX2_takeLetter_10 : decode cX2_takeLetter 10 = .ok (.aload_n 0, 1) := by decide +kernel
theorem dX2_takeLetter_11 : decode cX2_takeLetter 11 = .ok (.getfield 19, 3) := by decide +kernel
theorem dX2_takeLetter_14 : decode cX2_takeLetter 14 = .ok (.iconst 1, 1) := by decide +kernel
theorem dX2_takeLetter_15 : decode cX2_takeLetter 15 = .ok (.isub, 1) := by decide +kernel
theorem dX2_takeLetter_16 : decode cX2_takeLetter 16 = .ok (.invokestatic 60, 3) := by decide +kernel
theorem dX2_takeLetter_19 : decode cX2_takeLetter 19 = .ok (.istore 4, 2) := by decide +kernel
theorem dX2_takeLetter_21 : decode cX2_takeLetter 21 = .ok (.iload_n 3, 1) := by decide +kernel
theorem dX2_takeLetter_22 : decode cX2_takeLetter 22 = .ok (.ifCond .lt 15, 3) := by decide +kernel
theorem dX2_takeLetter_25 : decode cX2_takeLetter 25 = .ok (.iload 4, 2) := by decide +kernel
theorem dX2_takeLetter_27 : decode cX2_takeLetter 27 = .ok (.iload_n 3, 1) := by decide +kernel
theorem dX2_takeLetter_28 : decode cX2_takeLetter 28 = .ok (.invokestatic 64, 3) := by decide +kernel
theorem dX2_takeLetter_31 : decode cX2_takeLetter 31 = .ok (.iconst 3, 1) := by decide +kernel
theorem dX2_takeLetter_32 : decode cX2_takeLetter 32 = .ok (.iload_n 2, 1) := by decide +kernel
theorem dX2_takeLetter_33 : decode cX2_takeLetter 33 = .ok (.isub, 1) := by decide +kernel
theorem dX2_takeLetter_34 : decode cX2_takeLetter 34 = .ok (.if_icmp .ne 5, 3) := by decide +kernel
theorem dX2_takeLetter_37 : decode cX2_takeLetter 37 = .ok (.iconst 0, 1) := by decide +kernel
theorem dX2_takeLetter_38 : decode cX2_takeLetter 38 = .ok (.ireturn, 1) := by decide +kernel
theorem dX2_takeLetter_39 : decode cX2_takeLetter 39 = .ok (.aload_n 0, 1) := by decide +kernel
theorem dX2_takeLetter_40 : decode cX2_takeLetter 40 = .ok (.getfield 9, 3) := by decide +kernel
theorem dX2_takeLetter_43 : decode cX2_takeLetter 43 = .ok (.aload_n 0, 1) := by decide +kernel
theorem dX2_takeLetter_44 : decode cX2_takeLetter 44 = .ok (.getfield 19, 3) := by decide +kernel
theorem dX2_takeLetter_47 : decode cX2_takeLetter 47 = .ok (.iconst 1, 1) := by decide +kernel
theorem dX2_takeLetter_48 : decode cX2_takeLetter 48 = .ok (.isub, 1) := by decide +kernel
theorem dX2_takeLetter_49 : decode cX2_takeLetter 49 = .ok (.iload 4, 2) := by decide +kernel
theorem dX2_takeLetter_51 : decode cX2_takeLetter 51 = .ok (.iload_n 3, 1) := by decide +kernel
theorem dX2_takeLetter_52 : decode cX2_takeLetter 52 = .ok (.iload_n 2, 1) := by decide +kernel
theorem dX2_takeLetter_53 : decode cX2_takeLetter 53 = .ok (.invokestatic 70, 3) := by decide +kernel
theorem dX2_takeLetter_56 : decode cX2_takeLetter 56 = .ok (.invokestatic 52, 3) := by decide +kernel
theorem dX2_takeLetter_59 : decode cX2_takeLetter 59 = .ok (.aload_n 0, 1) := by decide +kernel
theorem dX2_takeLetter_60 : decode cX2_takeLetter 60 = .ok (.iconst 2, 1) := by decide +kernel
theorem dX2_takeLetter_61 : decode cX2_takeLetter 61 = .ok (.invokevirtual 38, 3) := by decide +kernel
theorem dX2_takeLetter_64 : decode cX2_takeLetter 64 = .ok (.ireturn, 1) := by decide +kernel
theorem dX2_subjectOf_0 : decode cX2_subjectOf 0 = .ok (.iload_n 1, 1) := by decide +kernel
theorem dX2_subjectOf_1 : decode cX2_subjectOf 1 = .ok (.bipush 97, 2) := by decide +kernel
theorem dX2_subjectOf_3 : decode cX2_subjectOf 3 = .ok (.bipush 104, 2) := by decide +kernel
theorem dX2_subjectOf_5 : decode cX2_subjectOf 5 = .ok (.invokestatic 74, 3) := by decide +kernel
theorem dX2_subjectOf_8 : decode cX2_subjectOf 8 = .ok (.ifCond .eq 8, 3) := by decide +kernel
theorem dX2_subjectOf_11 : decode cX2_subjectOf 11 = .ok (.iload_n 1, 1) := by decide +kernel
theorem dX2_subjectOf_12 : decode cX2_subjectOf 12 = .ok (.bipush 97, 2) := by decide +kernel
theorem dX2_subjectOf_14 : decode cX2_subjectOf 14 = .ok (.isub, 1) := by decide +kernel
theorem dX2_subjectOf_15 : decode cX2_subjectOf 15 = .ok (.ireturn, 1) := by decide +kernel
theorem dX2_subjectOf_16 : decode cX2_subjectOf 16 = .ok (.iload_n 1, 1) := by decide +kernel
theorem dX2_subjectOf_17 : decode cX2_subjectOf 17 = .ok (.bipush 65, 2) := by decide +kernel
theorem dX2_subjectOf_19 : decode cX2_subjectOf 19 = .ok (.bipush 65, 2) := by decide +kernel
theorem dX2_subjectOf_21 : decode cX2_subjectOf 21 = .ok (.aload_n 0, 1) := by decide +kernel
theorem dX2_subjectOf_22 : decode cX2_subjectOf 22 = .ok (.getfield 15, 3) := by decide +kernel
theorem dX2_subjectOf_25 : decode cX2_subjectOf 25 = .ok (.iadd, 1) := by decide +kernel
theorem dX2_subjectOf_26 : decode cX2_subjectOf 26 = .ok (.iconst 1, 1) := by decide +kernel
theorem dX2_subjectOf_27 : decode cX2_subjectOf 27 = .ok (.isub, 1) := by decide +kernel
theorem dX2_subjectOf_28 : decode cX2_subjectOf 28 = .ok (.invokestatic 74, 3) := by decide +kernel
theorem dX2_subjectOf_31 : decode cX2_subjectOf 31 = .ok (.ifCond .eq 13, 3) := by decide +kernel
theorem dX2_subjectOf_34 : decode cX2_subjectOf 34 = .ok (.bipush 8, 2) := by decide +kernel
theorem dX2_subjectOf_36 : decode cX2_subjectOf 36 = .ok (.iload_n 1, 1) := by decide +kernel
theorem dX2_subjectOf_37 : decode cX2_subjectOf 37 = .ok (.iadd, 1) := by decide +kernel
theorem dX2_subjectOf_38 : decode cX2_subjectOf 38 = .ok (.bipush 65, 2) := by decide +kernel
theorem dX2_subjectOf_40 : decode cX2_subjectOf 40 = .ok (.isub, 1) := by decide +kernel
theorem dX2_subjectOf_41 : decode cX2_subjectOf 41 = .ok (.goto 4, 3) := by decide +kernel
theorem dX2_subjectOf_44 : decode cX2_subjectOf 44 = .ok (.iconst (-1), 1) := by decide +kernel
theorem dX2_subjectOf_45 : decode cX2_subjectOf 45 = .ok (.ireturn, 1) := by decide +kernel
theorem dX3_init_0 : decode cX3_init 0 = .ok (.aload_n 0, 1) := by decide +kernel
theorem dX3_init_1 : decode cX3_init 1 = .ok (.invokespecial 3, 3) := by decide +kernel
theorem dX3_init_4 : decode cX3_init 4 = .ok (.aload_n 0, 1) := by decide +kernel
theorem dX3_init_5 : decode cX3_init 5 = .ok (.bipush 6, 2) := by decide +kernel
theorem dX3_init_7 : decode cX3_init 7 = .ok (.anewarray 9, 3) := by decide +kernel
theorem dX3_init_10 : decode cX3_init 10 = .ok (.putfield 11, 3) := by decide +kernel
theorem dX3_init_13 : decode cX3_init 13 = .ok (.iconst 0, 1) := by decide +kernel
theorem dX3_init_14 : decode cX3_init 14 = .ok (.istore_n 1, 1) := by decide +kernel
theorem dX3_init_15 : decode cX3_init 15 = .ok (.iload_n 1, 1) := by decide +kernel
theorem dX3_init_16 : decode cX3_init 16 = .ok (.aload_n 0, 1) := by decide +kernel
theorem dX3_init_17 : decode cX3_init 17 = .ok (.getfield 11, 3) := by decide +kernel
theorem dX3_init_20 : decode cX3_init 20 = .ok (.arraylength, 1) := by decide +kernel
theorem dX3_init_21 : decode cX3_init 21 = .ok (.if_icmp .ge 22, 3) := by decide +kernel
theorem dX3_init_24 : decode cX3_init 24 = .ok (.aload_n 0, 1) := by decide +kernel
theorem dX3_init_25 : decode cX3_init 25 = .ok (.getfield 11, 3) := by decide +kernel
theorem dX3_init_28 : decode cX3_init 28 = .ok (.iload_n 1, 1) := by decide +kernel
theorem dX3_init_29 : decode cX3_init 29 = .ok (.new 9, 3) := by decide +kernel
theorem dX3_init_32 : decode cX3_init 32 = .ok (.dup, 1) := by decide +kernel
theorem dX3_init_33 : decode cX3_init 33 = .ok (.invokespecial 17, 3) := by decide +kernel
theorem dX3_init_36 : decode cX3_init 36 = .ok (.aastore, 1) := by decide +kernel
theorem dX3_init_37 : decode cX3_init 37 = .ok (.iinc 1 1, 3) := by decide +kernel
theorem dX3_init_40 : decode cX3_init 40 = .ok (.goto (-25), 3) := by decide +kernel
theorem dX3_init_43 : decode cX3_init 43 = .ok (.return_, 1) := by decide +kernel
theorem dX3_bankAt_0 : decode cX3_bankAt 0 = .ok (.aload_n 0, 1) := by decide +kernel
theorem dX3_bankAt_1 : decode cX3_bankAt 1 = .ok (.getfield 18, 3) := by decide +kernel
theorem dX3_bankAt_4 : decode cX3_bankAt 4 = .ok (.iload_n 1, 1) := by decide +kernel
theorem dX3_bankAt_5 : decode cX3_bankAt 5 = .ok (.iadd, 1) := by decide +kernel
theorem dX3_bankAt_6 : decode cX3_bankAt 6 = .ok (.bipush 6, 2) := by decide +kernel
theorem dX3_bankAt_8 : decode cX3_bankAt 8 = .ok (.invokestatic 22, 3) := by decide +kernel
theorem dX3_bankAt_11 : decode cX3_bankAt 11 = .ok (.istore_n 2, 1) := by decide +kernel
theorem dX3_bankAt_12 : decode cX3_bankAt 12 = .ok (.iload_n 2, 1) := by decide +kernel
theorem dX3_bankAt_13 : decode cX3_bankAt 13 = .ok (.aload_n 0, 1) := by decide +kernel
theorem dX3_bankAt_14 : decode cX3_bankAt 14 = .ok (.getfield 11, 3) := by decide +kernel
theorem dX3_bankAt_17 : decode cX3_bankAt 17 = .ok (.arraylength, 1) := by decide +kernel
theorem dX3_bankAt_18 : decode cX3_bankAt 18 = .ok (.if_icmp .ge 12, 3) := by decide +kernel
theorem dX3_bankAt_21 : decode cX3_bankAt 21 = .ok (.aload_n 0, 1) := by decide +kernel
theorem dX3_bankAt_22 : decode cX3_bankAt 22 = .ok (.getfield 11, 3) := by decide +kernel
theorem dX3_bankAt_25 : decode cX3_bankAt 25 = .ok (.iload_n 2, 1) := by decide +kernel
theorem dX3_bankAt_26 : decode cX3_bankAt 26 = .ok (.aaload, 1) := by decide +kernel
theorem dX3_bankAt_27 : decode cX3_bankAt 27 = .ok (.goto 4, 3) := by decide +kernel
theorem dX3_bankAt_30 : decode cX3_bankAt 30 = .ok (.aconst_null, 1) := by decide +kernel
theorem dX3_bankAt_31 : decode cX3_bankAt 31 = .ok (.areturn, 1) := by decide +kernel
theorem dX3_save_0 : decode cX3_save 0 = .ok (.aload_n 0, 1) := by decide +kernel
theorem dX3_save_1 : decode cX3_save 1 = .ok (.getfield 28, 3) := by decide +kernel
theorem dX3_save_4 : decode cX3_save 4 = .ok (.bipush 6, 2) := by decide +kernel
theorem dX3_save_6 : decode cX3_save 6 = .ok (.if_icmp .ne 28, 3) := by decide +kernel
theorem dX3_save_9 : decode cX3_save 9 = .ok (.aload_n 0, 1) := by decide +kernel
theorem dX3_save_10 : decode cX3_save 10 = .ok (.aload_n 0, 1) := by decide +kernel
theorem dX3_save_11 : decode cX3_save 11 = .ok (.getfield 18, 3) := by decide +kernel
theorem dX3_save_14 : decode cX3_save 14 = .ok (.iconst 1, 1) := by decide +kernel
theorem dX3_save_15 : decode cX3_save 15 = .ok (.iadd, 1) := by decide +kernel
theorem dX3_save_16 : decode cX3_save 16 = .ok (.bipush 6, 2) := by decide +kernel
theorem dX3_save_18 : decode cX3_save 18 = .ok (.invokestatic 22, 3) := by decide +kernel
theorem dX3_save_21 : decode cX3_save 21 = .ok (.putfield 18, 3) := by decide +kernel
theorem dX3_save_24 : decode cX3_save 24 = .ok (.aload_n 0, 1) := by decide +kernel
theorem dX3_save_25 : decode cX3_save 25 = .ok (.dup, 1) := by decide +kernel
theorem dX3_save_26 : decode cX3_save 26 = .ok (.getfield 28, 3) := by decide +kernel
theorem dX3_save_29 : decode cX3_save 29 = .ok (.iconst 1, 1) := by decide +kernel
theorem dX3_save_30 : decode cX3_save 30 = .ok (.isub, 1) := by decide +kernel
theorem dX3_save_31 : decode cX3_save 31 = .ok (.putfield 28, 3) := by decide +kernel
theorem dX3_save_34 : decode cX3_save 34 = .ok (.aload_n 0, 1) := by decide +kernel
theorem dX3_save_35 : decode cX3_save 35 = .ok (.aload_n 0, 1) := by decide +kernel
theorem dX3_save_36 : decode cX3_save 36 = .ok (.getfield 28, 3) := by decide +kernel
theorem dX3_save_39 : decode cX3_save 39 = .ok (.invokevirtual 31, 3) := by decide +kernel
theorem dX3_save_42 : decode cX3_save 42 = .ok (.astore_n 2, 1) := by decide +kernel
theorem dX3_save_43 : decode cX3_save 43 = .ok (.aload_n 2, 1) := by decide +kernel
theorem dX3_save_44 : decode cX3_save 44 = .ok (.ifnull 18, 3) := by decide +kernel
theorem dX3_save_47 : decode cX3_save 47 = .ok (.aload_n 2, 1) := by decide +kernel
theorem dX3_save_48 : decode cX3_save 48 = .ok (.aload_n 1, 1) := by decide +kernel
theorem dX3_save_49 : decode cX3_save 49 = .ok (.invokevirtual 35, 3) := by decide +kernel
theorem dX3_save_52 : decode cX3_save 52 = .ok (.aload_n 0, 1) := by decide +kernel
theorem dX3_save_53 : decode cX3_save 53 = .ok (.dup, 1) := by decide +kernel
theorem dX3_save_54 : decode cX3_save 54 = .ok (.getfield 28, 3) := by decide +kernel
theorem dX3_save_57 : decode cX3_save 57 = .ok (.iconst 1, 1) := by decide +kernel
theorem dX3_save_58 : decode cX3_save 58 = .ok (.iadd, 1) := by decide +kernel
theorem dX3_save_59 : decode cX3_save 59 = .ok (.putfield 28, 3) := by decide +kernel
theorem dX3_save_62 : decode cX3_save 62 = .ok (.return_, 1) := by decide +kernel
theorem dX3_restore_0 : decode cX3_restore 0 = .ok (.aload_n 0, 1) := by decide +kernel
theorem dX3_restore_1 : decode cX3_restore 1 = .ok (.getfield 28, 3) := by decide +kernel
theorem dX3_restore_4 : decode cX3_restore 4 = .ok (.ifCond .le 16, 3) := by decide +kernel
theorem dX3_restore_7 : decode cX3_restore 7 = .ok (.aload_n 0, 1) := by decide +kernel
theorem dX3_restore_8 : decode cX3_restore 8 = .ok (.aload_n 0, 1) := by decide +kernel
theorem dX3_restore_9 : decode cX3_restore 9 = .ok (.getfield 28, 3) := by decide +kernel
theorem dX3_restore_12 : decode cX3_restore 12 = .ok (.iconst 1, 1) := by decide +kernel
theorem dX3_restore_13 : decode cX3_restore 13 = .ok (.isub, 1) := by decide +kernel
theorem dX3_restore_14 : decode cX3_restore 14 = .ok (.invokevirtual 31, 3) := by decide +kernel
theorem dX3_restore_17 : decode cX3_restore 17 = .ok (.goto 4, 3) := by decide +kernel
theorem dX3_restore_20 : decode cX3_restore 20 = .ok (.aconst_null, 1) := by decide +kernel
theorem dX3_restore_21 : decode cX3_restore 21 = .ok (.astore_n 2, 1) := by decide +kernel
theorem dX3_restore_22 : decode cX3_restore 22 = .ok (.aload_n 2, 1) := by decide +kernel
theorem dX3_restore_23 : decode cX3_restore 23 = .ok (.ifnonnull 5, 3) := by decide +kernel
theorem dX3_restore_26 : decode cX3_restore 26 = .ok (.iconst 0, 1) := by decide +kernel
theorem dX3_restore_27 : decode cX3_restore 27 = .ok (.ireturn, 1) := by decide +kernel
theorem dX3_restore_28 : decode cX3_restore 28 = .ok (.aload_n 1, 1) := by decide +kernel
theorem dX3_restore_29 : decode cX3_restore 29 = .ok (.aload_n 2, 1) := by decide +kernel
theorem dX3_restore_30 : decode cX3_restore 30 = .ok (.invokevirtual 35, 3) := by decide +kernel
theorem dX3_restore_33 : decode cX3_restore 33 = .ok (.aload_n 0, 1) := by decide +kernel
theorem dX3_restore_34 : decode cX3_restore 34 = .ok (.dup, 1) := by decide +kernel
theorem dX3_restore_35 : decode cX3_restore 35 = .ok (.getfield 28, 3) := by decide +kernel
theorem dX3_restore_38 : decode cX3_restore 38 = .ok (.iconst 1, 1) := by decide +kernel
theorem dX3_restore_39 : decode cX3_restore 39 = .ok (.isub, 1) := by decide +kernel
theorem dX3_restore_40 : decode cX3_restore 40 = .ok (.putfield 28, 3) := by decide +kernel
theorem dX3_restore_43 : decode cX3_restore 43 = .ok (.iconst 1, 1) := by decide +kernel
theorem dX3_restore_44 : decode cX3_restore 44 = .ok (.ireturn, 1) := by decide +kernel
theorem dX4_init_0 : decode cX4_init 0 = .ok (.aload_n 0, 1) := by decide +kernel
theorem dX4_init_1 : decode cX4_init 1 = .ok (.invokespecial 3, 3) := by decide +kernel
theorem dX4_init_4 : decode cX4_init 4 = .ok (.aload_n 0, 1) := by decide +kernel
theorem dX4_init_5 : decode cX4_init 5 = .ok (.bipush 60, 2) := by decide +kernel
theorem dX4_init_7 : decode cX4_init 7 = .ok (.newarray .char, 2) := by decide +kernel
theorem dX4_init_9 : decode cX4_init 9 = .ok (.putfield 9, 3) := by decide +kernel
theorem dX4_init_12 : decode cX4_init 12 = .ok (.return_, 1) := by decide +kernel
theorem dX4_append_0 : decode cX4_append 0 = .ok (.iconst 0, 1) := by decide +kernel
theorem dX4_append_1 : decode cX4_append 1 = .ok (.aload_n 0, 1) := by decide +kernel
theorem dX4_append_2 : decode cX4_append 2 = .ok (.getfield 15, 3) := by decide +kernel
theorem dX4_append_5 : decode cX4_append 5 = .ok (.if_icmp .gt 35, 3) := by decide +kernel
theorem dX4_append_8 : decode cX4_append 8 = .ok (.aload_n 0, 1) := by decide +kernel
theorem dX4_append_9 : decode cX4_append 9 = .ok (.getfield 15, 3) := by decide +kernel
theorem dX4_append_12 : decode cX4_append 12 = .ok (.aload_n 0, 1) := by decide +kernel
theorem dX4_append_13 : decode cX4_append 13 = .ok (.getfield 9, 3) := by decide +kernel
theorem dX4_append_16 : decode cX4_append 16 = .ok (.arraylength, 1) := by decide +kernel
theorem dX4_append_17 : decode cX4_append 17 = .ok (.if_icmp .ge 23, 3) := by decide +kernel
theorem dX4_append_20 : decode cX4_append 20 = .ok (.aload_n 0, 1) := by decide +kernel
theorem dX4_append_21 : decode cX4_append 21 = .ok (.getfield 9, 3) := by decide +kernel
theorem dX4_append_24 : decode cX4_append 24 = .ok (.aload_n 0, 1) := by decide +kernel
theorem dX4_append_25 : decode cX4_append 25 = .ok (.getfield 15, 3) := by decide +kernel
theorem dX4_append_28 : decode cX4_append 28 = .ok (.iload_n 1, 1) := by decide +kernel
theorem dX4_append_29 : decode cX4_append 29 = .ok (.castore, 1) := by decide +kernel
theorem dX4_append_30 : decode cX4_append 30 = .ok (.aload_n 0, 1) := by decide +kernel
theorem dX4_append_31 : decode cX4_append 31 = .ok (.dup, 1) := by decide +kernel
theorem dX4_append_32 : decode cX4_append 32 = .ok (.getfield 15, 3) := by decide +kernel
theorem dX4_append_35 : decode cX4_append 35 = .ok (.iconst 1, 1) := by decide +kernel
theorem dX4_append_36 : decode cX4_append 36 = .ok (.iadd, 1) := by decide +kernel
theorem dX4_append_37 : decode cX4_append 37 = .ok (.putfield 15, 3) := by decide +kernel
theorem dX4_append_40 : decode cX4_append 40 = .ok (.return_, 1) := by decide +kernel
theorem dX4_characterAt_0 : decode cX4_characterAt 0 = .ok (.iconst 0, 1) := by decide +kernel
theorem dX4_characterAt_1 : decode cX4_characterAt 1 = .ok (.iload_n 1, 1) := by decide +kernel
theorem dX4_characterAt_2 : decode cX4_characterAt 2 = .ok (.if_icmp .gt 21, 3) := by decide +kernel
theorem dX4_characterAt_5 : decode cX4_characterAt 5 = .ok (.iload_n 1, 1) := by decide +kernel
theorem dX4_characterAt_6 : decode cX4_characterAt 6 = .ok (.aload_n 0, 1) := by decide +kernel
theorem dX4_characterAt_7 : decode cX4_characterAt 7 = .ok (.getfield 9, 3) := by decide +kernel
theorem dX4_characterAt_10 : decode cX4_characterAt 10 = .ok (.arraylength, 1) := by decide +kernel
theorem dX4_characterAt_11 : decode cX4_characterAt 11 = .ok (.if_icmp .ge 12, 3) := by decide +kernel
theorem dX4_characterAt_14 : decode cX4_characterAt 14 = .ok (.aload_n 0, 1) := by decide +kernel
theorem dX4_characterAt_15 : decode cX4_characterAt 15 = .ok (.getfield 9, 3) := by decide +kernel
theorem dX4_characterAt_18 : decode cX4_characterAt 18 = .ok (.iload_n 1, 1) := by decide +kernel
theorem dX4_characterAt_19 : decode cX4_characterAt 19 = .ok (.caload, 1) := by decide +kernel
theorem dX4_characterAt_20 : decode cX4_characterAt 20 = .ok (.goto 4, 3) := by decide +kernel
theorem dX4_characterAt_23 : decode cX4_characterAt 23 = .ok (.iconst 0, 1) := by decide +kernel
theorem dX4_characterAt_24 : decode cX4_characterAt 24 = .ok (.ireturn, 1) := by decide +kernel
theorem dJ9_floorMod_7cf53_0 : decode cJ9_floorMod_7cf53 0 = .ok (.iload_n 0, 1) := by decide +kernel
theorem dJ9_floorMod_7cf53_1 : decode cJ9_floorMod_7cf53 1 = .ok (.iload_n 1, 1) := by decide +kernel
theorem dJ9_floorMod_7cf53_2 : decode cJ9_floorMod_7cf53 2 = .ok (.irem, 1) := by decide +kernel
theorem dJ9_floorMod_7cf53_3 : decode cJ9_floorMod_7cf53 3 = .ok (.istore_n 2, 1) := by decide +kernel
theorem dJ9_floorMod_7cf53_4 : decode cJ9_floorMod_7cf53 4 = .ok (.iload_n 0, 1) := by decide +kernel
theorem dJ9_floorMod_7cf53_5 : decode cJ9_floorMod_7cf53 5 = .ok (.iload_n 1, 1) := by decide +kernel
theorem dJ9_floorMod_7cf53_6 : decode cJ9_floorMod_7cf53 6 = .ok (.ixor, 1) := by decide +kernel
theorem dJ9_floorMod_7cf53_7 : decode cJ9_floorMod_7cf53 7 = .ok (.ifCond .ge 11, 3) := by decide +kernel
theorem dJ9_floorMod_7cf53_10 : decode cJ9_floorMod_7cf53 10 = .ok (.iload_n 2, 1) := by decide +kernel
theorem dJ9_floorMod_7cf53_11 : decode cJ9_floorMod_7cf53 11 = .ok (.ifCond .eq 7, 3) := by decide +kernel
theorem dJ9_floorMod_7cf53_14 : decode cJ9_floorMod_7cf53 14 = .ok (.iload_n 2, 1) := by decide +kernel
theorem dJ9_floorMod_7cf53_15 : decode cJ9_floorMod_7cf53 15 = .ok (.iload_n 1, 1) := by decide +kernel
theorem dJ9_floorMod_7cf53_16 : decode cJ9_floorMod_7cf53 16 = .ok (.iadd, 1) := by decide +kernel
theorem dJ9_floorMod_7cf53_17 : decode cJ9_floorMod_7cf53 17 = .ok (.ireturn, 1) := by decide +kernel
theorem dJ9_floorMod_7cf53_18 : decode cJ9_floorMod_7cf53 18 = .ok (.iload_n 2, 1) := by decide +kernel
theorem dJ9_floorMod_7cf53_19 : decode cJ9_floorMod_7cf53 19 = .ok (.ireturn, 1) := by decide +kernel
