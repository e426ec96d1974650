theorem dX0_init_0 : decode cX0_init 0 = .ok (.aload_n 0, 1) := by decide +kernel
theorem dX0_init_1 : decode cX0_init 1 = .ok (.invokespecial 3, 3) := by decide +kernel
theorem dX0_init_4 : decode cX0_init 4 = .ok (.aload_n 0, 1) := by decide +kernel
theorem dX0_init_5 : decode cX0_init 5 = .ok (.bipush 8, 2) := by decide +kernel
theorem dX0_init_7 : decode cX0_init 7 = .ok (.newarray .int, 2) := by decide +kernel
theorem dX0_init_9 : decode cX0_init 9 = .ok (.putfield 9, 3) := by decide +kernel
theorem dX0_init_12 : decode cX0_init 12 = .ok (.aload_n 0, 1) := by decide +kernel
theorem dX0_init_13 : decode cX0_init 13 = .ok (.bipush 8, 2) := by decide +kernel
theorem dX0_init_15 : decode cX0_init 15 = .ok (.newarray .int, 2) := by decide +kernel
theorem dX0_init_17 : decode cX0_init 17 = .ok (.putfield 15, 3) := by decide +kernel
theorem dX0_init_20 : decode cX0_init 20 = .ok (.aload_n 0, 1) := by decide +kernel
theorem dX0_init_21 : decode cX0_init 21 = .ok (.bipush 8, 2) := by decide +kernel
theorem dX0_init_23 : decode cX0_init 23 = .ok (.newarray .int, 2) := by decide +kernel
theorem dX0_init_25 : decode cX0_init 25 = .ok (.putfield 18, 3) := by decide +kernel
theorem dX0_init_28 : decode cX0_init 28 = .ok (.aload_n 0, 1) := by decide +kernel
theorem dX0_init_29 : decode cX0_init 29 = .ok (.bipush 8, 2) := by decide +kernel
theorem dX0_init_31 : decode cX0_init 31 = .ok (.newarray .int, 2) := by decide +kernel
theorem dX0_init_33 : decode cX0_init 33 = .ok (.putfield 21, 3) := by decide +kernel
theorem dX0_init_36 : decode cX0_init 36 = .ok (.aload_n 0, 1) := by decide +kernel
theorem dX0_init_37 : decode cX0_init 37 = .ok (.bipush 48, 2) := by decide +kernel
theorem dX0_init_39 : decode cX0_init 39 = .ok (.newarray .int, 2) := by decide +kernel
theorem dX0_init_41 : decode cX0_init 41 = .ok (.putfield 24, 3) := by decide +kernel
theorem dX0_init_44 : decode cX0_init 44 = .ok (.aload_n 0, 1) := by decide +kernel
theorem dX0_init_45 : decode cX0_init 45 = .ok (.bipush 16, 2) := by decide +kernel
theorem dX0_init_47 : decode cX0_init 47 = .ok (.newarray .int, 2) := by decide +kernel
theorem dX0_init_49 : decode cX0_init 49 = .ok (.putfield 27, 3) := by decide +kernel
theorem dX0_init_52 : decode cX0_init 52 = .ok (.iconst 0, 1) := by decide +kernel
theorem dX0_init_53 : decode cX0_init 53 = .ok (.istore_n 1, 1) := by decide +kernel
theorem dX0_init_54 : decode cX0_init 54 = .ok (.iload_n 1, 1) := by decide +kernel
theorem dX0_init_55 : decode cX0_init 55 = .ok (.aload_n 0, 1) := by decide +kernel
theorem dX0_init_56 : decode cX0_init 56 = .ok (.getfield 27, 3) := by decide +kernel
theorem dX0_init_59 : decode cX0_init 59 = .ok (.arraylength, 1) := by decide +kernel
theorem dX0_init_60 : decode cX0_init 60 = .ok (.if_icmp .ge 17, 3) := by decide +kernel
theorem dX0_init_63 : decode cX0_init 63 = .ok (.aload_n 0, 1) := by decide +kernel
theorem dX0_init_64 : decode cX0_init 64 = .ok (.getfield 27, 3) := by decide +kernel
theorem dX0_init_67 : decode cX0_init 67 = .ok (.iload_n 1, 1) := by decide +kernel
theorem dX0_init_68 : decode cX0_init 68 = .ok (.ldc 30, 2) := by decide +kernel
theorem dX0_init_70 : decode cX0_init 70 = .ok (.iastore, 1) := by decide +kernel
theorem dX0_init_71 : decode cX0_init 71 = .ok (.iinc 1 1, 3) := by decide +kernel
theorem dX0_init_74 : decode cX0_init 74 = .ok (.goto (-20), 3) := by decide +kernel
theorem dX0_init_77 : decode cX0_init 77 = .ok (.return_, 1) := by decide +kernel
theorem dX0_copy_0 : decode cX0_copy 0 = .ok (.aload_n 1, 1) := by decide +kernel
theorem dX0_copy_1 : decode cX0_copy 1 = .ok (.getfield 9, 3) := by decide +kernel
theorem dX0_copy_4 : decode cX0_copy 4 = .ok (.iconst 0, 1) := by decide +kernel
theorem dX0_copy_5 : decode cX0_copy 5 = .ok (.aload_n 0, 1) := by decide +kernel
theorem dX0_copy_6 : decode cX0_copy 6 = .ok (.getfield 9, 3) := by decide +kernel
theorem dX0_copy_9 : decode cX0_copy 9 = .ok (.iconst 0, 1) := by decide +kernel
theorem dX0_copy_10 : decode cX0_copy 10 = .ok (.bipush 8, 2) := by decide +kernel
theorem dX0_copy_12 : decode cX0_copy 12 = .ok (.invokestatic 31, 3) := by decide +kernel
theorem dX0_copy_15 : decode cX0_copy 15 = .ok (.aload_n 1, 1) := by decide +kernel
theorem dX0_copy_16 : decode cX0_copy 16 = .ok (.getfield 15, 3) := by decide +kernel
theorem dX0_copy_19 : decode cX0_copy 19 = .ok (.iconst 0, 1) := by decide +kernel
theorem dX0_copy_20 : decode cX0_copy 20 = .ok (.aload_n 0, 1) := by decide +kernel
theorem dX0_copy_21 : decode cX0_copy 21 = .ok (.getfield 15, 3) := by decide +kernel
theorem dX0_copy_24 : decode cX0_copy 24 = .ok (.iconst 0, 1) := by decide +kernel
theorem dX0_copy_25 : decode cX0_copy 25 = .ok (.bipush 8, 2) := by decide +kernel
theorem dX0_copy_27 : decode cX0_copy 27 = .ok (.invokestatic 31, 3) := by decide +kernel
theorem dX0_copy_30 : decode cX0_copy 30 = .ok (.aload_n 1, 1) := by decide +kernel
theorem dX0_copy_31 : decode cX0_copy 31 = .ok (.getfield 18, 3) := by decide +kernel
theorem dX0_copy_34 : decode cX0_copy 34 = .ok (.iconst 0, 1) := by decide +kernel
theorem dX0_copy_35 : decode cX0_copy 35 = .ok (.aload_n 0, 1) := by decide +kernel
theorem dX0_copy_36 : decode cX0_copy 36 = .ok (.getfield 18, 3) := by decide +kernel
theorem dX0_copy_39 : decode cX0_copy 39 = .ok (.iconst 0, 1) := by decide +kernel
theorem dX0_copy_40 : decode cX0_copy 40 = .ok (.bipush 8, 2) := by decide +kernel
theorem dX0_copy_42 : decode cX0_copy 42 = .ok (.invokestatic 31, 3) := by decide +kernel
theorem dX0_copy_45 : decode cX0_copy 45 = .ok (.aload_n 1, 1) := by decide +kernel
theorem dX0_copy_46 : decode cX0_copy 46 = .ok (.getfield 21, 3) := by decide +kernel
theorem dX0_copy_49 : decode cX0_copy 49 = .ok (.iconst 0, 1) := by decide +kernel
theorem dX0_copy_50 : decode cX0_copy 50 = .ok (.aload_n 0, 1) := by decide +kernel
theorem dX0_copy_51 : decode cX0_copy 51 = .ok (.getfield 21, 3) := by decide +kernel
theorem dX0_copy_54 : decode cX0_copy 54 = .ok (.iconst 0, 1) := by decide +kernel
theorem dX0_copy_55 : decode cX0_copy 55 = .ok (.bipush 8, 2) := by decide +kernel
theorem dX0_copy_57 : decode cX0_copy 57 = .ok (.invokestatic 31, 3) := by decide +kernel
theorem dX0_copy_60 : decode cX0_copy 60 = .ok (.aload_n 1, 1) := by decide +kernel
theorem dX0_copy_61 : decode cX0_copy 61 = .ok (.getfield 24, 3) := by decide +kernel
theorem dX0_copy_64 : decode cX0_copy 64 = .ok (.iconst 0, 1) := by decide +kernel
theorem dX0_copy_65 : decode cX0_copy 65 = .ok (.aload_n 0, 1) := by decide +kernel
theorem dX0_copy_66 : decode cX0_copy 66 = .ok (.getfield 24, 3) := by decide +kernel
theorem dX0_copy_69 : decode cX0_copy 69 = .ok (.iconst 0, 1) := by decide +kernel
theorem dX0_copy_70 : decode cX0_copy 70 = .ok (.bipush 48, 2) := by decide +kernel
theorem dX0_copy_72 : decode cX0_copy 72 = .ok (.invokestatic 31, 3) := by decide +kernel
theorem dX0_copy_75 : decode cX0_copy 75 = .ok (.aload_n 1, 1) := by decide +kernel
theorem dX0_copy_76 : decode cX0_copy 76 = .ok (.getfield 27, 3) := by decide +kernel
theorem dX0_copy_79 : decode cX0_copy 79 = .ok (.iconst 0, 1) := by decide +kernel
theorem dX0_copy_80 : decode cX0_copy 80 = .ok (.aload_n 0, 1) := by decide +kernel
theorem dX0_copy_81 : decode cX0_copy 81 = .ok (.getfield 27, 3) := by decide +kernel
theorem dX0_copy_84 : decode cX0_copy 84 = .ok (.iconst 0, 1) := by decide +kernel
theorem dX0_copy_85 : decode cX0_copy 85 = .ok (.bipush 16, 2) := by decide +kernel
theorem dX0_copy_87 : decode cX0_copy 87 = .ok (.invokestatic 31, 3) := by decide +kernel
theorem dX0_copy_90 : decode cX0_copy 90 = .ok (.aload_n 0, 1) := by decide +kernel
theorem dX0_copy_91 : decode cX0_copy 91 = .ok (.aload_n 1, 1) := by decide +kernel
theorem dX0_copy_92 : decode cX0_copy 92 = .ok (.getfield 37, 3) := by decide +kernel
theorem dX0_copy_95 : decode cX0_copy 95 = .ok (.putfield 37, 3) := by decide +kernel
theorem dX0_copy_98 : decode cX0_copy 98 = .ok (.aload_n 0, 1) := by decide +kernel
theorem dX0_copy_99 : decode cX0_copy 99 = .ok (.aload_n 1, 1) := by decide +kernel
theorem dX0_copy_100 : decode cX0_copy 100 = .ok (.getfield 41, 3) := by decide +kernel
theorem dX0_copy_103 : decode cX0_copy 103 = .ok (.putfield 41, 3) := by decide +kernel
theorem dX0_copy_106 : decode cX0_copy 106 = .ok (.aload_n 0, 1) := by decide +kernel
theorem dX0_copy_107 : decode cX0_copy 107 = .ok (.aload_n 1, 1) := by decide +kernel
theorem dX0_copy_108 : decode cX0_copy 108 = .ok (.getfield 44, 3) := by decide +kernel
theorem dX0_copy_111 : decode cX0_copy 111 = .ok (.putfield 44, 3) := by decide +kernel
theorem dX0_copy_114 : decode cX0_copy 114 = .ok (.aload_n 0, 1) := by decide +kernel
theorem dX0_copy_115 : decode cX0_copy 115 = .ok (.aload_n 1, 1) := by decide +kernel
theorem dX0_copy_116 : decode cX0_copy 116 = .ok (.getfield 47, 3) := by decide +kernel
theorem dX0_copy_119 : decode cX0_copy 119 = .ok (.putfield 47, 3) := by decide +kernel
theorem dX0_copy_122 : decode cX0_copy 122 = .ok (.aload_n 0, 1) := by decide +kernel
theorem dX0_copy_123 : decode cX0_copy 123 = .ok (.aload_n 1, 1) := by decide +kernel
theorem dX0_copy_124 : decode cX0_copy 124 = .ok (.getfield 50, 3) := by decide +kernel
theorem dX0_copy_127 : decode cX0_copy 127 = .ok (.putfield 50, 3) := by decide +kernel
theorem dX0_copy_130 : decode cX0_copy 130 = .ok (.aload_n 0, 1) := by decide +kernel
theorem dX0_copy_131 : decode cX0_copy 131 = .ok (.aload_n 1, 1) := by decide +kernel
theorem dX0_copy_132 : decode cX0_copy 132 = .ok (.getfield 53, 3) := by decide +kernel
theorem dX0_copy_135 : decode cX0_copy 135 = .ok (.putfield 53, 3) := by decide +kernel
theorem dX0_copy_138 : decode cX0_copy 138 = .ok (.aload_n 0, 1) := by decide +kernel
theorem dX0_copy_139 : decode cX0_copy 139 = .ok (.aload_n 1, 1) := by decide +kernel
theorem dX0_copy_140 : decode cX0_copy 140 = .ok (.getfield 56, 3) := by decide +kernel
theorem dX0_copy_143 : decode cX0_copy 143 = .ok (.putfield 56, 3) := by decide +kernel
theorem dX0_copy_146 : decode cX0_copy 146 = .ok (.aload_n 0, 1) := by decide +kernel
theorem dX0_copy_147 : decode cX0_copy 147 = .ok (.aload_n 1, 1) := by decide +kernel
theorem dX0_copy_148 : decode cX0_copy 148 = .ok (.getfield 59, 3) := by decide +kernel
theorem dX0_copy_151 : decode cX0_copy 151 = .ok (.putfield 59, 3) := by decide +kernel
theorem dX0_copy_154 : decode cX0_copy 154 = .ok (.aload_n 0, 1) := by decide +kernel
theorem dX0_copy_155 : decode cX0_copy 155 = .ok (.aload_n 1, 1) := by decide +kernel
theorem dX0_copy_156 : decode cX0_copy 156 = .ok (.getfield 62, 3) := by decide +kernel
theorem dX0_copy_159 : decode cX0_copy 159 = .ok (.putfield 62, 3) := by decide +kernel
theorem dX0_copy_162 : decode cX0_copy 162 = .ok (.return_, 1) := by decide +kernel
theorem dX0_has_0 : decode cX0_has 0 = .ok (.iload_n 1, 1) := by decide +kernel
theorem dX0_has_1 : decode cX0_has 1 = .ok (.iconst 0, 1) := by decide +kernel
theorem dX0_has_2 : decode cX0_has 2 = .ok (.aload_n 0, 1) := by decide +kernel
theorem dX0_has_3 : decode cX0_has 3 = .ok (.getfield 37, 3) := by decide +kernel
theorem dX0_has_6 : decode cX0_has 6 = .ok (.iconst 1, 1) := by decide +kernel
theorem dX0_has_7 : decode cX0_has 7 = .ok (.isub, 1) := by decide +kernel
theorem dX0_has_8 : decode cX0_has 8 = .ok (.invokestatic 65, 3) := by decide +kernel
theorem dX0_has_11 : decode cX0_has 11 = .ok (.ireturn, 1) := by decide +kernel
theorem dX0_add_0 : decode cX0_add 0 = .ok (.aload_n 0, 1) := by decide +kernel
theorem dX0_add_1 : decode cX0_add 1 = .ok (.getfield 37, 3) := by decide +kernel
theorem dX0_add_4 : decode cX0_add 4 = .ok (.istore 4, 2) := by decide +kernel
theorem dX0_add_6 : decode cX0_add 6 = .ok (.aload_n 0, 1) := by decide +kernel
theorem dX0_add_7 : decode cX0_add 7 = .ok (.dup, 1) := by decide +kernel
theorem dX0_add_8 : decode cX0_add 8 = .ok (.getfield 37, 3) := by decide +kernel
theorem dX0_add_11 : decode cX0_add 11 = .ok (.iconst 1, 1) := by decide +kernel
theorem dX0_add_12 : decode cX0_add 12 = .ok (.iadd, 1) := by decide +kernel
theorem dX0_add_13 : decode cX0_add 13 = .ok (.putfield 37, 3) := by decide +kernel
theorem dX0_add_16 : decode cX0_add 16 = .ok (.aload_n 0, 1) := by decide +kernel
theorem dX0_add_17 : decode cX0_add 17 = .ok (.iload 4, 2) := by decide +kernel
theorem dX0_add_19 : decode cX0_add 19 = .ok (.iload_n 1, 1) := by decide +kernel
theorem dX0_add_20 : decode cX0_add 20 = .ok (.iload_n 2, 1) := by decide +kernel
theorem dX0_add_21 : decode cX0_add 21 = .ok (.iload_n 3, 1) := by decide +kernel
theorem dX0_add_22 : decode cX0_add 22 = .ok (.invokevirtual 69, 3) := by decide +kernel
theorem dX0_add_25 : decode cX0_add 25 = .ok (.pop, 1) := by decide +kernel
theorem dX0_add_26 : decode cX0_add 26 = .ok (.iload 4, 2) := by decide +kernel
theorem dX0_add_28 : decode cX0_add 28 = .ok (.ireturn, 1) := by decide +kernel
theorem dX0_putDelays_0 : decode cX0_putDelays 0 = .ok (.aload_n 0, 1) := by decide +kernel
theorem dX0_putDelays_1 : decode cX0_putDelays 1 = .ok (.getfield 9, 3) := by decide +kernel
theorem dX0_putDelays_4 : decode cX0_putDelays 4 = .ok (.iload_n 1, 1) := by decide +kernel
theorem dX0_putDelays_5 : decode cX0_putDelays 5 = .ok (.invokestatic 73, 3) := by decide +kernel
theorem dX0_putDelays_8 : decode cX0_putDelays 8 = .ok (.iload_n 2, 1) := by decide +kernel
theorem dX0_putDelays_9 : decode cX0_putDelays 9 = .ok (.if_icmp .ne 32, 3) := by decide +kernel
theorem dX0_putDelays_12 : decode cX0_putDelays 12 = .ok (.aload_n 0, 1) := by decide +kernel
theorem dX0_putDelays_13 : decode cX0_putDelays 13 = .ok (.getfield 15, 3) := by decide +kernel
theorem dX0_putDelays_16 : decode cX0_putDelays 16 = .ok (.iload_n 1, 1) := by decide +kernel
theorem dX0_putDelays_17 : decode cX0_putDelays 17 = .ok (.invokestatic 73, 3) := by decide +kernel
theorem dX0_putDelays_20 : decode cX0_putDelays 20 = .ok (.iload_n 3, 1) := by decide +kernel
theorem dX0_putDelays_21 : decode cX0_putDelays 21 = .ok (.if_icmp .ne 20, 3) := by decide +kernel
theorem dX0_putDelays_24 : decode cX0_putDelays 24 = .ok (.aload_n 0, 1) := by decide +kernel
theorem dX0_putDelays_25 : decode cX0_putDelays 25 = .ok (.getfield 18, 3) := by decide +kernel
theorem dX0_putDelays_28 : decode cX0_putDelays 28 = .ok (.iload_n 1, 1) := by decide +kernel
theorem dX0_putDelays_29 : decode cX0_putDelays 29 = .ok (.invokestatic 73, 3) := by decide +kernel
theorem dX0_putDelays_32 : decode cX0_putDelays 32 = .ok (.iload 4, 2) := by decide +kernel
theorem dX0_putDelays_34 : decode cX0_putDelays 34 = .ok (.if_icmp .ne 7, 3) := by decide +kernel
theorem dX0_putDelays_37 : decode cX0_putDelays 37 = .ok (.iconst 1, 1) := by decide +kernel
theorem dX0_putDelays_38 : decode cX0_putDelays 38 = .ok (.goto 4, 3) := by decide +kernel
theorem dX0_putDelays_41 : decode cX0_putDelays 41 = .ok (.iconst 0, 1) := by decide +kernel
theorem dX0_putDelays_42 : decode cX0_putDelays 42 = .ok (.istore 5, 2) := by decide +kernel
theorem dX0_putDelays_44 : decode cX0_putDelays 44 = .ok (.aload_n 0, 1) := by decide +kernel
theorem dX0_putDelays_45 : decode cX0_putDelays 45 = .ok (.getfield 9, 3) := by decide +kernel
theorem dX0_putDelays_48 : decode cX0_putDelays 48 = .ok (.iload_n 1, 1) := by decide +kernel
theorem dX0_putDelays_49 : decode cX0_putDelays 49 = .ok (.iload_n 2, 1) := by decide +kernel
theorem dX0_putDelays_50 : decode cX0_putDelays 50 = .ok (.invokestatic 77, 3) := by decide +kernel
theorem dX0_putDelays_53 : decode cX0_putDelays 53 = .ok (.aload_n 0, 1) := by decide +kernel
theorem dX0_putDelays_54 : decode cX0_putDelays 54 = .ok (.getfield 15, 3) := by decide +kernel
theorem dX0_putDelays_57 : decode cX0_putDelays 57 = .ok (.iload_n 1, 1) := by decide +kernel
theorem dX0_putDelays_58 : decode cX0_putDelays 58 = .ok (.iload_n 3, 1) := by decide +kernel
theorem dX0_putDelays_59 : decode cX0_putDelays 59 = .ok (.invokestatic 77, 3) := by decide +kernel
theorem dX0_putDelays_62 : decode cX0_putDelays 62 = .ok (.aload_n 0, 1) := by decide +kernel
theorem dX0_putDelays_63 : decode cX0_putDelays 63 = .ok (.getfield 18, 3) := by decide +kernel
theorem dX0_putDelays_66 : decode cX0_putDelays 66 = .ok (.iload_n 1, 1) := by decide +kernel
theorem dX0_putDelays_67 : decode cX0_putDelays 67 = .ok (.iload 4, 2) := by decide +kernel
theorem dX0_putDelays_69 : decode cX0_putDelays 69 = .ok (.invokestatic 77, 3) := by decide +kernel
theorem dX0_putDelays_72 : decode cX0_putDelays 72 = .ok (.iload 5, 2) := by decide +kernel
theorem dX0_putDelays_74 : decode cX0_putDelays 74 = .ok (.ifCond .ne 7, 3) := by decide +kernel
theorem dX0_putDelays_77 : decode cX0_putDelays 77 = .ok (.iconst 1, 1) := by decide +kernel
theorem dX0_putDelays_78 : decode cX0_putDelays 78 = .ok (.goto 4, 3) := by decide +kernel
theorem dX0_putDelays_81 : decode cX0_putDelays 81 = .ok (.iconst 0, 1) := by decide +kernel
theorem dX0_putDelays_82 : decode cX0_putDelays 82 = .ok (.ireturn, 1) := by decide +kernel
theorem dX0_branchesOf_0 : decode cX0_branchesOf 0 = .ok (.aload_n 0, 1) := by decide +kernel
theorem dX0_branchesOf_1 : decode cX0_branchesOf 1 = .ok (.getfield 21, 3) := by decide +kernel
theorem dX0_branchesOf_4 : decode cX0_branchesOf 4 = .ok (.iload_n 1, 1) := by decide +kernel
theorem dX0_branchesOf_5 : decode cX0_branchesOf 5 = .ok (.invokestatic 73, 3) := by decide +kernel
theorem dX0_branchesOf_8 : decode cX0_branchesOf 8 = .ok (.ireturn, 1) := by decide +kernel
theorem dX0_branchAt_0 : decode cX0_branchAt 0 = .ok (.aload_n 0, 1) := by decide +kernel
theorem dX0_branchAt_1 : decode cX0_branchAt 1 = .ok (.getfield 24, 3) := by decide +kernel
theorem dX0_branchAt_4 : decode cX0_branchAt 4 = .ok (.iload_n 1, 1) := by decide +kernel
theorem dX0_branchAt_5 : decode cX0_branchAt 5 = .ok (.bipush 6, 2) := by decide +kernel
theorem dX0_branchAt_7 : decode cX0_branchAt 7 = .ok (.imul, 1) := by decide +kernel
theorem dX0_branchAt_8 : decode cX0_branchAt 8 = .ok (.iload_n 2, 1) := by decide +kernel
theorem dX0_branchAt_9 : decode cX0_branchAt 9 = .ok (.iadd, 1) := by decide +kernel
theorem dX0_branchAt_10 : decode cX0_branchAt 10 = .ok (.invokestatic 73, 3) := by decide +kernel
theorem dX0_branchAt_13 : decode cX0_branchAt 13 = .ok (.ireturn, 1) := by decide +kernel
theorem dX0_putBranch_0 : decode cX0_putBranch 0 = .ok (.aload_n 0, 1) := by decide +kernel
theorem dX0_putBranch_1 : decode cX0_putBranch 1 = .ok (.getfield 24, 3) := by decide +kernel
theorem dX0_putBranch_4 : decode cX0_putBranch 4 = .ok (.iload_n 1, 1) := by decide +kernel
theorem dX0_putBranch_5 : decode cX0_putBranch 5 = .ok (.bipush 6, 2) := by decide +kernel
theorem dX0_putBranch_7 : decode cX0_putBranch 7 = .ok (.imul, 1) := by decide +kernel
theorem dX0_putBranch_8 : decode cX0_putBranch 8 = .ok (.iload_n 2, 1) := by decide +kernel
theorem dX0_putBranch_9 : decode cX0_putBranch 9 = .ok (.iadd, 1) := by decide +kernel
theorem dX0_putBranch_10 : decode cX0_putBranch 10 = .ok (.iload_n 3, 1) := by decide +kernel
theorem dX0_putBranch_11 : decode cX0_putBranch 11 = .ok (.invokestatic 77, 3) := by decide +kernel
theorem dX0_putBranch_14 : decode cX0_putBranch 14 = .ok (.return_, 1) := by decide +kernel
theorem dX0_putCondition_0 : decode cX0_putCondition 0 = .ok (.iload_n 2, 1) := by decide +kernel
theorem dX0_putCondition_1 : decode cX0_putCondition 1 = .ok (.aload_n 0, 1) := by decide +kernel
theorem dX0_putCondition_2 : decode cX0_putCondition 2 = .ok (.iload_n 1, 1) := by decide +kernel
theorem dX0_putCondition_3 : decode cX0_putCondition 3 = .ok (.invokevirtual 81, 3) := by decide +kernel
theorem dX0_putCondition_6 : decode cX0_putCondition 6 = .ok (.if_icmp .ne 7, 3) := by decide +kernel
theorem dX0_putCondition_9 : decode cX0_putCondition 9 = .ok (.iconst 1, 1) := by decide +kernel
theorem dX0_putCondition_10 : decode cX0_putCondition 10 = .ok (.goto 4, 3) := by decide +kernel
theorem dX0_putCondition_13 : decode cX0_putCondition 13 = .ok (.iconst 0, 1) := by decide +kernel
theorem dX0_putCondition_14 : decode cX0_putCondition 14 = .ok (.istore 5, 2) := by decide +kernel
theorem dX0_putCondition_16 : decode cX0_putCondition 16 = .ok (.iload 5, 2) := by decide +kernel
theorem dX0_putCondition_18 : decode cX0_putCondition 18 = .ok (.ifCond .eq 7, 3) := by decide +kernel
theorem dX0_putCondition_21 : decode cX0_putCondition 21 = .ok (.iconst 0, 1) := by decide +kernel
theorem dX0_putCondition_22 : decode cX0_putCondition 22 = .ok (.goto 9, 3) := by decide +kernel
theorem dX0_putCondition_25 : decode cX0_putCondition 25 = .ok (.aload_n 0, 1) := by decide +kernel
theorem dX0_putCondition_26 : decode cX0_putCondition 26 = .ok (.iload_n 1, 1) := by decide +kernel
theorem dX0_putCondition_27 : decode cX0_putCondition 27 = .ok (.iload_n 2, 1) := by decide +kernel
theorem dX0_putCondition_28 : decode cX0_putCondition 28 = .ok (.invokevirtual 85, 3) := by decide +kernel
theorem dX0_putCondition_31 : decode cX0_putCondition 31 = .ok (.istore 6, 2) := by decide +kernel
theorem dX0_putCondition_33 : decode cX0_putCondition 33 = .ok (.iload 5, 2) := by decide +kernel
theorem dX0_putCondition_35 : decode cX0_putCondition 35 = .ok (.ifCond .eq 14, 3) := by decide +kernel
theorem dX0_putCondition_38 : decode cX0_putCondition 38 = .ok (.aload_n 0, 1) := by decide +kernel
theorem dX0_putCondition_39 : decode cX0_putCondition 39 = .ok (.getfield 21, 3) := by decide +kernel
theorem dX0_putCondition_42 : decode cX0_putCondition 42 = .ok (.iload_n 1, 1) := by decide +kernel
theorem dX0_putCondition_43 : decode cX0_putCondition 43 = .ok (.iload_n 2, 1) := by decide +kernel
theorem dX0_putCondition_44 : decode cX0_putCondition 44 = .ok (.iconst 1, 1) := by decide +kernel
theorem dX0_putCondition_45 : decode cX0_putCondition 45 = .ok (.iadd, 1) := by decide +kernel
theorem dX0_putCondition_46 : decode cX0_putCondition 46 = .ok (.invokestatic 77, 3) := by decide +kernel
theorem dX0_putCondition_49 : decode cX0_putCondition 49 = .ok (.aload_n 0, 1) := by decide +kernel
theorem dX0_putCondition_50 : decode cX0_putCondition 50 = .ok (.iload_n 1, 1) := by decide +kernel
theorem dX0_putCondition_51 : decode cX0_putCondition 51 = .ok (.iload_n 2, 1) := by decide +kernel
theorem dX0_putCondition_52 : decode cX0_putCondition 52 = .ok (.iload 6, 2) := by decide +kernel
theorem dX0_putCondition_54 : decode cX0_putCondition 54 = .ok (.iload_n 3, 1) := by decide +kernel
theorem dX0_putCondition_55 : decode cX0_putCondition 55 = .ok (.iload 4, 2) := by decide +kernel
theorem dX0_putCondition_57 : decode cX0_putCondition 57 = .ok (.invokestatic 89, 3) := by decide +kernel
theorem dX0_putCondition_60 : decode cX0_putCondition 60 = .ok (.invokevirtual 95, 3) := by decide +kernel
theorem dX0_putCondition_63 : decode cX0_putCondition 63 = .ok (.aload_n 0, 1) := by decide +kernel
theorem dX0_putCondition_64 : decode cX0_putCondition 64 = .ok (.invokevirtual 99, 3) := by decide +kernel
theorem dX0_putCondition_67 : decode cX0_putCondition 67 = .ok (.pop, 1) := by decide +kernel
theorem dX0_putCondition_68 : decode cX0_putCondition 68 = .ok (.iload 6, 2) := by decide +kernel
theorem dX0_putCondition_70 : decode cX0_putCondition 70 = .ok (.iload_n 3, 1) := by decide +kernel
theorem dX0_putCondition_71 : decode cX0_putCondition 71 = .ok (.invokestatic 103, 3) := by decide +kernel
theorem dX0_putCondition_74 : decode cX0_putCondition 74 = .ok (.ireturn, 1) := by decide +kernel
theorem dX0_dropBranch_0 : decode cX0_dropBranch 0 = .ok (.aload_n 0, 1) := by decide +kernel
theorem dX0_dropBranch_1 : decode cX0_dropBranch 1 = .ok (.iload_n 1, 1) := by decide +kernel
theorem dX0_dropBranch_2 : decode cX0_dropBranch 2 = .ok (.invokevirtual 81, 3) := by decide +kernel
theorem dX0_dropBranch_5 : decode cX0_dropBranch 5 = .ok (.iconst 1, 1) := by decide +kernel
theorem dX0_dropBranch_6 : decode cX0_dropBranch 6 = .ok (.isub, 1) := by decide +kernel
theorem dX0_dropBranch_7 : decode cX0_dropBranch 7 = .ok (.istore_n 3, 1) := by decide +kernel
theorem dX0_dropBranch_8 : decode cX0_dropBranch 8 = .ok (.iload_n 2, 1) := by decide +kernel
theorem dX0_dropBranch_9 : decode cX0_dropBranch 9 = .ok (.istore 4, 2) := by decide +kernel
theorem dX0_dropBranch_11 : decode cX0_dropBranch 11 = .ok (.iload 4, 2) := by decide +kernel
theorem dX0_dropBranch_13 : decode cX0_dropBranch 13 = .ok (.iload_n 3, 1) := by decide +kernel
theorem dX0_dropBranch_14 : decode cX0_dropBranch 14 = .ok (.if_icmp .ge 25, 3) := by decide +kernel
theorem dX0_dropBranch_17 : decode cX0_dropBranch 17 = .ok (.aload_n 0, 1) := by decide +kernel
theorem dX0_dropBranch_18 : decode cX0_dropBranch 18 = .ok (.iload_n 1, 1) := by decide +kernel
theorem dX0_dropBranch_19 : decode cX0_dropBranch 19 = .ok (.iload 4, 2) := by decide +kernel
theorem dX0_dropBranch_21 : decode cX0_dropBranch 21 = .ok (.aload_n 0, 1) := by decide +kernel
theorem dX0_dropBranch_22 : decode cX0_dropBranch 22 = .ok (.iload_n 1, 1) := by decide +kernel
theorem dX0_dropBranch_23 : decode cX0_dropBranch 23 = .ok (.iload 4, 2) := by decide +kernel
theorem dX0_dropBranch_25 : decode cX0_dropBranch 25 = .ok (.iconst 1, 1) := by decide +kernel
theorem dX0_dropBranch_26 : decode cX0_dropBranch 26 = .ok (.iadd, 1) := by decide +kernel
theorem dX0_dropBranch_27 : decode cX0_dropBranch 27 = .ok (.invokevirtual 85, 3) := by decide +kernel
theorem dX0_dropBranch_30 : decode cX0_dropBranch 30 = .ok (.invokevirtual 95, 3) := by decide +kernel
theorem dX0_dropBranch_33 : decode cX0_dropBranch 33 = .ok (.iinc 4 1, 3) := by decide +kernel
theorem dX0_dropBranch_36 : decode cX0_dropBranch 36 = .ok (.goto (-25), 3) := by decide +kernel
theorem dX0_dropBranch_39 : decode cX0_dropBranch 39 = .ok (.aload_n 0, 1) := by decide +kernel
theorem dX0_dropBranch_40 : decode cX0_dropBranch 40 = .ok (.getfield 21, 3) := by decide +kernel
theorem dX0_dropBranch_43 : decode cX0_dropBranch 43 = .ok (.iload_n 1, 1) := by decide +kernel
theorem dX0_dropBranch_44 : decode cX0_dropBranch 44 = .ok (.iload_n 3, 1) := by decide +kernel
theorem dX0_dropBranch_45 : decode cX0_dropBranch 45 = .ok (.invokestatic 77, 3) := by decide +kernel
theorem dX0_dropBranch_48 : decode cX0_dropBranch 48 = .ok (.aload_n 0, 1) := by decide +kernel
theorem dX0_dropBranch_49 : decode cX0_dropBranch 49 = .ok (.invokevirtual 99, 3) := by decide +kernel
theorem dX0_dropBranch_52 : decode cX0_dropBranch 52 = .ok (.pop, 1) := by decide +kernel
theorem dX0_dropBranch_53 : decode cX0_dropBranch 53 = .ok (.iload_n 3, 1) := by decide +kernel
theorem dX0_dropBranch_54 : decode cX0_dropBranch 54 = .ok (.ireturn, 1) := by decide +kernel
theorem dX0_concerns_0 : decode cX0_concerns 0 = .ok (.aload_n 0, 1) := by decide +kernel
theorem dX0_concerns_1 : decode cX0_concerns 1 = .ok (.iload_n 1, 1) := by decide +kernel
theorem dX0_concerns_2 : decode cX0_concerns 2 = .ok (.invokevirtual 81, 3) := by decide +kernel
theorem dX0_concerns_5 : decode cX0_concerns 5 = .ok (.istore_n 3, 1) := by decide +kernel
theorem dX0_concerns_6 : decode cX0_concerns 6 = .ok (.iconst 0, 1) := by decide +kernel
theorem dX0_concerns_7 : decode cX0_concerns 7 = .ok (.istore 4, 2) := by decide +kernel
theorem dX0_concerns_9 : decode cX0_concerns 9 = .ok (.iload 4, 2) := by decide +kernel
theorem dX0_concerns_11 : decode cX0_concerns 11 = .ok (.iload_n 3, 1) := by decide +kernel
theorem dX0_concerns_12 : decode cX0_concerns 12 = .ok (.if_icmp .ge 25, 3) := by decide +kernel
theorem dX0_concerns_15 : decode cX0_concerns 15 = .ok (.aload_n 0, 1) := by decide +kernel
theorem dX0_concerns_16 : decode cX0_concerns 16 = .ok (.iload_n 1, 1) := by decide +kernel
theorem dX0_concerns_17 : decode cX0_concerns 17 = .ok (.iload 4, 2) := by decide +kernel
theorem dX0_concerns_19 : decode cX0_concerns 19 = .ok (.invokevirtual 85, 3) := by decide +kernel
theorem dX0_concerns_22 : decode cX0_concerns 22 = .ok (.iload_n 2, 1) := by decide +kernel
theorem dX0_concerns_23 : decode cX0_concerns 23 = .ok (.invokestatic 103, 3) := by decide +kernel
theorem dX0_concerns_26 : decode cX0_concerns 26 = .ok (.ifCond .eq 5, 3) := by decide +kernel
theorem dX0_concerns_29 : decode cX0_concerns 29 = .ok (.iconst 1, 1) := by decide +kernel
theorem dX0_concerns_30 : decode cX0_concerns 30 = .ok (.ireturn, 1) := by decide +kernel
theorem dX0_concerns_31 : decode cX0_concerns 31 = .ok (.iinc 4 1, 3) := by decide +kernel
theorem dX0_concerns_34 : decode cX0_concerns 34 = .ok (.goto (-25), 3) := by decide +kernel
theorem dX0_concerns_37 : decode cX0_concerns 37 = .ok (.iconst 0, 1) := by decide +kernel
theorem dX0_concerns_38 : decode cX0_concerns 38 = .ok (.ireturn, 1) := by decide +kernel
theorem dX0_turnKey_0 : decode cX0_turnKey 0 = .ok (.aload_n 0, 1) := by decide +kernel
theorem dX0_turnKey_1 : decode cX0_turnKey 1 = .ok (.dup, 1) := by decide +kernel
theorem dX0_turnKey_2 : decode cX0_turnKey 2 = .ok (.getfield 44, 3) := by decide +kernel
theorem dX0_turnKey_5 : decode cX0_turnKey 5 = .ok (.iconst 1, 1) := by decide +kernel
theorem dX0_turnKey_6 : decode cX0_turnKey 6 = .ok (.iload_n 1, 1) := by decide +kernel
theorem dX0_turnKey_7 : decode cX0_turnKey 7 = .ok (.ishl, 1) := by decide +kernel
theorem dX0_turnKey_8 : decode cX0_turnKey 8 = .ok (.ixor, 1) := by decide +kernel
theorem dX0_turnKey_9 : decode cX0_turnKey 9 = .ok (.putfield 44, 3) := by decide +kernel
theorem dX0_turnKey_12 : decode cX0_turnKey 12 = .ok (.aload_n 0, 1) := by decide +kernel
theorem dX0_turnKey_13 : decode cX0_turnKey 13 = .ok (.invokevirtual 99, 3) := by decide +kernel
theorem dX0_turnKey_16 : decode cX0_turnKey 16 = .ok (.ireturn, 1) := by decide +kernel
theorem dX0_faultOf_0 : decode cX0_faultOf 0 = .ok (.aload_n 0, 1) := by decide +kernel
theorem dX0_faultOf_1 : decode cX0_faultOf 1 = .ok (.getfield 59, 3) := by decide +kernel
theorem dX0_faultOf_4 : decode cX0_faultOf 4 = .ok (.iload_n 1, 1) := by decide +kernel
theorem dX0_faultOf_5 : decode cX0_faultOf 5 = .ok (.invokestatic 106, 3) := by decide +kernel
theorem dX0_faultOf_8 : decode cX0_faultOf 8 = .ok (.ifCond .eq 7, 3) := by decide +kernel
theorem dX0_faultOf_11 : decode cX0_faultOf 11 = .ok (.iconst 1, 1) := by decide +kernel
theorem dX0_faultOf_12 : decode cX0_faultOf 12 = .ok (.goto 19, 3) := by decide +kernel
theorem dX0_faultOf_15 : decode cX0_faultOf 15 = .ok (.aload_n 0, 1) := by decide +kernel
theorem dX0_faultOf_16 : decode cX0_faultOf 16 = .ok (.getfield 62, 3) := by decide +kernel
theorem dX0_faultOf_19 : decode cX0_faultOf 19 = .ok (.iload_n 1, 1) := by decide +kernel
theorem dX0_faultOf_20 : decode cX0_faultOf 20 = .ok (.invokestatic 106, 3) := by decide +kernel
theorem dX0_faultOf_23 : decode cX0_faultOf 23 = .ok (.ifCond .eq 7, 3) := by decide +kernel
theorem dX0_faultOf_26 : decode cX0_faultOf 26 = .ok (.iconst 2, 1) := by decide +kernel
theorem dX0_faultOf_27 : decode cX0_faultOf 27 = .ok (.goto 4, 3) := by decide +kernel
theorem dX0_faultOf_30 : decode cX0_faultOf 30 = .ok (.iconst 0, 1) := by decide +kernel
theorem dX0_faultOf_31 : decode cX0_faultOf 31 = .ok (.ireturn, 1) := by decide +kernel
theorem dX0_putFault_0 : decode cX0_putFault 0 = .ok (.iconst 1, 1) := by decide +kernel
theorem dX0_putFault_1 : decode cX0_putFault 1 = .ok (.iload_n 1, 1) := by decide +kernel
theorem dX0_putFault_2 : decode cX0_putFault 2 = .ok (.ishl, 1) := by decide +kernel
theorem dX0_putFault_3 : decode cX0_putFault 3 = .ok (.istore_n 3, 1) := by decide +kernel
theorem dX0_putFault_4 : decode cX0_putFault 4 = .ok (.aload_n 0, 1) := by decide +kernel
theorem dX0_putFault_5 : decode cX0_putFault 5 = .ok (.iload_n 2, 1) := by decide +kernel
theorem dX0_putFault_6 : decode cX0_putFault 6 = .ok (.iconst 1, 1) := by decide +kernel
theorem dX0_putFault_7 : decode cX0_putFault 7 = .ok (.if_icmp .ne 12, 3) := by decide +kernel
theorem dX0_putFault_10 : decode cX0_putFault 10 = .ok (.aload_n 0, 1) := by decide +kernel
theorem dX0_putFault_11 : decode cX0_putFault 11 = .ok (.getfield 59, 3) := by decide +kernel
theorem dX0_putFault_14 : decode cX0_putFault 14 = .ok (.iload_n 3, 1) := by decide +kernel
theorem dX0_putFault_15 : decode cX0_putFault 15 = .ok (.ior, 1) := by decide +kernel
theorem dX0_putFault_16 : decode cX0_putFault 16 = .ok (.goto 11, 3) := by decide +kernel
theorem dX0_putFault_19 : decode cX0_putFault 19 = .ok (.aload_n 0, 1) := by decide +kernel
theorem dX0_putFault_20 : decode cX0_putFault 20 = .ok (.getfield 59, 3) := by decide +kernel
theorem dX0_putFault_23 : decode cX0_putFault 23 = .ok (.iload_n 3, 1) := by decide +kernel
theorem dX0_putFault_24 : decode cX0_putFault 24 = .ok (.iconst (-1), 1) := by decide +kernel
theorem dX0_putFault_25 : decode cX0_putFault 25 = .ok (.ixor, 1) := by decide +kernel
theorem dX0_putFault_26 : decode cX0_putFault 26 = .ok (.iand, 1) := by decide +kernel
theorem dX0_putFault_27 : decode cX0_putFault 27 = .ok (.putfield 59, 3) := by decide +kernel
theorem dX0_putFault_30 : decode cX0_putFault 30 = .ok (.aload_n 0, 1) := by decide +kernel
theorem dX0_putFault_31 : decode cX0_putFault 31 = .ok (.iload_n 2, 1) := by decide +kernel
theorem dX0_putFault_32 : decode cX0_putFault 32 = .ok (.iconst 2, 1) := by decide +kernel
theorem dX0_putFault_33 : decode cX0_putFault 33 = .ok (.if_icmp .ne 12, 3) := by decide +kernel
theorem dX0_putFault_36 : decode cX0_putFault 36 = .ok (.aload_n 0, 1) := by decide +kernel
theorem dX0_putFault_37 : decode cX0_putFault 37 = .ok (.getfield 62, 3) := by decide +kernel
theorem dX0_putFault_40 : decode cX0_putFault 40 = .ok (.iload_n 3, 1) := by decide +kernel
theorem dX0_putFault_41 : decode cX0_putFault 41 = .ok (.ior, 1) := by decide +kernel
theorem dX0_putFault_42 : decode cX0_putFault 42 = .ok (.goto 11, 3) := by decide +kernel
theorem dX0_putFault_45 : decode cX0_putFault 45 = .ok (.aload_n 0, 1) := by decide +kernel
theorem dX0_putFault_46 : decode cX0_putFault 46 = .ok (.getfield 62, 3) := by decide +kernel
theorem dX0_putFault_49 : decode cX0_putFault 49 = .ok (.iload_n 3, 1) := by decide +kernel
theorem dX0_putFault_50 : decode cX0_putFault 50 = .ok (.iconst (-1), 1) := by decide +kernel
theorem dX0_putFault_51 : decode cX0_putFault 51 = .ok (.ixor, 1) := by decide +kernel
theorem dX0_putFault_52 : decode cX0_putFault 52 = .ok (.iand, 1) := by decide +kernel
theorem dX0_putFault_53 : decode cX0_putFault 53 = .ok (.putfield 62, 3) := by decide +kernel
theorem dX0_putFault_56 : decode cX0_putFault 56 = .ok (.aload_n 0, 1) := by decide +kernel
theorem dX0_putFault_57 : decode cX0_putFault 57 = .ok (.invokevirtual 99, 3) := by decide +kernel
theorem dX0_putFault_60 : decode cX0_putFault 60 = .ok (.pop, 1) := by decide +kernel
theorem dX0_putFault_61 : decode cX0_putFault 61 = .ok (.return_, 1) := by decide +kernel
theorem dX0_closedContacts_0 : decode cX0_closedContacts 0 = .ok (.aload_n 0, 1) := by decide +kernel
theorem dX0_closedContacts_1 : decode cX0_closedContacts 1 = .ok (.getfield 50, 3) := by decide +kernel
theorem dX0_closedContacts_4 : decode cX0_closedContacts 4 = .ok (.aload_n 0, 1) := by decide +kernel
theorem dX0_closedContacts_5 : decode cX0_closedContacts 5 = .ok (.getfield 53, 3) := by decide +kernel
theorem dX0_closedContacts_8 : decode cX0_closedContacts 8 = .ok (.iconst (-1), 1) := by decide +kernel
theorem dX0_closedContacts_9 : decode cX0_closedContacts 9 = .ok (.ixor, 1) := by decide +kernel
theorem dX0_closedContacts_10 : decode cX0_closedContacts 10 = .ok (.iand, 1) := by decide +kernel
theorem dX0_closedContacts_11 : decode cX0_closedContacts 11 = .ok (.aload_n 0, 1) := by decide +kernel
theorem dX0_closedContacts_12 : decode cX0_closedContacts 12 = .ok (.getfield 59, 3) := by decide +kernel
theorem dX0_closedContacts_15 : decode cX0_closedContacts 15 = .ok (.iconst (-1), 1) := by decide +kernel
theorem dX0_closedContacts_16 : decode cX0_closedContacts 16 = .ok (.ixor, 1) := by decide +kernel
theorem dX0_closedContacts_17 : decode cX0_closedContacts 17 = .ok (.iand, 1) := by decide +kernel
theorem dX0_closedContacts_18 : decode cX0_closedContacts 18 = .ok (.aload_n 0, 1) := by decide +kernel
theorem dX0_closedContacts_19 : decode cX0_closedContacts 19 = .ok (.getfield 62, 3) := by decide +kernel
theorem dX0_closedContacts_22 : decode cX0_closedContacts 22 = .ok (.ior, 1) := by decide +kernel
theorem dX0_closedContacts_23 : decode cX0_closedContacts 23 = .ok (.ireturn, 1) := by decide +kernel
theorem dX0_failing_0 : decode cX0_failing 0 = .ok (.aload_n 0, 1) := by decide +kernel
theorem dX0_failing_1 : decode cX0_failing 1 = .ok (.getfield 44, 3) := by decide +kernel
theorem dX0_failing_4 : decode cX0_failing 4 = .ok (.aload_n 0, 1) := by decide +kernel
theorem dX0_failing_5 : decode cX0_failing 5 = .ok (.invokevirtual 110, 3) := by decide +kernel
theorem dX0_failing_8 : decode cX0_failing 8 = .ok (.bipush 8, 2) := by decide +kernel
theorem dX0_failing_10 : decode cX0_failing 10 = .ok (.ishl, 1) := by decide +kernel
theorem dX0_failing_11 : decode cX0_failing 11 = .ok (.ior, 1) := by decide +kernel
theorem dX0_failing_12 : decode cX0_failing 12 = .ok (.istore_n 1, 1) := by decide +kernel
theorem dX0_failing_13 : decode cX0_failing 13 = .ok (.iload_n 1, 1) := by decide +kernel
theorem dX0_failing_14 : decode cX0_failing 14 = .ok (.bipush 16, 2) := by decide +kernel
theorem dX0_failing_16 : decode cX0_failing 16 = .ok (.ishl, 1) := by decide +kernel
theorem dX0_failing_17 : decode cX0_failing 17 = .ok (.iload_n 1, 1) := by decide +kernel
theorem dX0_failing_18 : decode cX0_failing 18 = .ok (.iconst (-1), 1) := by decide +kernel
theorem dX0_failing_19 : decode cX0_failing 19 = .ok (.ixor, 1) := by decide +kernel
theorem dX0_failing_20 : decode cX0_failing 20 = .ok (.ldc 113, 2) := by decide +kernel
theorem dX0_failing_22 : decode cX0_failing 22 = .ok (.iand, 1) := by decide +kernel
theorem dX0_failing_23 : decode cX0_failing 23 = .ok (.ior, 1) := by decide +kernel
theorem dX0_failing_24 : decode cX0_failing 24 = .ok (.ireturn, 1) := by decide +kernel
theorem dX0_conducts_0 : decode cX0_conducts 0 = .ok (.iload_n 1, 1) := by decide +kernel
theorem dX0_conducts_1 : decode cX0_conducts 1 = .ok (.bipush 6, 2) := by decide +kernel
theorem dX0_conducts_3 : decode cX0_conducts 3 = .ok (.imul, 1) := by decide +kernel
theorem dX0_conducts_4 : decode cX0_conducts 4 = .ok (.istore_n 3, 1) := by decide +kernel
theorem dX0_conducts_5 : decode cX0_conducts 5 = .ok (.aload_n 0, 1) := by decide +kernel
theorem dX0_conducts_6 : decode cX0_conducts 6 = .ok (.getfield 21, 3) := by decide +kernel
theorem dX0_conducts_9 : decode cX0_conducts 9 = .ok (.iload_n 1, 1) := by decide +kernel
theorem dX0_conducts_10 : decode cX0_conducts 10 = .ok (.invokestatic 73, 3) := by decide +kernel
theorem dX0_conducts_13 : decode cX0_conducts 13 = .ok (.istore 4, 2) := by decide +kernel
theorem dX0_conducts_15 : decode cX0_conducts 15 = .ok (.iconst 0, 1) := by decide +kernel
theorem dX0_conducts_16 : decode cX0_conducts 16 = .ok (.istore 5, 2) := by decide +kernel
theorem dX0_conducts_18 : decode cX0_conducts 18 = .ok (.iload 5, 2) := by decide +kernel
theorem dX0_conducts_20 : decode cX0_conducts 20 = .ok (.iload 4, 2) := by decide +kernel
theorem dX0_conducts_22 : decode cX0_conducts 22 = .ok (.if_icmp .ge 27, 3) := by decide +kernel
theorem dX0_conducts_25 : decode cX0_conducts 25 = .ok (.aload_n 0, 1) := by decide +kernel
theorem dX0_conducts_26 : decode cX0_conducts 26 = .ok (.getfield 24, 3) := by decide +kernel
theorem dX0_conducts_29 : decode cX0_conducts 29 = .ok (.iload_n 3, 1) := by decide +kernel
theorem dX0_conducts_30 : decode cX0_conducts 30 = .ok (.iload 5, 2) := by decide +kernel
theorem dX0_conducts_32 : decode cX0_conducts 32 = .ok (.iadd, 1) := by decide +kernel
theorem dX0_conducts_33 : decode cX0_conducts 33 = .ok (.invokestatic 73, 3) := by decide +kernel
theorem dX0_conducts_36 : decode cX0_conducts 36 = .ok (.iload_n 2, 1) := by decide +kernel
theorem dX0_conducts_37 : decode cX0_conducts 37 = .ok (.iand, 1) := by decide +kernel
theorem dX0_conducts_38 : decode cX0_conducts 38 = .ok (.ifCond .ne 5, 3) := by decide +kernel
theorem dX0_conducts_41 : decode cX0_conducts 41 = .ok (.iconst 1, 1) := by decide +kernel
theorem dX0_conducts_42 : decode cX0_conducts 42 = .ok (.ireturn, 1) := by decide +kernel
theorem dX0_conducts_43 : decode cX0_conducts 43 = .ok (.iinc 5 1, 3) := by decide +kernel
theorem dX0_conducts_46 : decode cX0_conducts 46 = .ok (.goto (-28), 3) := by decide +kernel
theorem dX0_conducts_49 : decode cX0_conducts 49 = .ok (.iconst 0, 1) := by decide +kernel
theorem dX0_conducts_50 : decode cX0_conducts 50 = .ok (.ireturn, 1) := by decide +kernel
theorem dX0_lookAtCoils_0 : decode cX0_lookAtCoils 0 = .ok (.aload_n 0, 1) := by decide +kernel
theorem dX0_lookAtCoils_1 : decode cX0_lookAtCoils 1 = .ok (.invokevirtual 114, 3) := by decide +kernel
theorem dX0_lookAtCoils_4 : decode cX0_lookAtCoils 4 = .ok (.istore_n 1, 1) := by decide +kernel
theorem dX0_lookAtCoils_5 : decode cX0_lookAtCoils 5 = .ok (.iconst 0, 1) := by decide +kernel
theorem dX0_lookAtCoils_6 : decode cX0_lookAtCoils 6 = .ok (.istore_n 2, 1) := by decide +kernel
theorem dX0_lookAtCoils_7 : decode cX0_lookAtCoils 7 = .ok (.iconst 0, 1) := by decide +kernel
theorem dX0_lookAtCoils_8 : decode cX0_lookAtCoils 8 = .ok (.istore_n 3, 1) := by decide +kernel
theorem dX0_lookAtCoils_9 : decode cX0_lookAtCoils 9 = .ok (.iload_n 3, 1) := by decide +kernel
theorem dX0_lookAtCoils_10 : decode cX0_lookAtCoils 10 = .ok (.aload_n 0, 1) := by decide +kernel
theorem dX0_lookAtCoils_11 : decode cX0_lookAtCoils 11 = .ok (.getfield 37, 3) := by decide +kernel
theorem dX0_lookAtCoils_14 : decode cX0_lookAtCoils 14 = .ok (.if_icmp .ge 34, 3) := by decide +kernel
theorem dX0_lookAtCoils_17 : decode cX0_lookAtCoils 17 = .ok (.aload_n 0, 1) := by decide +kernel
theorem dX0_lookAtCoils_18 : decode cX0_lookAtCoils 18 = .ok (.iload_n 3, 1) := by decide +kernel
theorem dX0_lookAtCoils_19 : decode cX0_lookAtCoils 19 = .ok (.iload_n 1, 1) := by decide +kernel
theorem dX0_lookAtCoils_20 : decode cX0_lookAtCoils 20 = .ok (.invokevirtual 117, 3) := by decide +kernel
theorem dX0_lookAtCoils_23 : decode cX0_lookAtCoils 23 = .ok (.aload_n 0, 1) := by decide +kernel
theorem dX0_lookAtCoils_24 : decode cX0_lookAtCoils 24 = .ok (.getfield 47, 3) := by decide +kernel
theorem dX0_lookAtCoils_27 : decode cX0_lookAtCoils 27 = .ok (.iload_n 3, 1) := by decide +kernel
theorem dX0_lookAtCoils_28 : decode cX0_lookAtCoils 28 = .ok (.invokestatic 106, 3) := by decide +kernel
theorem dX0_lookAtCoils_31 : decode cX0_lookAtCoils 31 = .ok (.if_icmp .eq 11, 3) := by decide +kernel
theorem dX0_lookAtCoils_34 : decode cX0_lookAtCoils 34 = .ok (.aload_n 0, 1) := by decide +kernel
theorem dX0_lookAtCoils_35 : decode cX0_lookAtCoils 35 = .ok (.iload_n 3, 1) := by decide +kernel
theorem dX0_lookAtCoils_36 : decode cX0_lookAtCoils 36 = .ok (.invokevirtual 120, 3) := by decide +kernel
theorem dX0_lookAtCoils_39 : decode cX0_lookAtCoils 39 = .ok (.iinc 2 1, 3) := by decide +kernel
theorem dX0_lookAtCoils_42 : decode cX0_lookAtCoils 42 = .ok (.iinc 3 1, 3) := by decide +kernel
theorem dX0_lookAtCoils_45 : decode cX0_lookAtCoils 45 = .ok (.goto (-36), 3) := by decide +kernel
theorem dX0_lookAtCoils_48 : decode cX0_lookAtCoils 48 = .ok (.iload_n 2, 1) := by decide +kernel
theorem dX0_lookAtCoils_49 : decode cX0_lookAtCoils 49 = .ok (.ireturn, 1) := by decide +kernel
theorem dX0_turnCoil_0 : decode cX0_turnCoil 0 = .ok (.aload_n 0, 1) := by decide +kernel
theorem dX0_turnCoil_1 : decode cX0_turnCoil 1 = .ok (.dup, 1) := by decide +kernel
theorem dX0_turnCoil_2 : decode cX0_turnCoil 2 = .ok (.getfield 47, 3) := by decide +kernel
theorem dX0_turnCoil_5 : decode cX0_turnCoil 5 = .ok (.iconst 1, 1) := by decide +kernel
theorem dX0_turnCoil_6 : decode cX0_turnCoil 6 = .ok (.iload_n 1, 1) := by decide +kernel
theorem dX0_turnCoil_7 : decode cX0_turnCoil 7 = .ok (.ishl, 1) := by decide +kernel
theorem dX0_turnCoil_8 : decode cX0_turnCoil 8 = .ok (.ixor, 1) := by decide +kernel
theorem dX0_turnCoil_9 : decode cX0_turnCoil 9 = .ok (.putfield 47, 3) := by decide +kernel
theorem dX0_turnCoil_12 : decode cX0_turnCoil 12 = .ok (.ldc 30, 2) := by decide +kernel
theorem dX0_turnCoil_14 : decode cX0_turnCoil 14 = .ok (.istore_n 2, 1) := by decide +kernel
theorem dX0_turnCoil_15 : decode cX0_turnCoil 15 = .ok (.aload_n 0, 1) := by decide +kernel
theorem dX0_turnCoil_16 : decode cX0_turnCoil 16 = .ok (.getfield 47, 3) := by decide +kernel
theorem dX0_turnCoil_19 : decode cX0_turnCoil 19 = .ok (.aload_n 0, 1) := by decide +kernel
theorem dX0_turnCoil_20 : decode cX0_turnCoil 20 = .ok (.getfield 50, 3) := by decide +kernel
theorem dX0_turnCoil_23 : decode cX0_turnCoil 23 = .ok (.ixor, 1) := by decide +kernel
theorem dX0_turnCoil_24 : decode cX0_turnCoil 24 = .ok (.iload_n 1, 1) := by decide +kernel
theorem dX0_turnCoil_25 : decode cX0_turnCoil 25 = .ok (.invokestatic 106, 3) := by decide +kernel
theorem dX0_turnCoil_28 : decode cX0_turnCoil 28 = .ok (.ifCond .eq 35, 3) := by decide +kernel
theorem dX0_turnCoil_31 : decode cX0_turnCoil 31 = .ok (.aload_n 0, 1) := by decide +kernel
theorem dX0_turnCoil_32 : decode cX0_turnCoil 32 = .ok (.getfield 41, 3) := by decide +kernel
theorem dX0_turnCoil_35 : decode cX0_turnCoil 35 = .ok (.aload_n 0, 1) := by decide +kernel
theorem dX0_turnCoil_36 : decode cX0_turnCoil 36 = .ok (.getfield 47, 3) := by decide +kernel
theorem dX0_turnCoil_39 : decode cX0_turnCoil 39 = .ok (.iload_n 1, 1) := by decide +kernel
theorem dX0_turnCoil_40 : decode cX0_turnCoil 40 = .ok (.invokestatic 106, 3) := by decide +kernel
theorem dX0_turnCoil_43 : decode cX0_turnCoil 43 = .ok (.ifCond .eq 10, 3) := by decide +kernel
theorem dX0_turnCoil_46 : decode cX0_turnCoil 46 = .ok (.aload_n 0, 1) := by decide +kernel
theorem dX0_turnCoil_47 : decode cX0_turnCoil 47 = .ok (.getfield 9, 3) := by decide +kernel
theorem dX0_turnCoil_50 : decode cX0_turnCoil 50 = .ok (.goto 7, 3) := by decide +kernel
theorem dX0_turnCoil_53 : decode cX0_turnCoil 53 = .ok (.aload_n 0, 1) := by decide +kernel
theorem dX0_turnCoil_54 : decode cX0_turnCoil 54 = .ok (.getfield 15, 3) := by decide +kernel
theorem dX0_turnCoil_57 : decode cX0_turnCoil 57 = .ok (.iload_n 1, 1) := by decide +kernel
theorem dX0_turnCoil_58 : decode cX0_turnCoil 58 = .ok (.invokestatic 73, 3) := by decide +kernel
theorem dX0_turnCoil_61 : decode cX0_turnCoil 61 = .ok (.iadd, 1) := by decide +kernel
theorem dX0_turnCoil_62 : decode cX0_turnCoil 62 = .ok (.istore_n 2, 1) := by decide +kernel
theorem dX0_turnCoil_63 : decode cX0_turnCoil 63 = .ok (.aload_n 0, 1) := by decide +kernel
theorem dX0_turnCoil_64 : decode cX0_turnCoil 64 = .ok (.getfield 27, 3) := by decide +kernel
theorem dX0_turnCoil_67 : decode cX0_turnCoil 67 = .ok (.iconst 2, 1) := by decide +kernel
theorem dX0_turnCoil_68 : decode cX0_turnCoil 68 = .ok (.iload_n 1, 1) := by decide +kernel
theorem dX0_turnCoil_69 : decode cX0_turnCoil 69 = .ok (.imul, 1) := by decide +kernel
theorem dX0_turnCoil_70 : decode cX0_turnCoil 70 = .ok (.iload_n 2, 1) := by decide +kernel
theorem dX0_turnCoil_71 : decode cX0_turnCoil 71 = .ok (.invokestatic 77, 3) := by decide +kernel
theorem dX0_turnCoil_74 : decode cX0_turnCoil 74 = .ok (.return_, 1) := by decide +kernel
theorem dX0_relayOf_0 : decode cX0_relayOf 0 = .ok (.iload_n 0, 1) := by decide +kernel
theorem dX0_relayOf_1 : decode cX0_relayOf 1 = .ok (.iconst 1, 1) := by decide +kernel
theorem dX0_relayOf_2 : decode cX0_relayOf 2 = .ok (.ishr, 1) := by decide +kernel
theorem dX0_relayOf_3 : decode cX0_relayOf 3 = .ok (.ireturn, 1) := by decide +kernel
theorem dX0_isBounceEnd_0 : decode cX0_isBounceEnd 0 = .ok (.iload_n 0, 1) := by decide +kernel
theorem dX0_isBounceEnd_1 : decode cX0_isBounceEnd 1 = .ok (.iconst 1, 1) := by decide +kernel
theorem dX0_isBounceEnd_2 : decode cX0_isBounceEnd 2 = .ok (.iand, 1) := by decide +kernel
theorem dX0_isBounceEnd_3 : decode cX0_isBounceEnd 3 = .ok (.iconst 1, 1) := by decide +kernel
theorem dX0_isBounceEnd_4 : decode cX0_isBounceEnd 4 = .ok (.if_icmp .ne 7, 3) := by decide +kernel
theorem dX0_isBounceEnd_7 : decode cX0_isBounceEnd 7 = .ok (.iconst 1, 1) := by decide +kernel
theorem dX0_isBounceEnd_8 : decode cX0_isBounceEnd 8 = .ok (.goto 4, 3) := by decide +kernel
theorem dX0_isBounceEnd_11 : decode cX0_isBounceEnd 11 = .ok (.iconst 0, 1) := by decide +kernel
theorem dX0_isBounceEnd_12 : decode cX0_isBounceEnd 12 = .ok (.ireturn, 1) := by decide +kernel
theorem dX0_kindOf_0 : decode cX0_kindOf 0 = .ok (.iload_n 1, 1) := by decide +kernel
theorem dX0_kindOf_1 : decode cX0_kindOf 1 = .ok (.invokestatic 124, 3) := by decide +kernel
theorem dX0_kindOf_4 : decode cX0_kindOf 4 = .ok (.ifCond .eq 5, 3) := by decide +kernel
theorem dX0_kindOf_7 : decode cX0_kindOf 7 = .ok (.iconst 2, 1) := by decide +kernel
theorem dX0_kindOf_8 : decode cX0_kindOf 8 = .ok (.ireturn, 1) := by decide +kernel
theorem dX0_kindOf_9 : decode cX0_kindOf 9 = .ok (.aload_n 0, 1) := by decide +kernel
theorem dX0_kindOf_10 : decode cX0_kindOf 10 = .ok (.getfield 47, 3) := by decide +kernel
theorem dX0_kindOf_13 : decode cX0_kindOf 13 = .ok (.iload_n 1, 1) := by decide +kernel
theorem dX0_kindOf_14 : decode cX0_kindOf 14 = .ok (.invokestatic 128, 3) := by decide +kernel
theorem dX0_kindOf_17 : decode cX0_kindOf 17 = .ok (.invokestatic 106, 3) := by decide +kernel
theorem dX0_kindOf_20 : decode cX0_kindOf 20 = .ok (.ifCond .eq 7, 3) := by decide +kernel
theorem dX0_kindOf_23 : decode cX0_kindOf 23 = .ok (.iconst 0, 1) := by decide +kernel
theorem dX0_kindOf_24 : decode cX0_kindOf 24 = .ok (.goto 4, 3) := by decide +kernel
theorem dX0_kindOf_27 : decode cX0_kindOf 27 = .ok (.iconst 1, 1) := by decide +kernel
theorem dX0_kindOf_28 : decode cX0_kindOf 28 = .ok (.ireturn, 1) := by decide +kernel
theorem dX0_waiting_0 : decode cX0_waiting 0 = .ok (.iconst 0, 1) := by decide +kernel
theorem dX0_waiting_1 : decode cX0_waiting 1 = .ok (.istore_n 1, 1) := by decide +kernel
theorem dX0_waiting_2 : decode cX0_waiting 2 = .ok (.iconst 0, 1) := by decide +kernel
theorem dX0_waiting_3 : decode cX0_waiting 3 = .ok (.istore_n 2, 1) := by decide +kernel
theorem dX0_waiting_4 : decode cX0_waiting 4 = .ok (.iload_n 2, 1) := by decide +kernel
theorem dX0_waiting_5 : decode cX0_waiting 5 = .ok (.aload_n 0, 1) := by decide +kernel
theorem dX0_waiting_6 : decode cX0_waiting 6 = .ok (.getfield 27, 3) := by decide +kernel
theorem dX0_waiting_9 : decode cX0_waiting 9 = .ok (.arraylength, 1) := by decide +kernel
theorem dX0_waiting_10 : decode cX0_waiting 10 = .ok (.if_icmp .ge 23, 3) := by decide +kernel
theorem dX0_waiting_13 : decode cX0_waiting 13 = .ok (.aload_n 0, 1) := by decide +kernel
theorem dX0_waiting_14 : decode cX0_waiting 14 = .ok (.getfield 27, 3) := by decide +kernel
theorem dX0_waiting_17 : decode cX0_waiting 17 = .ok (.iload_n 2, 1) := by decide +kernel
theorem dX0_waiting_18 : decode cX0_waiting 18 = .ok (.iaload, 1) := by decide +kernel
theorem dX0_waiting_19 : decode cX0_waiting 19 = .ok (.ldc 30, 2) := by decide +kernel
theorem dX0_waiting_21 : decode cX0_waiting 21 = .ok (.if_icmp .eq 6, 3) := by decide +kernel
theorem dX0_waiting_24 : decode cX0_waiting 24 = .ok (.iinc 1 1, 3) := by decide +kernel
theorem dX0_waiting_27 : decode cX0_waiting 27 = .ok (.iinc 2 1, 3) := by decide +kernel
theorem dX0_waiting_30 : decode cX0_waiting 30 = .ok (.goto (-26), 3) := by decide +kernel
theorem dX0_waiting_33 : decode cX0_waiting 33 = .ok (.iload_n 1, 1) := by decide +kernel
theorem dX0_waiting_34 : decode cX0_waiting 34 = .ok (.ireturn, 1) := by decide +kernel
theorem dX0_isQuiet_0 : decode cX0_isQuiet 0 = .ok (.aload_n 0, 1) := by decide +kernel
theorem dX0_isQuiet_1 : decode cX0_isQuiet 1 = .ok (.iconst 0, 1) := by decide +kernel
theorem dX0_isQuiet_2 : decode cX0_isQuiet 2 = .ok (.invokevirtual 131, 3) := by decide +kernel
theorem dX0_isQuiet_5 : decode cX0_isQuiet 5 = .ok (.iconst (-1), 1) := by decide +kernel
theorem dX0_isQuiet_6 : decode cX0_isQuiet 6 = .ok (.if_icmp .ne 7, 3) := by decide +kernel
theorem dX0_isQuiet_9 : decode cX0_isQuiet 9 = .ok (.iconst 1, 1) := by decide +kernel
theorem dX0_isQuiet_10 : decode cX0_isQuiet 10 = .ok (.goto 4, 3) := by decide +kernel
theorem dX0_isQuiet_13 : decode cX0_isQuiet 13 = .ok (.iconst 0, 1) := by decide +kernel
theorem dX0_isQuiet_14 : decode cX0_isQuiet 14 = .ok (.ireturn, 1) := by decide +kernel
theorem dX0_nextSlot_0 : decode cX0_nextSlot 0 = .ok (.iconst (-1), 1) := by decide +kernel
theorem dX0_nextSlot_1 : decode cX0_nextSlot 1 = .ok (.istore_n 2, 1) := by decide +kernel
theorem dX0_nextSlot_2 : decode cX0_nextSlot 2 = .ok (.ldc 30, 2) := by decide +kernel
theorem dX0_nextSlot_4 : decode cX0_nextSlot 4 = .ok (.istore_n 3, 1) := by decide +kernel
theorem dX0_nextSlot_5 : decode cX0_nextSlot 5 = .ok (.iconst 0, 1) := by decide +kernel
theorem dX0_nextSlot_6 : decode cX0_nextSlot 6 = .ok (.istore 4, 2) := by decide +kernel
theorem dX0_nextSlot_8 : decode cX0_nextSlot 8 = .ok (.iload 4, 2) := by decide +kernel
theorem dX0_nextSlot_10 : decode cX0_nextSlot 10 = .ok (.aload_n 0, 1) := by decide +kernel
theorem dX0_nextSlot_11 : decode cX0_nextSlot 11 = .ok (.getfield 37, 3) := by decide +kernel
theorem dX0_nextSlot_14 : decode cX0_nextSlot 14 = .ok (.if_icmp .ge 81, 3) := by decide +kernel
theorem dX0_nextSlot_17 : decode cX0_nextSlot 17 = .ok (.iconst 2, 1) := by decide +kernel
theorem dX0_nextSlot_18 : decode cX0_nextSlot 18 = .ok (.iload_n 1, 1) := by decide +kernel
theorem dX0_nextSlot_19 : decode cX0_nextSlot 19 = .ok (.ifCond .eq 15, 3) := by decide +kernel
theorem dX0_nextSlot_22 : decode cX0_nextSlot 22 = .ok (.aload_n 0, 1) := by decide +kernel
theorem dX0_nextSlot_23 : decode cX0_nextSlot 23 = .ok (.getfield 37, 3) := by decide +kernel
theorem dX0_nextSlot_26 : decode cX0_nextSlot 26 = .ok (.iconst 1, 1) := by decide +kernel
theorem dX0_nextSlot_27 : decode cX0_nextSlot 27 = .ok (.isub, 1) := by decide +kernel
theorem dX0_nextSlot_28 : decode cX0_nextSlot 28 = .ok (.iload 4, 2) := by decide +kernel
theorem dX0_nextSlot_30 : decode cX0_nextSlot 30 = .ok (.isub, 1) := by decide +kernel
theorem dX0_nextSlot_31 : decode cX0_nextSlot 31 = .ok (.goto 5, 3) := by decide +kernel
theorem dX0_nextSlot_34 : decode cX0_nextSlot 34 = .ok (.iload 4, 2) := by decide +kernel
theorem dX0_nextSlot_36 : decode cX0_nextSlot 36 = .ok (.imul, 1) := by decide +kernel
theorem dX0_nextSlot_37 : decode cX0_nextSlot 37 = .ok (.istore 5, 2) := by decide +kernel
theorem dX0_nextSlot_39 : decode cX0_nextSlot 39 = .ok (.aload_n 0, 1) := by decide +kernel
theorem dX0_nextSlot_40 : decode cX0_nextSlot 40 = .ok (.getfield 27, 3) := by decide +kernel
theorem dX0_nextSlot_43 : decode cX0_nextSlot 43 = .ok (.iload 5, 2) := by decide +kernel
theorem dX0_nextSlot_45 : decode cX0_nextSlot 45 = .ok (.invokestatic 73, 3) := by decide +kernel
theorem dX0_nextSlot_48 : decode cX0_nextSlot 48 = .ok (.istore 6, 2) := by decide +kernel
theorem dX0_nextSlot_50 : decode cX0_nextSlot 50 = .ok (.aload_n 0, 1) := by decide +kernel
theorem dX0_nextSlot_51 : decode cX0_nextSlot 51 = .ok (.getfield 27, 3) := by decide +kernel
theorem dX0_nextSlot_54 : decode cX0_nextSlot 54 = .ok (.iload 5, 2) := by decide +kernel
theorem dX0_nextSlot_56 : decode cX0_nextSlot 56 = .ok (.iconst 1, 1) := by decide +kernel
theorem dX0_nextSlot_57 : decode cX0_nextSlot 57 = .ok (.iadd, 1) := by decide +kernel
theorem dX0_nextSlot_58 : decode cX0_nextSlot 58 = .ok (.invokestatic 73, 3) := by decide +kernel
theorem dX0_nextSlot_61 : decode cX0_nextSlot 61 = .ok (.istore 7, 2) := by decide +kernel
theorem dX0_nextSlot_63 : decode cX0_nextSlot 63 = .ok (.iload 6, 2) := by decide +kernel
theorem dX0_nextSlot_65 : decode cX0_nextSlot 65 = .ok (.iload_n 3, 1) := by decide +kernel
theorem dX0_nextSlot_66 : decode cX0_nextSlot 66 = .ok (.if_icmp .ge 9, 3) := by decide +kernel
theorem dX0_nextSlot_69 : decode cX0_nextSlot 69 = .ok (.iload 5, 2) := by decide +kernel
theorem dX0_nextSlot_71 : decode cX0_nextSlot 71 = .ok (.istore_n 2, 1) := by decide +kernel
theorem dX0_nextSlot_72 : decode cX0_nextSlot 72 = .ok (.iload 6, 2) := by decide +kernel
theorem dX0_nextSlot_74 : decode cX0_nextSlot 74 = .ok (.istore_n 3, 1) := by decide +kernel
theorem dX0_nextSlot_75 : decode cX0_nextSlot 75 = .ok (.iload 7, 2) := by decide +kernel
theorem dX0_nextSlot_77 : decode cX0_nextSlot 77 = .ok (.iload_n 3, 1) := by decide +kernel
theorem dX0_nextSlot_78 : decode cX0_nextSlot 78 = .ok (.if_icmp .ge 11, 3) := by decide +kernel
theorem dX0_nextSlot_81 : decode cX0_nextSlot 81 = .ok (.iload 5, 2) := by decide +kernel
theorem dX0_nextSlot_83 : decode cX0_nextSlot 83 = .ok (.iconst 1, 1) := by decide +kernel
theorem dX0_nextSlot_84 : decode cX0_nextSlot 84 = .ok (.iadd, 1) := by decide +kernel
theorem dX0_nextSlot_85 : decode cX0_nextSlot 85 = .ok (.istore_n 2, 1) := by decide +kernel
theorem dX0_nextSlot_86 : decode cX0_nextSlot 86 = .ok (.iload 7, 2) := by decide +kernel
theorem dX0_nextSlot_88 : decode cX0_nextSlot 88 = .ok (.istore_n 3, 1) := by decide +kernel
theorem dX0_nextSlot_89 : decode cX0_nextSlot 89 = .ok (.iinc 4 1, 3) := by decide +kernel
theorem dX0_nextSlot_92 : decode cX0_nextSlot 92 = .ok (.goto (-84), 3) := by decide +kernel
theorem dX0_nextSlot_95 : decode cX0_nextSlot 95 = .ok (.iload_n 2, 1) := by decide +kernel
theorem dX0_nextSlot_96 : decode cX0_nextSlot 96 = .ok (.ireturn, 1) := by decide +kernel
theorem dX0_slotAt_0 : decode cX0_slotAt 0 = .ok (.iconst 0, 1) := by decide +kernel
theorem dX0_slotAt_1 : decode cX0_slotAt 1 = .ok (.istore_n 2, 1) := by decide +kernel
theorem dX0_slotAt_2 : decode cX0_slotAt 2 = .ok (.iload_n 2, 1) := by decide +kernel
theorem dX0_slotAt_3 : decode cX0_slotAt 3 = .ok (.aload_n 0, 1) := by decide +kernel
theorem dX0_slotAt_4 : decode cX0_slotAt 4 = .ok (.getfield 27, 3) := by decide +kernel
theorem dX0_slotAt_7 : decode cX0_slotAt 7 = .ok (.arraylength, 1) := by decide +kernel
theorem dX0_slotAt_8 : decode cX0_slotAt 8 = .ok (.if_icmp .ge 31, 3) := by decide +kernel
theorem dX0_slotAt_11 : decode cX0_slotAt 11 = .ok (.aload_n 0, 1) := by decide +kernel
theorem dX0_slotAt_12 : decode cX0_slotAt 12 = .ok (.getfield 27, 3) := by decide +kernel
theorem dX0_slotAt_15 : decode cX0_slotAt 15 = .ok (.iload_n 2, 1) := by decide +kernel
theorem dX0_slotAt_16 : decode cX0_slotAt 16 = .ok (.iaload, 1) := by decide +kernel
theorem dX0_slotAt_17 : decode cX0_slotAt 17 = .ok (.ldc 30, 2) := by decide +kernel
theorem dX0_slotAt_19 : decode cX0_slotAt 19 = .ok (.if_icmp .eq 14, 3) := by decide +kernel
theorem dX0_slotAt_22 : decode cX0_slotAt 22 = .ok (.aload_n 0, 1) := by decide +kernel
theorem dX0_slotAt_23 : decode cX0_slotAt 23 = .ok (.iload_n 2, 1) := by decide +kernel
theorem dX0_slotAt_24 : decode cX0_slotAt 24 = .ok (.invokevirtual 135, 3) := by decide +kernel
theorem dX0_slotAt_27 : decode cX0_slotAt 27 = .ok (.iload_n 1, 1) := by decide +kernel
theorem dX0_slotAt_28 : decode cX0_slotAt 28 = .ok (.if_icmp .ne 5, 3) := by decide +kernel
theorem dX0_slotAt_31 : decode cX0_slotAt 31 = .ok (.iload_n 2, 1) := by decide +kernel
theorem dX0_slotAt_32 : decode cX0_slotAt 32 = .ok (.ireturn, 1) := by decide +kernel
theorem dX0_slotAt_33 : decode cX0_slotAt 33 = .ok (.iinc 2 1, 3) := by decide +kernel
theorem dX0_slotAt_36 : decode cX0_slotAt 36 = .ok (.goto (-34), 3) := by decide +kernel
theorem dX0_slotAt_39 : decode cX0_slotAt 39 = .ok (.iconst (-1), 1) := by decide +kernel
theorem dX0_slotAt_40 : decode cX0_slotAt 40 = .ok (.ireturn, 1) := by decide +kernel
theorem dX0_eventsBefore_0 : decode cX0_eventsBefore 0 = .ok (.aload_n 0, 1) := by decide +kernel
theorem dX0_eventsBefore_1 : decode cX0_eventsBefore 1 = .ok (.getfield 27, 3) := by decide +kernel
theorem dX0_eventsBefore_4 : decode cX0_eventsBefore 4 = .ok (.iload_n 1, 1) := by decide +kernel
theorem dX0_eventsBefore_5 : decode cX0_eventsBefore 5 = .ok (.invokestatic 73, 3) := by decide +kernel
theorem dX0_eventsBefore_8 : decode cX0_eventsBefore 8 = .ok (.istore_n 2, 1) := by decide +kernel
theorem dX0_eventsBefore_9 : decode cX0_eventsBefore 9 = .ok (.iconst 0, 1) := by decide +kernel
theorem dX0_eventsBefore_10 : decode cX0_eventsBefore 10 = .ok (.istore_n 3, 1) := by decide +kernel
theorem dX0_eventsBefore_11 : decode cX0_eventsBefore 11 = .ok (.iconst 0, 1) := by decide +kernel
theorem dX0_eventsBefore_12 : decode cX0_eventsBefore 12 = .ok (.istore 4, 2) := by decide +kernel
theorem dX0_eventsBefore_14 : decode cX0_eventsBefore 14 = .ok (.iload 4, 2) := by decide +kernel
theorem dX0_eventsBefore_16 : decode cX0_eventsBefore 16 = .ok (.aload_n 0, 1) := by decide +kernel
theorem dX0_eventsBefore_17 : decode cX0_eventsBefore 17 = .ok (.getfield 27, 3) := by decide +kernel
theorem dX0_eventsBefore_20 : decode cX0_eventsBefore 20 = .ok (.arraylength, 1) := by decide +kernel
theorem dX0_eventsBefore_21 : decode cX0_eventsBefore 21 = .ok (.if_icmp .ge 40, 3) := by decide +kernel
theorem dX0_eventsBefore_24 : decode cX0_eventsBefore 24 = .ok (.aload_n 0, 1) := by decide +kernel
theorem dX0_eventsBefore_25 : decode cX0_eventsBefore 25 = .ok (.getfield 27, 3) := by decide +kernel
theorem dX0_eventsBefore_28 : decode cX0_eventsBefore 28 = .ok (.iload 4, 2) := by decide +kernel
theorem dX0_eventsBefore_30 : decode cX0_eventsBefore 30 = .ok (.iaload, 1) := by decide +kernel
theorem dX0_eventsBefore_31 : decode cX0_eventsBefore 31 = .ok (.iload_n 2, 1) := by decide +kernel
theorem dX0_eventsBefore_32 : decode cX0_eventsBefore 32 = .ok (.if_icmp .lt 20, 3) := by decide +kernel
theorem dX0_eventsBefore_35 : decode cX0_eventsBefore 35 = .ok (.aload_n 0, 1) := by decide +kernel
theorem dX0_eventsBefore_36 : decode cX0_eventsBefore 36 = .ok (.getfield 27, 3) := by decide +kernel
theorem dX0_eventsBefore_39 : decode cX0_eventsBefore 39 = .ok (.iload 4, 2) := by decide +kernel
theorem dX0_eventsBefore_41 : decode cX0_eventsBefore 41 = .ok (.iaload, 1) := by decide +kernel
theorem dX0_eventsBefore_42 : decode cX0_eventsBefore 42 = .ok (.iload_n 2, 1) := by decide +kernel
theorem dX0_eventsBefore_43 : decode cX0_eventsBefore 43 = .ok (.if_icmp .ne 12, 3) := by decide +kernel
theorem dX0_eventsBefore_46 : decode cX0_eventsBefore 46 = .ok (.iload 4, 2) := by decide +kernel
theorem dX0_eventsBefore_48 : decode cX0_eventsBefore 48 = .ok (.iload_n 1, 1) := by decide +kernel
theorem dX0_eventsBefore_49 : decode cX0_eventsBefore 49 = .ok (.if_icmp .ge 6, 3) := by decide +kernel
theorem dX0_eventsBefore_52 : decode cX0_eventsBefore 52 = .ok (.iinc 3 1, 3) := by decide +kernel
theorem dX0_eventsBefore_55 : decode cX0_eventsBefore 55 = .ok (.iinc 4 1, 3) := by decide +kernel
theorem dX0_eventsBefore_58 : decode cX0_eventsBefore 58 = .ok (.goto (-44), 3) := by decide +kernel
theorem dX0_eventsBefore_61 : decode cX0_eventsBefore 61 = .ok (.iload_n 3, 1) := by decide +kernel
theorem dX0_eventsBefore_62 : decode cX0_eventsBefore 62 = .ok (.ireturn, 1) := by decide +kernel
theorem dX0_happen_0 : decode cX0_happen 0 = .ok (.iload_n 1, 1) := by decide +kernel
theorem dX0_happen_1 : decode cX0_happen 1 = .ok (.invokestatic 128, 3) := by decide +kernel
theorem dX0_happen_4 : decode cX0_happen 4 = .ok (.istore_n 2, 1) := by decide +kernel
theorem dX0_happen_5 : decode cX0_happen 5 = .ok (.aload_n 0, 1) := by decide +kernel
theorem dX0_happen_6 : decode cX0_happen 6 = .ok (.aload_n 0, 1) := by decide +kernel
theorem dX0_happen_7 : decode cX0_happen 7 = .ok (.getfield 27, 3) := by decide +kernel
theorem dX0_happen_10 : decode cX0_happen 10 = .ok (.iload_n 1, 1) := by decide +kernel
theorem dX0_happen_11 : decode cX0_happen 11 = .ok (.invokestatic 73, 3) := by decide +kernel
theorem dX0_happen_14 : decode cX0_happen 14 = .ok (.putfield 41, 3) := by decide +kernel
theorem dX0_happen_17 : decode cX0_happen 17 = .ok (.aload_n 0, 1) := by decide +kernel
theorem dX0_happen_18 : decode cX0_happen 18 = .ok (.getfield 27, 3) := by decide +kernel
theorem dX0_happen_21 : decode cX0_happen 21 = .ok (.iload_n 1, 1) := by decide +kernel
theorem dX0_happen_22 : decode cX0_happen 22 = .ok (.ldc 30, 2) := by decide +kernel
theorem dX0_happen_24 : decode cX0_happen 24 = .ok (.invokestatic 77, 3) := by decide +kernel
theorem dX0_happen_27 : decode cX0_happen 27 = .ok (.iload_n 1, 1) := by decide +kernel
theorem dX0_happen_28 : decode cX0_happen 28 = .ok (.invokestatic 124, 3) := by decide +kernel
theorem dX0_happen_31 : decode cX0_happen 31 = .ok (.ifCond .eq 20, 3) := by decide +kernel
theorem dX0_happen_34 : decode cX0_happen 34 = .ok (.aload_n 0, 1) := by decide +kernel
theorem dX0_happen_35 : decode cX0_happen 35 = .ok (.dup, 1) := by decide +kernel
theorem dX0_happen_36 : decode cX0_happen 36 = .ok (.getfield 53, 3) := by decide +kernel
theorem dX0_happen_39 : decode cX0_happen 39 = .ok (.iconst 1, 1) := by decide +kernel
theorem dX0_happen_40 : decode cX0_happen 40 = .ok (.iload_n 2, 1) := by decide +kernel
theorem dX0_happen_41 : decode cX0_happen 41 = .ok (.ishl, 1) := by decide +kernel
theorem dX0_happen_42 : decode cX0_happen 42 = .ok (.iconst (-1), 1) := by decide +kernel
theorem dX0_happen_43 : decode cX0_happen 43 = .ok (.ixor, 1) := by decide +kernel
theorem dX0_happen_44 : decode cX0_happen 44 = .ok (.iand, 1) := by decide +kernel
theorem dX0_happen_45 : decode cX0_happen 45 = .ok (.putfield 53, 3) := by decide +kernel
theorem dX0_happen_48 : decode cX0_happen 48 = .ok (.goto 19, 3) := by decide +kernel
theorem dX0_happen_51 : decode cX0_happen 51 = .ok (.aload_n 0, 1) := by decide +kernel
theorem dX0_happen_52 : decode cX0_happen 52 = .ok (.getfield 56, 3) := by decide +kernel
theorem dX0_happen_55 : decode cX0_happen 55 = .ok (.iload_n 2, 1) := by decide +kernel
theorem dX0_happen_56 : decode cX0_happen 56 = .ok (.invokestatic 106, 3) := by decide +kernel
theorem dX0_happen_59 : decode cX0_happen 59 = .ok (.ifCond .ne 8, 3) := by decide +kernel
theorem dX0_happen_62 : decode cX0_happen 62 = .ok (.aload_n 0, 1) := by decide +kernel
theorem dX0_happen_63 : decode cX0_happen 63 = .ok (.iload_n 2, 1) := by decide +kernel
theorem dX0_happen_64 : decode cX0_happen 64 = .ok (.invokevirtual 138, 3) := by decide +kernel
theorem dX0_happen_67 : decode cX0_happen 67 = .ok (.aload_n 0, 1) := by decide +kernel
theorem dX0_happen_68 : decode cX0_happen 68 = .ok (.invokevirtual 99, 3) := by decide +kernel
theorem dX0_happen_71 : decode cX0_happen 71 = .ok (.pop, 1) := by decide +kernel
theorem dX0_happen_72 : decode cX0_happen 72 = .ok (.return_, 1) := by decide +kernel
theorem dX0_moveArmature_0 : decode cX0_moveArmature 0 = .ok (.aload_n 0, 1) := by decide +kernel
theorem dX0_moveArmature_1 : decode cX0_moveArmature 1 = .ok (.dup, 1) := by decide +kernel
theorem dX0_moveArmature_2 : decode cX0_moveArmature 2 = .ok (.getfield 50, 3) := by decide +kernel
theorem dX0_moveArmature_5 : decode cX0_moveArmature 5 = .ok (.iconst 1, 1) := by decide +kernel
theorem dX0_moveArmature_6 : decode cX0_moveArmature 6 = .ok (.iload_n 1, 1) := by decide +kernel
theorem dX0_moveArmature_7 : decode cX0_moveArmature 7 = .ok (.ishl, 1) := by decide +kernel
theorem dX0_moveArmature_8 : decode cX0_moveArmature 8 = .ok (.ixor, 1) := by decide +kernel
theorem dX0_moveArmature_9 : decode cX0_moveArmature 9 = .ok (.putfield 50, 3) := by decide +kernel
theorem dX0_moveArmature_12 : decode cX0_moveArmature 12 = .ok (.aload_n 0, 1) := by decide +kernel
theorem dX0_moveArmature_13 : decode cX0_moveArmature 13 = .ok (.getfield 18, 3) := by decide +kernel
theorem dX0_moveArmature_16 : decode cX0_moveArmature 16 = .ok (.iload_n 1, 1) := by decide +kernel
theorem dX0_moveArmature_17 : decode cX0_moveArmature 17 = .ok (.invokestatic 73, 3) := by decide +kernel
theorem dX0_moveArmature_20 : decode cX0_moveArmature 20 = .ok (.istore_n 2, 1) := by decide +kernel
theorem dX0_moveArmature_21 : decode cX0_moveArmature 21 = .ok (.iload_n 2, 1) := by decide +kernel
theorem dX0_moveArmature_22 : decode cX0_moveArmature 22 = .ok (.ifCond .le 33, 3) := by decide +kernel
theorem dX0_moveArmature_25 : decode cX0_moveArmature 25 = .ok (.aload_n 0, 1) := by decide +kernel
theorem dX0_moveArmature_26 : decode cX0_moveArmature 26 = .ok (.dup, 1) := by decide +kernel
theorem dX0_moveArmature_27 : decode cX0_moveArmature 27 = .ok (.getfield 53, 3) := by decide +kernel
theorem dX0_moveArmature_30 : decode cX0_moveArmature 30 = .ok (.iconst 1, 1) := by decide +kernel
theorem dX0_moveArmature_31 : decode cX0_moveArmature 31 = .ok (.iload_n 1, 1) := by decide +kernel
theorem dX0_moveArmature_32 : decode cX0_moveArmature 32 = .ok (.ishl, 1) := by decide +kernel
theorem dX0_moveArmature_33 : decode cX0_moveArmature 33 = .ok (.ior, 1) := by decide +kernel
theorem dX0_moveArmature_34 : decode cX0_moveArmature 34 = .ok (.putfield 53, 3) := by decide +kernel
theorem dX0_moveArmature_37 : decode cX0_moveArmature 37 = .ok (.aload_n 0, 1) := by decide +kernel
theorem dX0_moveArmature_38 : decode cX0_moveArmature 38 = .ok (.getfield 27, 3) := by decide +kernel
theorem dX0_moveArmature_41 : decode cX0_moveArmature 41 = .ok (.iconst 2, 1) := by decide +kernel
theorem dX0_moveArmature_42 : decode cX0_moveArmature 42 = .ok (.iload_n 1, 1) := by decide +kernel
theorem dX0_moveArmature_43 : decode cX0_moveArmature 43 = .ok (.imul, 1) := by decide +kernel
theorem dX0_moveArmature_44 : decode cX0_moveArmature 44 = .ok (.iconst 1, 1) := by decide +kernel
theorem dX0_moveArmature_45 : decode cX0_moveArmature 45 = .ok (.iadd, 1) := by decide +kernel
theorem dX0_moveArmature_46 : decode cX0_moveArmature 46 = .ok (.aload_n 0, 1) := by decide +kernel
theorem dX0_moveArmature_47 : decode cX0_moveArmature 47 = .ok (.getfield 41, 3) := by decide +kernel
theorem dX0_moveArmature_50 : decode cX0_moveArmature 50 = .ok (.iload_n 2, 1) := by decide +kernel
theorem dX0_moveArmature_51 : decode cX0_moveArmature 51 = .ok (.iadd, 1) := by decide +kernel
theorem dX0_moveArmature_52 : decode cX0_moveArmature 52 = .ok (.invokestatic 77, 3) := by decide +kernel
theorem dX0_moveArmature_55 : decode cX0_moveArmature 55 = .ok (.return_, 1) := by decide +kernel
theorem dX0_run_0 : decode cX0_run 0 = .ok (.iconst 0, 1) := by decide +kernel
theorem dX0_run_1 : decode cX0_run 1 = .ok (.istore 4, 2) := by decide +kernel
theorem dX0_run_3 : decode cX0_run 3 = .ok (.iload 4, 2) := by decide +kernel
theorem dX0_run_5 : decode cX0_run 5 = .ok (.iload_n 1, 1) := by decide +kernel
theorem dX0_run_6 : decode cX0_run 6 = .ok (.if_icmp .ge 44, 3) := by decide +kernel
theorem dX0_run_9 : decode cX0_run 9 = .ok (.aload_n 0, 1) := by decide +kernel
theorem dX0_run_10 : decode cX0_run 10 = .ok (.iload_n 3, 1) := by decide +kernel
theorem dX0_run_11 : decode cX0_run 11 = .ok (.invokevirtual 131, 3) := by decide +kernel
theorem dX0_run_14 : decode cX0_run 14 = .ok (.istore 5, 2) := by decide +kernel
theorem dX0_run_16 : decode cX0_run 16 = .ok (.iload 5, 2) := by decide +kernel
theorem dX0_run_18 : decode cX0_run 18 = .ok (.iconst (-1), 1) := by decide +kernel
theorem dX0_run_19 : decode cX0_run 19 = .ok (.if_icmp .eq 16, 3) := by decide +kernel
theorem dX0_run_22 : decode cX0_run 22 = .ok (.aload_n 0, 1) := by decide +kernel
theorem dX0_run_23 : decode cX0_run 23 = .ok (.getfield 27, 3) := by decide +kernel
theorem dX0_run_26 : decode cX0_run 26 = .ok (.iload 5, 2) := by decide +kernel
theorem dX0_run_28 : decode cX0_run 28 = .ok (.invokestatic 73, 3) := by decide +kernel
theorem dX0_run_31 : decode cX0_run 31 = .ok (.iload_n 2, 1) := by decide +kernel
theorem dX0_run_32 : decode cX0_run 32 = .ok (.if_icmp .le 6, 3) := by decide +kernel
theorem dX0_run_35 : decode cX0_run 35 = .ok (.iload 4, 2) := by decide +kernel
theorem dX0_run_37 : decode cX0_run 37 = .ok (.ireturn, 1) := by decide +kernel
theorem dX0_run_38 : decode cX0_run 38 = .ok (.aload_n 0, 1) := by decide +kernel
theorem dX0_run_39 : decode cX0_run 39 = .ok (.iload 5, 2) := by decide +kernel
theorem dX0_run_41 : decode cX0_run 41 = .ok (.invokevirtual 141, 3) := by decide +kernel
theorem dX0_run_44 : decode cX0_run 44 = .ok (.iinc 4 1, 3) := by decide +kernel
theorem dX0_run_47 : decode cX0_run 47 = .ok (.goto (-44), 3) := by decide +kernel
theorem dX0_run_50 : decode cX0_run 50 = .ok (.iload_n 1, 1) := by decide +kernel
theorem dX0_run_51 : decode cX0_run 51 = .ok (.ireturn, 1) := by decide +kernel
