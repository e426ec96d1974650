theorem dX6_init_0 : decode cX6_init 0 = .ok (.aload_n 0, 1) := by decide +kernel
theorem dX6_init_1 : decode cX6_init 1 = .ok (.invokespecial 1, 3) := by decide +kernel
theorem dX6_init_4 : decode cX6_init 4 = .ok (.aload_n 0, 1) := by decide +kernel
theorem dX6_init_5 : decode cX6_init 5 = .ok (.sipush 203, 3) := by decide +kernel
theorem dX6_init_8 : decode cX6_init 8 = .ok (.newarray .int, 2) := by decide +kernel
theorem dX6_init_10 : decode cX6_init 10 = .ok (.putfield 7, 3) := by decide +kernel
theorem dX6_init_13 : decode cX6_init 13 = .ok (.aload_n 0, 1) := by decide +kernel
theorem dX6_init_14 : decode cX6_init 14 = .ok (.sipush 1218, 3) := by decide +kernel
theorem dX6_init_17 : decode cX6_init 17 = .ok (.newarray .int, 2) := by decide +kernel
theorem dX6_init_19 : decode cX6_init 19 = .ok (.putfield 13, 3) := by decide +kernel
theorem dX6_init_22 : decode cX6_init 22 = .ok (.aload_n 0, 1) := by decide +kernel
theorem dX6_init_23 : decode cX6_init 23 = .ok (.sipush 203, 3) := by decide +kernel
theorem dX6_init_26 : decode cX6_init 26 = .ok (.newarray .int, 2) := by decide +kernel
theorem dX6_init_28 : decode cX6_init 28 = .ok (.putfield 16, 3) := by decide +kernel
theorem dX6_init_31 : decode cX6_init 31 = .ok (.aload_n 0, 1) := by decide +kernel
theorem dX6_init_32 : decode cX6_init 32 = .ok (.sipush 203, 3) := by decide +kernel
theorem dX6_init_35 : decode cX6_init 35 = .ok (.newarray .int, 2) := by decide +kernel
theorem dX6_init_37 : decode cX6_init 37 = .ok (.putfield 19, 3) := by decide +kernel
theorem dX6_init_40 : decode cX6_init 40 = .ok (.aload_n 0, 1) := by decide +kernel
theorem dX6_init_41 : decode cX6_init 41 = .ok (.bipush 60, 2) := by decide +kernel
theorem dX6_init_43 : decode cX6_init 43 = .ok (.newarray .byte, 2) := by decide +kernel
theorem dX6_init_45 : decode cX6_init 45 = .ok (.putfield 22, 3) := by decide +kernel
theorem dX6_init_48 : decode cX6_init 48 = .ok (.aload_n 0, 1) := by decide +kernel
theorem dX6_init_49 : decode cX6_init 49 = .ok (.iconst 0, 1) := by decide +kernel
theorem dX6_init_50 : decode cX6_init 50 = .ok (.putfield 26, 3) := by decide +kernel
theorem dX6_init_53 : decode cX6_init 53 = .ok (.return_, 1) := by decide +kernel
theorem dX6_in_0 : decode cX6_in 0 = .ok (.iload_n 0, 1) := by decide +kernel
theorem dX6_in_1 : decode cX6_in 1 = .ok (.iload_n 1, 1) := by decide +kernel
theorem dX6_in_2 : decode cX6_in 2 = .ok (.if_icmp .lt 12, 3) := by decide +kernel
theorem dX6_in_5 : decode cX6_in 5 = .ok (.iload_n 0, 1) := by decide +kernel
theorem dX6_in_6 : decode cX6_in 6 = .ok (.iload_n 2, 1) := by decide +kernel
theorem dX6_in_7 : decode cX6_in 7 = .ok (.if_icmp .gt 7, 3) := by decide +kernel
theorem dX6_in_10 : decode cX6_in 10 = .ok (.iconst 1, 1) := by decide +kernel
theorem dX6_in_11 : decode cX6_in 11 = .ok (.goto 4, 3) := by decide +kernel
theorem dX6_in_14 : decode cX6_in 14 = .ok (.iconst 0, 1) := by decide +kernel
theorem dX6_in_15 : decode cX6_in 15 = .ok (.ireturn, 1) := by decide +kernel
theorem dX6_notes_0 : decode cX6_notes 0 = .ok (.aload_n 0, 1) := by decide +kernel
theorem dX6_notes_1 : decode cX6_notes 1 = .ok (.getfield 30, 3) := by decide +kernel
theorem dX6_notes_4 : decode cX6_notes 4 = .ok (.bipush 6, 2) := by decide +kernel
theorem dX6_notes_6 : decode cX6_notes 6 = .ok (.if_icmp .ne 44, 3) := by decide +kernel
theorem dX6_notes_9 : decode cX6_notes 9 = .ok (.iconst 0, 1) := by decide +kernel
theorem dX6_notes_10 : decode cX6_notes 10 = .ok (.istore_n 1, 1) := by decide +kernel
theorem dX6_notes_11 : decode cX6_notes 11 = .ok (.iload_n 1, 1) := by decide +kernel
theorem dX6_notes_12 : decode cX6_notes 12 = .ok (.sipush 1015, 3) := by decide +kernel
theorem dX6_notes_15 : decode cX6_notes 15 = .ok (.if_icmp .ge 25, 3) := by decide +kernel
theorem dX6_notes_18 : decode cX6_notes 18 = .ok (.aload_n 0, 1) := by decide +kernel
theorem dX6_notes_19 : decode cX6_notes 19 = .ok (.getfield 13, 3) := by decide +kernel
theorem dX6_notes_22 : decode cX6_notes 22 = .ok (.iload_n 1, 1) := by decide +kernel
theorem dX6_notes_23 : decode cX6_notes 23 = .ok (.aload_n 0, 1) := by decide +kernel
theorem dX6_notes_24 : decode cX6_notes 24 = .ok (.getfield 13, 3) := by decide +kernel
theorem dX6_notes_27 : decode cX6_notes 27 = .ok (.iload_n 1, 1) := by decide +kernel
theorem dX6_notes_28 : decode cX6_notes 28 = .ok (.sipush 203, 3) := by decide +kernel
theorem dX6_notes_31 : decode cX6_notes 31 = .ok (.iadd, 1) := by decide +kernel
theorem dX6_notes_32 : decode cX6_notes 32 = .ok (.iaload, 1) := by decide +kernel
theorem dX6_notes_33 : decode cX6_notes 33 = .ok (.iastore, 1) := by decide +kernel
theorem dX6_notes_34 : decode cX6_notes 34 = .ok (.iinc 1 1, 3) := by decide +kernel
theorem dX6_notes_37 : decode cX6_notes 37 = .ok (.goto (-26), 3) := by decide +kernel
theorem dX6_notes_40 : decode cX6_notes 40 = .ok (.aload_n 0, 1) := by decide +kernel
theorem dX6_notes_41 : decode cX6_notes 41 = .ok (.dup, 1) := by decide +kernel
theorem dX6_notes_42 : decode cX6_notes 42 = .ok (.getfield 30, 3) := by decide +kernel
theorem dX6_notes_45 : decode cX6_notes 45 = .ok (.iconst 1, 1) := by decide +kernel
theorem dX6_notes_46 : decode cX6_notes 46 = .ok (.isub, 1) := by decide +kernel
theorem dX6_notes_47 : decode cX6_notes 47 = .ok (.putfield 30, 3) := by decide +kernel
theorem dX6_notes_50 : decode cX6_notes 50 = .ok (.iconst 0, 1) := by decide +kernel
theorem dX6_notes_51 : decode cX6_notes 51 = .ok (.istore_n 1, 1) := by decide +kernel
theorem dX6_notes_52 : decode cX6_notes 52 = .ok (.iload_n 1, 1) := by decide +kernel
theorem dX6_notes_53 : decode cX6_notes 53 = .ok (.sipush 203, 3) := by decide +kernel
theorem dX6_notes_56 : decode cX6_notes 56 = .ok (.if_icmp .ge 30, 3) := by decide +kernel
theorem dX6_notes_59 : decode cX6_notes 59 = .ok (.aload_n 0, 1) := by decide +kernel
theorem dX6_notes_60 : decode cX6_notes 60 = .ok (.getfield 13, 3) := by decide +kernel
theorem dX6_notes_63 : decode cX6_notes 63 = .ok (.sipush 203, 3) := by decide +kernel
theorem dX6_notes_66 : decode cX6_notes 66 = .ok (.aload_n 0, 1) := by decide +kernel
theorem dX6_notes_67 : decode cX6_notes 67 = .ok (.getfield 30, 3) := by decide +kernel
theorem dX6_notes_70 : decode cX6_notes 70 = .ok (.imul, 1) := by decide +kernel
theorem dX6_notes_71 : decode cX6_notes 71 = .ok (.iload_n 1, 1) := by decide +kernel
theorem dX6_notes_72 : decode cX6_notes 72 = .ok (.iadd, 1) := by decide +kernel
theorem dX6_notes_73 : decode cX6_notes 73 = .ok (.aload_n 0, 1) := by decide +kernel
theorem dX6_notes_74 : decode cX6_notes 74 = .ok (.getfield 7, 3) := by decide +kernel
theorem dX6_notes_77 : decode cX6_notes 77 = .ok (.iload_n 1, 1) := by decide +kernel
theorem dX6_notes_78 : decode cX6_notes 78 = .ok (.iaload, 1) := by decide +kernel
theorem dX6_notes_79 : decode cX6_notes 79 = .ok (.iastore, 1) := by decide +kernel
theorem dX6_notes_80 : decode cX6_notes 80 = .ok (.iinc 1 1, 3) := by decide +kernel
theorem dX6_notes_83 : decode cX6_notes 83 = .ok (.goto (-31), 3) := by decide +kernel
theorem dX6_notes_86 : decode cX6_notes 86 = .ok (.aload_n 0, 1) := by decide +kernel
theorem dX6_notes_87 : decode cX6_notes 87 = .ok (.dup, 1) := by decide +kernel
theorem dX6_notes_88 : decode cX6_notes 88 = .ok (.getfield 30, 3) := by decide +kernel
theorem dX6_notes_91 : decode cX6_notes 91 = .ok (.iconst 1, 1) := by decide +kernel
theorem dX6_notes_92 : decode cX6_notes 92 = .ok (.iadd, 1) := by decide +kernel
theorem dX6_notes_93 : decode cX6_notes 93 = .ok (.putfield 30, 3) := by decide +kernel
theorem dX6_notes_96 : decode cX6_notes 96 = .ok (.return_, 1) := by decide +kernel
theorem dX6_undo_0 : decode cX6_undo 0 = .ok (.aload_n 0, 1) := by decide +kernel
theorem dX6_undo_1 : decode cX6_undo 1 = .ok (.getfield 30, 3) := by decide +kernel
theorem dX6_undo_4 : decode cX6_undo 4 = .ok (.ifCond .ne 6, 3) := by decide +kernel
theorem dX6_undo_7 : decode cX6_undo 7 = .ok (.bipush (-2), 2) := by decide +kernel
theorem dX6_undo_9 : decode cX6_undo 9 = .ok (.ireturn, 1) := by decide +kernel
theorem dX6_undo_10 : decode cX6_undo 10 = .ok (.aload_n 0, 1) := by decide +kernel
theorem dX6_undo_11 : decode cX6_undo 11 = .ok (.dup, 1) := by decide +kernel
theorem dX6_undo_12 : decode cX6_undo 12 = .ok (.getfield 30, 3) := by decide +kernel
theorem dX6_undo_15 : decode cX6_undo 15 = .ok (.iconst 1, 1) := by decide +kernel
theorem dX6_undo_16 : decode cX6_undo 16 = .ok (.isub, 1) := by decide +kernel
theorem dX6_undo_17 : decode cX6_undo 17 = .ok (.putfield 30, 3) := by decide +kernel
theorem dX6_undo_20 : decode cX6_undo 20 = .ok (.iconst 0, 1) := by decide +kernel
theorem dX6_undo_21 : decode cX6_undo 21 = .ok (.istore_n 1, 1) := by decide +kernel
theorem dX6_undo_22 : decode cX6_undo 22 = .ok (.iload_n 1, 1) := by decide +kernel
theorem dX6_undo_23 : decode cX6_undo 23 = .ok (.sipush 203, 3) := by decide +kernel
theorem dX6_undo_26 : decode cX6_undo 26 = .ok (.if_icmp .ge 30, 3) := by decide +kernel
theorem dX6_undo_29 : decode cX6_undo 29 = .ok (.aload_n 0, 1) := by decide +kernel
theorem dX6_undo_30 : decode cX6_undo 30 = .ok (.getfield 7, 3) := by decide +kernel
theorem dX6_undo_33 : decode cX6_undo 33 = .ok (.iload_n 1, 1) := by decide +kernel
theorem dX6_undo_34 : decode cX6_undo 34 = .ok (.aload_n 0, 1) := by decide +kernel
theorem dX6_undo_35 : decode cX6_undo 35 = .ok (.getfield 13, 3) := by decide +kernel
theorem dX6_undo_38 : decode cX6_undo 38 = .ok (.sipush 203, 3) := by decide +kernel
theorem dX6_undo_41 : decode cX6_undo 41 = .ok (.aload_n 0, 1) := by decide +kernel
theorem dX6_undo_42 : decode cX6_undo 42 = .ok (.getfield 30, 3) := by decide +kernel
theorem dX6_undo_45 : decode cX6_undo 45 = .ok (.imul, 1) := by decide +kernel
theorem dX6_undo_46 : decode cX6_undo 46 = .ok (.iload_n 1, 1) := by decide +kernel
theorem dX6_undo_47 : decode cX6_undo 47 = .ok (.iadd, 1) := by decide +kernel
theorem dX6_undo_48 : decode cX6_undo 48 = .ok (.iaload, 1) := by decide +kernel
theorem dX6_undo_49 : decode cX6_undo 49 = .ok (.iastore, 1) := by decide +kernel
theorem dX6_undo_50 : decode cX6_undo 50 = .ok (.iinc 1 1, 3) := by decide +kernel
theorem dX6_undo_53 : decode cX6_undo 53 = .ok (.goto (-31), 3) := by decide +kernel
theorem dX6_undo_56 : decode cX6_undo 56 = .ok (.aload_n 0, 1) := by decide +kernel
theorem dX6_undo_57 : decode cX6_undo 57 = .ok (.getfield 30, 3) := by decide +kernel
theorem dX6_undo_60 : decode cX6_undo 60 = .ok (.ireturn, 1) := by decide +kernel
theorem dX6_keeps_0 : decode cX6_keeps 0 = .ok (.iconst 0, 1) := by decide +kernel
theorem dX6_keeps_1 : decode cX6_keeps 1 = .ok (.istore_n 1, 1) := by decide +kernel
theorem dX6_keeps_2 : decode cX6_keeps 2 = .ok (.iload_n 1, 1) := by decide +kernel
theorem dX6_keeps_3 : decode cX6_keeps 3 = .ok (.sipush 203, 3) := by decide +kernel
theorem dX6_keeps_6 : decode cX6_keeps 6 = .ok (.if_icmp .ge 21, 3) := by decide +kernel
theorem dX6_keeps_9 : decode cX6_keeps 9 = .ok (.aload_n 0, 1) := by decide +kernel
theorem dX6_keeps_10 : decode cX6_keeps 10 = .ok (.getfield 16, 3) := by decide +kernel
theorem dX6_keeps_13 : decode cX6_keeps 13 = .ok (.iload_n 1, 1) := by decide +kernel
theorem dX6_keeps_14 : decode cX6_keeps 14 = .ok (.aload_n 0, 1) := by decide +kernel
theorem dX6_keeps_15 : decode cX6_keeps 15 = .ok (.getfield 7, 3) := by decide +kernel
theorem dX6_keeps_18 : decode cX6_keeps 18 = .ok (.iload_n 1, 1) := by decide +kernel
theorem dX6_keeps_19 : decode cX6_keeps 19 = .ok (.iaload, 1) := by decide +kernel
theorem dX6_keeps_20 : decode cX6_keeps 20 = .ok (.iastore, 1) := by decide +kernel
theorem dX6_keeps_21 : decode cX6_keeps 21 = .ok (.iinc 1 1, 3) := by decide +kernel
theorem dX6_keeps_24 : decode cX6_keeps 24 = .ok (.goto (-22), 3) := by decide +kernel
theorem dX6_keeps_27 : decode cX6_keeps 27 = .ok (.return_, 1) := by decide +kernel
theorem dX6_restores_0 : decode cX6_restores 0 = .ok (.iconst 0, 1) := by decide +kernel
theorem dX6_restores_1 : decode cX6_restores 1 = .ok (.istore_n 1, 1) := by decide +kernel
theorem dX6_restores_2 : decode cX6_restores 2 = .ok (.iload_n 1, 1) := by decide +kernel
theorem dX6_restores_3 : decode cX6_restores 3 = .ok (.sipush 203, 3) := by decide +kernel
theorem dX6_restores_6 : decode cX6_restores 6 = .ok (.if_icmp .ge 21, 3) := by decide +kernel
theorem dX6_restores_9 : decode cX6_restores 9 = .ok (.aload_n 0, 1) := by decide +kernel
theorem dX6_restores_10 : decode cX6_restores 10 = .ok (.getfield 7, 3) := by decide +kernel
theorem dX6_restores_13 : decode cX6_restores 13 = .ok (.iload_n 1, 1) := by decide +kernel
theorem dX6_restores_14 : decode cX6_restores 14 = .ok (.aload_n 0, 1) := by decide +kernel
theorem dX6_restores_15 : decode cX6_restores 15 = .ok (.getfield 16, 3) := by decide +kernel
theorem dX6_restores_18 : decode cX6_restores 18 = .ok (.iload_n 1, 1) := by decide +kernel
theorem dX6_restores_19 : decode cX6_restores 19 = .ok (.iaload, 1) := by decide +kernel
theorem dX6_restores_20 : decode cX6_restores 20 = .ok (.iastore, 1) := by decide +kernel
theorem dX6_restores_21 : decode cX6_restores 21 = .ok (.iinc 1 1, 3) := by decide +kernel
theorem dX6_restores_24 : decode cX6_restores 24 = .ok (.goto (-22), 3) := by decide +kernel
theorem dX6_restores_27 : decode cX6_restores 27 = .ok (.return_, 1) := by decide +kernel
theorem dX6_isRelay_0 : decode cX6_isRelay 0 = .ok (.iload_n 1, 1) := by decide +kernel
theorem dX6_isRelay_1 : decode cX6_isRelay 1 = .ok (.iconst 0, 1) := by decide +kernel
theorem dX6_isRelay_2 : decode cX6_isRelay 2 = .ok (.aload_n 0, 1) := by decide +kernel
theorem dX6_isRelay_3 : decode cX6_isRelay 3 = .ok (.getfield 7, 3) := by decide +kernel
theorem dX6_isRelay_6 : decode cX6_isRelay 6 = .ok (.iconst 1, 1) := by decide +kernel
theorem dX6_isRelay_7 : decode cX6_isRelay 7 = .ok (.iaload, 1) := by decide +kernel
theorem dX6_isRelay_8 : decode cX6_isRelay 8 = .ok (.iconst 1, 1) := by decide +kernel
theorem dX6_isRelay_9 : decode cX6_isRelay 9 = .ok (.isub, 1) := by decide +kernel
theorem dX6_isRelay_10 : decode cX6_isRelay 10 = .ok (.invokestatic 33, 3) := by decide +kernel
theorem dX6_isRelay_13 : decode cX6_isRelay 13 = .ok (.ireturn, 1) := by decide +kernel
theorem dX6_of_0 : decode cX6_of 0 = .ok (.aload_n 0, 1) := by decide +kernel
theorem dX6_of_1 : decode cX6_of 1 = .ok (.getfield 7, 3) := by decide +kernel
theorem dX6_of_4 : decode cX6_of 4 = .ok (.iconst 3, 1) := by decide +kernel
theorem dX6_of_5 : decode cX6_of 5 = .ok (.bipush 25, 2) := by decide +kernel
theorem dX6_of_7 : decode cX6_of 7 = .ok (.iload_n 1, 1) := by decide +kernel
theorem dX6_of_8 : decode cX6_of 8 = .ok (.imul, 1) := by decide +kernel
theorem dX6_of_9 : decode cX6_of 9 = .ok (.iadd, 1) := by decide +kernel
theorem dX6_of_10 : decode cX6_of 10 = .ok (.iload_n 2, 1) := by decide +kernel
theorem dX6_of_11 : decode cX6_of 11 = .ok (.iadd, 1) := by decide +kernel
theorem dX6_of_12 : decode cX6_of 12 = .ok (.iaload, 1) := by decide +kernel
theorem dX6_of_13 : decode cX6_of 13 = .ok (.ireturn, 1) := by decide +kernel
theorem dX6_puts_0 : decode cX6_puts 0 = .ok (.aload_n 0, 1) := by decide +kernel
theorem dX6_puts_1 : decode cX6_puts 1 = .ok (.getfield 7, 3) := by decide +kernel
theorem dX6_puts_4 : decode cX6_puts 4 = .ok (.iconst 3, 1) := by decide +kernel
theorem dX6_puts_5 : decode cX6_puts 5 = .ok (.bipush 25, 2) := by decide +kernel
theorem dX6_puts_7 : decode cX6_puts 7 = .ok (.iload_n 1, 1) := by decide +kernel
theorem dX6_puts_8 : decode cX6_puts 8 = .ok (.imul, 1) := by decide +kernel
theorem dX6_puts_9 : decode cX6_puts 9 = .ok (.iadd, 1) := by decide +kernel
theorem dX6_puts_10 : decode cX6_puts 10 = .ok (.iload_n 2, 1) := by decide +kernel
theorem dX6_puts_11 : decode cX6_puts 11 = .ok (.iadd, 1) := by decide +kernel
theorem dX6_puts_12 : decode cX6_puts 12 = .ok (.iload_n 3, 1) := by decide +kernel
theorem dX6_puts_13 : decode cX6_puts 13 = .ok (.iastore, 1) := by decide +kernel
theorem dX6_puts_14 : decode cX6_puts 14 = .ok (.return_, 1) := by decide +kernel
theorem dX6_set_0 : decode cX6_set 0 = .ok (.iconst 0, 1) := by decide +kernel
theorem dX6_set_1 : decode cX6_set 1 = .ok (.istore_n 2, 1) := by decide +kernel
theorem dX6_set_2 : decode cX6_set 2 = .ok (.iconst 0, 1) := by decide +kernel
theorem dX6_set_3 : decode cX6_set 3 = .ok (.istore_n 3, 1) := by decide +kernel
theorem dX6_set_4 : decode cX6_set 4 = .ok (.iload_n 3, 1) := by decide +kernel
theorem dX6_set_5 : decode cX6_set 5 = .ok (.aload_n 0, 1) := by decide +kernel
theorem dX6_set_6 : decode cX6_set 6 = .ok (.getfield 7, 3) := by decide +kernel
theorem dX6_set_9 : decode cX6_set 9 = .ok (.iconst 1, 1) := by decide +kernel
theorem dX6_set_10 : decode cX6_set 10 = .ok (.iaload, 1) := by decide +kernel
theorem dX6_set_11 : decode cX6_set 11 = .ok (.if_icmp .ge 28, 3) := by decide +kernel
theorem dX6_set_14 : decode cX6_set 14 = .ok (.iload_n 2, 1) := by decide +kernel
theorem dX6_set_15 : decode cX6_set 15 = .ok (.aload_n 0, 1) := by decide +kernel
theorem dX6_set_16 : decode cX6_set 16 = .ok (.iload_n 3, 1) := by decide +kernel
theorem dX6_set_17 : decode cX6_set 17 = .ok (.iload_n 1, 1) := by decide +kernel
theorem dX6_set_18 : decode cX6_set 18 = .ok (.invokevirtual 37, 3) := by decide +kernel
theorem dX6_set_21 : decode cX6_set 21 = .ok (.ifCond .eq 9, 3) := by decide +kernel
theorem dX6_set_24 : decode cX6_set 24 = .ok (.iconst 1, 1) := by decide +kernel
theorem dX6_set_25 : decode cX6_set 25 = .ok (.iload_n 3, 1) := by decide +kernel
theorem dX6_set_26 : decode cX6_set 26 = .ok (.ishl, 1) := by decide +kernel
theorem dX6_set_27 : decode cX6_set 27 = .ok (.goto 4, 3) := by decide +kernel
theorem dX6_set_30 : decode cX6_set 30 = .ok (.iconst 0, 1) := by decide +kernel
theorem dX6_set_31 : decode cX6_set 31 = .ok (.ior, 1) := by decide +kernel
theorem dX6_set_32 : decode cX6_set 32 = .ok (.istore_n 2, 1) := by decide +kernel
theorem dX6_set_33 : decode cX6_set 33 = .ok (.iinc 3 1, 3) := by decide +kernel
theorem dX6_set_36 : decode cX6_set 36 = .ok (.goto (-32), 3) := by decide +kernel
theorem dX6_set_39 : decode cX6_set 39 = .ok (.iload_n 2, 1) := by decide +kernel
theorem dX6_set_40 : decode cX6_set 40 = .ok (.ireturn, 1) := by decide +kernel
theorem dX6_closed_0 : decode cX6_closed 0 = .ok (.iconst 0, 1) := by decide +kernel
theorem dX6_closed_1 : decode cX6_closed 1 = .ok (.istore_n 1, 1) := by decide +kernel
theorem dX6_closed_2 : decode cX6_closed 2 = .ok (.iconst 0, 1) := by decide +kernel
theorem dX6_closed_3 : decode cX6_closed 3 = .ok (.istore_n 2, 1) := by decide +kernel
theorem dX6_closed_4 : decode cX6_closed 4 = .ok (.iload_n 2, 1) := by decide +kernel
theorem dX6_closed_5 : decode cX6_closed 5 = .ok (.aload_n 0, 1) := by decide +kernel
theorem dX6_closed_6 : decode cX6_closed 6 = .ok (.getfield 7, 3) := by decide +kernel
theorem dX6_closed_9 : decode cX6_closed 9 = .ok (.iconst 1, 1) := by decide +kernel
theorem dX6_closed_10 : decode cX6_closed 10 = .ok (.iaload, 1) := by decide +kernel
theorem dX6_closed_11 : decode cX6_closed 11 = .ok (.if_icmp .ge 69, 3) := by decide +kernel
theorem dX6_closed_14 : decode cX6_closed 14 = .ok (.aload_n 0, 1) := by decide +kernel
theorem dX6_closed_15 : decode cX6_closed 15 = .ok (.iload_n 2, 1) := by decide +kernel
theorem dX6_closed_16 : decode cX6_closed 16 = .ok (.bipush 6, 2) := by decide +kernel
theorem dX6_closed_18 : decode cX6_closed 18 = .ok (.invokevirtual 37, 3) := by decide +kernel
theorem dX6_closed_21 : decode cX6_closed 21 = .ok (.iconst 2, 1) := by decide +kernel
theorem dX6_closed_22 : decode cX6_closed 22 = .ok (.if_icmp .eq 32, 3) := by decide +kernel
theorem dX6_closed_25 : decode cX6_closed 25 = .ok (.aload_n 0, 1) := by decide +kernel
theorem dX6_closed_26 : decode cX6_closed 26 = .ok (.iload_n 2, 1) := by decide +kernel
theorem dX6_closed_27 : decode cX6_closed 27 = .ok (.bipush 6, 2) := by decide +kernel
theorem dX6_closed_29 : decode cX6_closed 29 = .ok (.invokevirtual 37, 3) := by decide +kernel
theorem dX6_closed_32 : decode cX6_closed 32 = .ok (.ifCond .ne 26, 3) := by decide +kernel
theorem dX6_closed_35 : decode cX6_closed 35 = .ok (.aload_n 0, 1) := by decide +kernel
theorem dX6_closed_36 : decode cX6_closed 36 = .ok (.iload_n 2, 1) := by decide +kernel
theorem dX6_closed_37 : decode cX6_closed 37 = .ok (.iconst 3, 1) := by decide +kernel
theorem dX6_closed_38 : decode cX6_closed 38 = .ok (.invokevirtual 37, 3) := by decide +kernel
theorem dX6_closed_41 : decode cX6_closed 41 = .ok (.iconst 1, 1) := by decide +kernel
theorem dX6_closed_42 : decode cX6_closed 42 = .ok (.if_icmp .ne 16, 3) := by decide +kernel
theorem dX6_closed_45 : decode cX6_closed 45 = .ok (.aload_n 0, 1) := by decide +kernel
theorem dX6_closed_46 : decode cX6_closed 46 = .ok (.iload_n 2, 1) := by decide +kernel
theorem dX6_closed_47 : decode cX6_closed 47 = .ok (.iconst 5, 1) := by decide +kernel
theorem dX6_closed_48 : decode cX6_closed 48 = .ok (.invokevirtual 37, 3) := by decide +kernel
theorem dX6_closed_51 : decode cX6_closed 51 = .ok (.ifCond .ne 7, 3) := by decide +kernel
theorem dX6_closed_54 : decode cX6_closed 54 = .ok (.iconst 1, 1) := by decide +kernel
theorem dX6_closed_55 : decode cX6_closed 55 = .ok (.goto 4, 3) := by decide +kernel
theorem dX6_closed_58 : decode cX6_closed 58 = .ok (.iconst 0, 1) := by decide +kernel
theorem dX6_closed_59 : decode cX6_closed 59 = .ok (.istore_n 3, 1) := by decide +kernel
theorem dX6_closed_60 : decode cX6_closed 60 = .ok (.iload_n 1, 1) := by decide +kernel
theorem dX6_closed_61 : decode cX6_closed 61 = .ok (.iload_n 3, 1) := by decide +kernel
theorem dX6_closed_62 : decode cX6_closed 62 = .ok (.ifCond .eq 9, 3) := by decide +kernel
theorem dX6_closed_65 : decode cX6_closed 65 = .ok (.iconst 1, 1) := by decide +kernel
theorem dX6_closed_66 : decode cX6_closed 66 = .ok (.iload_n 2, 1) := by decide +kernel
theorem dX6_closed_67 : decode cX6_closed 67 = .ok (.ishl, 1) := by decide +kernel
theorem dX6_closed_68 : decode cX6_closed 68 = .ok (.goto 4, 3) := by decide +kernel
theorem dX6_closed_71 : decode cX6_closed 71 = .ok (.iconst 0, 1) := by decide +kernel
theorem dX6_closed_72 : decode cX6_closed 72 = .ok (.ior, 1) := by decide +kernel
theorem dX6_closed_73 : decode cX6_closed 73 = .ok (.istore_n 1, 1) := by decide +kernel
theorem dX6_closed_74 : decode cX6_closed 74 = .ok (.iinc 2 1, 3) := by decide +kernel
theorem dX6_closed_77 : decode cX6_closed 77 = .ok (.goto (-73), 3) := by decide +kernel
theorem dX6_closed_80 : decode cX6_closed 80 = .ok (.iload_n 1, 1) := by decide +kernel
theorem dX6_closed_81 : decode cX6_closed 81 = .ok (.ireturn, 1) := by decide +kernel
theorem dX6_conducts_0 : decode cX6_conducts 0 = .ok (.iconst 0, 1) := by decide +kernel
theorem dX6_conducts_1 : decode cX6_conducts 1 = .ok (.istore_n 3, 1) := by decide +kernel
theorem dX6_conducts_2 : decode cX6_conducts 2 = .ok (.iconst 0, 1) := by decide +kernel
theorem dX6_conducts_3 : decode cX6_conducts 3 = .ok (.istore 4, 2) := by decide +kernel
theorem dX6_conducts_5 : decode cX6_conducts 5 = .ok (.iload 4, 2) := by decide +kernel
theorem dX6_conducts_7 : decode cX6_conducts 7 = .ok (.aload_n 0, 1) := by decide +kernel
theorem dX6_conducts_8 : decode cX6_conducts 8 = .ok (.iload_n 1, 1) := by decide +kernel
theorem dX6_conducts_9 : decode cX6_conducts 9 = .ok (.bipush 12, 2) := by decide +kernel
theorem dX6_conducts_11 : decode cX6_conducts 11 = .ok (.invokevirtual 37, 3) := by decide +kernel
theorem dX6_conducts_14 : decode cX6_conducts 14 = .ok (.if_icmp .ge 65, 3) := by decide +kernel
theorem dX6_conducts_17 : decode cX6_conducts 17 = .ok (.aload_n 0, 1) := by decide +kernel
theorem dX6_conducts_18 : decode cX6_conducts 18 = .ok (.iload_n 1, 1) := by decide +kernel
theorem dX6_conducts_19 : decode cX6_conducts 19 = .ok (.bipush 13, 2) := by decide +kernel
theorem dX6_conducts_21 : decode cX6_conducts 21 = .ok (.iconst 2, 1) := by decide +kernel
theorem dX6_conducts_22 : decode cX6_conducts 22 = .ok (.iload 4, 2) := by decide +kernel
theorem dX6_conducts_24 : decode cX6_conducts 24 = .ok (.imul, 1) := by decide +kernel
theorem dX6_conducts_25 : decode cX6_conducts 25 = .ok (.iadd, 1) := by decide +kernel
theorem dX6_conducts_26 : decode cX6_conducts 26 = .ok (.invokevirtual 37, 3) := by decide +kernel
theorem dX6_conducts_29 : decode cX6_conducts 29 = .ok (.istore 5, 2) := by decide +kernel
theorem dX6_conducts_31 : decode cX6_conducts 31 = .ok (.aload_n 0, 1) := by decide +kernel
theorem dX6_conducts_32 : decode cX6_conducts 32 = .ok (.iload_n 1, 1) := by decide +kernel
theorem dX6_conducts_33 : decode cX6_conducts 33 = .ok (.bipush 13, 2) := by decide +kernel
theorem dX6_conducts_35 : decode cX6_conducts 35 = .ok (.iconst 2, 1) := by decide +kernel
theorem dX6_conducts_36 : decode cX6_conducts 36 = .ok (.iload 4, 2) := by decide +kernel
theorem dX6_conducts_38 : decode cX6_conducts 38 = .ok (.imul, 1) := by decide +kernel
theorem dX6_conducts_39 : decode cX6_conducts 39 = .ok (.iadd, 1) := by decide +kernel
theorem dX6_conducts_40 : decode cX6_conducts 40 = .ok (.iconst 1, 1) := by decide +kernel
theorem dX6_conducts_41 : decode cX6_conducts 41 = .ok (.iadd, 1) := by decide +kernel
theorem dX6_conducts_42 : decode cX6_conducts 42 = .ok (.invokevirtual 37, 3) := by decide +kernel
theorem dX6_conducts_45 : decode cX6_conducts 45 = .ok (.istore 6, 2) := by decide +kernel
theorem dX6_conducts_47 : decode cX6_conducts 47 = .ok (.iload_n 3, 1) := by decide +kernel
theorem dX6_conducts_48 : decode cX6_conducts 48 = .ok (.ifCond .ne 19, 3) := by decide +kernel
theorem dX6_conducts_51 : decode cX6_conducts 51 = .ok (.iload 5, 2) := by decide +kernel
theorem dX6_conducts_53 : decode cX6_conducts 53 = .ok (.iload_n 2, 1) := by decide +kernel
theorem dX6_conducts_54 : decode cX6_conducts 54 = .ok (.iconst (-1), 1) := by decide +kernel
theorem dX6_conducts_55 : decode cX6_conducts 55 = .ok (.ixor, 1) := by decide +kernel
theorem dX6_conducts_56 : decode cX6_conducts 56 = .ok (.iand, 1) := by decide +kernel
theorem dX6_conducts_57 : decode cX6_conducts 57 = .ok (.ifCond .ne 14, 3) := by decide +kernel
theorem dX6_conducts_60 : decode cX6_conducts 60 = .ok (.iload 6, 2) := by decide +kernel
theorem dX6_conducts_62 : decode cX6_conducts 62 = .ok (.iload_n 2, 1) := by decide +kernel
theorem dX6_conducts_63 : decode cX6_conducts 63 = .ok (.iand, 1) := by decide +kernel
theorem dX6_conducts_64 : decode cX6_conducts 64 = .ok (.ifCond .ne 7, 3) := by decide +kernel
theorem dX6_conducts_67 : decode cX6_conducts 67 = .ok (.iconst 1, 1) := by decide +kernel
theorem dX6_conducts_68 : decode cX6_conducts 68 = .ok (.goto 4, 3) := by decide +kernel
theorem dX6_conducts_71 : decode cX6_conducts 71 = .ok (.iconst 0, 1) := by decide +kernel
theorem dX6_conducts_72 : decode cX6_conducts 72 = .ok (.istore_n 3, 1) := by decide +kernel
theorem dX6_conducts_73 : decode cX6_conducts 73 = .ok (.iinc 4 1, 3) := by decide +kernel
theorem dX6_conducts_76 : decode cX6_conducts 76 = .ok (.goto (-71), 3) := by decide +kernel
theorem dX6_conducts_79 : decode cX6_conducts 79 = .ok (.iload_n 3, 1) := by decide +kernel
theorem dX6_conducts_80 : decode cX6_conducts 80 = .ok (.ireturn, 1) := by decide +kernel
theorem dX6_looks_0 : decode cX6_looks 0 = .ok (.aload_n 0, 1) := by decide +kernel
theorem dX6_looks_1 : decode cX6_looks 1 = .ok (.getfield 7, 3) := by decide +kernel
theorem dX6_looks_4 : decode cX6_looks 4 = .ok (.iconst 0, 1) := by decide +kernel
theorem dX6_looks_5 : decode cX6_looks 5 = .ok (.iaload, 1) := by decide +kernel
theorem dX6_looks_6 : decode cX6_looks 6 = .ok (.aload_n 0, 1) := by decide +kernel
theorem dX6_looks_7 : decode cX6_looks 7 = .ok (.invokevirtual 41, 3) := by decide +kernel
theorem dX6_looks_10 : decode cX6_looks 10 = .ok (.bipush 8, 2) := by decide +kernel
theorem dX6_looks_12 : decode cX6_looks 12 = .ok (.ishl, 1) := by decide +kernel
theorem dX6_looks_13 : decode cX6_looks 13 = .ok (.ior, 1) := by decide +kernel
theorem dX6_looks_14 : decode cX6_looks 14 = .ok (.istore_n 1, 1) := by decide +kernel
theorem dX6_looks_15 : decode cX6_looks 15 = .ok (.iconst 0, 1) := by decide +kernel
theorem dX6_looks_16 : decode cX6_looks 16 = .ok (.istore_n 2, 1) := by decide +kernel
theorem dX6_looks_17 : decode cX6_looks 17 = .ok (.iconst 0, 1) := by decide +kernel
theorem dX6_looks_18 : decode cX6_looks 18 = .ok (.istore_n 3, 1) := by decide +kernel
theorem dX6_looks_19 : decode cX6_looks 19 = .ok (.iload_n 3, 1) := by decide +kernel
theorem dX6_looks_20 : decode cX6_looks 20 = .ok (.aload_n 0, 1) := by decide +kernel
theorem dX6_looks_21 : decode cX6_looks 21 = .ok (.getfield 7, 3) := by decide +kernel
theorem dX6_looks_24 : decode cX6_looks 24 = .ok (.iconst 1, 1) := by decide +kernel
theorem dX6_looks_25 : decode cX6_looks 25 = .ok (.iaload, 1) := by decide +kernel
theorem dX6_looks_26 : decode cX6_looks 26 = .ok (.if_icmp .ge 154, 3) := by decide +kernel
theorem dX6_looks_29 : decode cX6_looks 29 = .ok (.aload_n 0, 1) := by decide +kernel
theorem dX6_looks_30 : decode cX6_looks 30 = .ok (.iload_n 3, 1) := by decide +kernel
theorem dX6_looks_31 : decode cX6_looks 31 = .ok (.iload_n 1, 1) := by decide +kernel
theorem dX6_looks_32 : decode cX6_looks 32 = .ok (.invokevirtual 45, 3) := by decide +kernel
theorem dX6_looks_35 : decode cX6_looks 35 = .ok (.ifCond .eq 7, 3) := by decide +kernel
theorem dX6_looks_38 : decode cX6_looks 38 = .ok (.iconst 1, 1) := by decide +kernel
theorem dX6_looks_39 : decode cX6_looks 39 = .ok (.goto 4, 3) := by decide +kernel
theorem dX6_looks_42 : decode cX6_looks 42 = .ok (.iconst 0, 1) := by decide +kernel
theorem dX6_looks_43 : decode cX6_looks 43 = .ok (.istore 4, 2) := by decide +kernel
theorem dX6_looks_45 : decode cX6_looks 45 = .ok (.iload 4, 2) := by decide +kernel
theorem dX6_looks_47 : decode cX6_looks 47 = .ok (.aload_n 0, 1) := by decide +kernel
theorem dX6_looks_48 : decode cX6_looks 48 = .ok (.iload_n 3, 1) := by decide +kernel
theorem dX6_looks_49 : decode cX6_looks 49 = .ok (.iconst 4, 1) := by decide +kernel
theorem dX6_looks_50 : decode cX6_looks 50 = .ok (.invokevirtual 37, 3) := by decide +kernel
theorem dX6_looks_53 : decode cX6_looks 53 = .ok (.if_icmp .eq 121, 3) := by decide +kernel
theorem dX6_looks_56 : decode cX6_looks 56 = .ok (.iinc 2 1, 3) := by decide +kernel
theorem dX6_looks_59 : decode cX6_looks 59 = .ok (.aload_n 0, 1) := by decide +kernel
theorem dX6_looks_60 : decode cX6_looks 60 = .ok (.iload_n 3, 1) := by decide +kernel
theorem dX6_looks_61 : decode cX6_looks 61 = .ok (.iconst 4, 1) := by decide +kernel
theorem dX6_looks_62 : decode cX6_looks 62 = .ok (.iload 4, 2) := by decide +kernel
theorem dX6_looks_64 : decode cX6_looks 64 = .ok (.invokevirtual 49, 3) := by decide +kernel
theorem dX6_looks_67 : decode cX6_looks 67 = .ok (.aload_n 0, 1) := by decide +kernel
theorem dX6_looks_68 : decode cX6_looks 68 = .ok (.iload_n 3, 1) := by decide +kernel
theorem dX6_looks_69 : decode cX6_looks 69 = .ok (.iconst 3, 1) := by decide +kernel
theorem dX6_looks_70 : decode cX6_looks 70 = .ok (.invokevirtual 37, 3) := by decide +kernel
theorem dX6_looks_73 : decode cX6_looks 73 = .ok (.iload 4, 2) := by decide +kernel
theorem dX6_looks_75 : decode cX6_looks 75 = .ok (.if_icmp .eq 7, 3) := by decide +kernel
theorem dX6_looks_78 : decode cX6_looks 78 = .ok (.iconst 1, 1) := by decide +kernel
theorem dX6_looks_79 : decode cX6_looks 79 = .ok (.goto 4, 3) := by decide +kernel
theorem dX6_looks_82 : decode cX6_looks 82 = .ok (.iconst 0, 1) := by decide +kernel
theorem dX6_looks_83 : decode cX6_looks 83 = .ok (.istore 5, 2) := by decide +kernel
theorem dX6_looks_85 : decode cX6_looks 85 = .ok (.aload_n 0, 1) := by decide +kernel
theorem dX6_looks_86 : decode cX6_looks 86 = .ok (.iload_n 3, 1) := by decide +kernel
theorem dX6_looks_87 : decode cX6_looks 87 = .ok (.bipush 8, 2) := by decide +kernel
theorem dX6_looks_89 : decode cX6_looks 89 = .ok (.iload 5, 2) := by decide +kernel
theorem dX6_looks_91 : decode cX6_looks 91 = .ok (.ifCond .eq 10, 3) := by decide +kernel
theorem dX6_looks_94 : decode cX6_looks 94 = .ok (.iconst 2, 1) := by decide +kernel
theorem dX6_looks_95 : decode cX6_looks 95 = .ok (.iload 4, 2) := by decide +kernel
theorem dX6_looks_97 : decode cX6_looks 97 = .ok (.isub, 1) := by decide +kernel
theorem dX6_looks_98 : decode cX6_looks 98 = .ok (.goto 28, 3) := by decide +kernel
theorem dX6_looks_101 : decode cX6_looks 101 = .ok (.aload_n 0, 1) := by decide +kernel
theorem dX6_looks_102 : decode cX6_looks 102 = .ok (.iload_n 3, 1) := by decide +kernel
theorem dX6_looks_103 : decode cX6_looks 103 = .ok (.bipush 8, 2) := by decide +kernel
theorem dX6_looks_105 : decode cX6_looks 105 = .ok (.invokevirtual 37, 3) := by decide +kernel
theorem dX6_looks_108 : decode cX6_looks 108 = .ok (.iconst 1, 1) := by decide +kernel
theorem dX6_looks_109 : decode cX6_looks 109 = .ok (.iload 4, 2) := by decide +kernel
theorem dX6_looks_111 : decode cX6_looks 111 = .ok (.iadd, 1) := by decide +kernel
theorem dX6_looks_112 : decode cX6_looks 112 = .ok (.if_icmp .ne 7, 3) := by decide +kernel
theorem dX6_looks_115 : decode cX6_looks 115 = .ok (.iconst 0, 1) := by decide +kernel
theorem dX6_looks_116 : decode cX6_looks 116 = .ok (.goto 10, 3) := by decide +kernel
theorem dX6_looks_119 : decode cX6_looks 119 = .ok (.aload_n 0, 1) := by decide +kernel
theorem dX6_looks_120 : decode cX6_looks 120 = .ok (.iload_n 3, 1) := by decide +kernel
theorem dX6_looks_121 : decode cX6_looks 121 = .ok (.bipush 8, 2) := by decide +kernel
theorem dX6_looks_123 : decode cX6_looks 123 = .ok (.invokevirtual 37, 3) := by decide +kernel
theorem dX6_looks_126 : decode cX6_looks 126 = .ok (.invokevirtual 49, 3) := by decide +kernel
theorem dX6_looks_129 : decode cX6_looks 129 = .ok (.aload_n 0, 1) := by decide +kernel
theorem dX6_looks_130 : decode cX6_looks 130 = .ok (.iload_n 3, 1) := by decide +kernel
theorem dX6_looks_131 : decode cX6_looks 131 = .ok (.bipush 9, 2) := by decide +kernel
theorem dX6_looks_133 : decode cX6_looks 133 = .ok (.iload 5, 2) := by decide +kernel
theorem dX6_looks_135 : decode cX6_looks 135 = .ok (.ifCond .eq 29, 3) := by decide +kernel
theorem dX6_looks_138 : decode cX6_looks 138 = .ok (.aload_n 0, 1) := by decide +kernel
theorem dX6_looks_139 : decode cX6_looks 139 = .ok (.getfield 7, 3) := by decide +kernel
theorem dX6_looks_142 : decode cX6_looks 142 = .ok (.iconst 2, 1) := by decide +kernel
theorem dX6_looks_143 : decode cX6_looks 143 = .ok (.iaload, 1) := by decide +kernel
theorem dX6_looks_144 : decode cX6_looks 144 = .ok (.aload_n 0, 1) := by decide +kernel
theorem dX6_looks_145 : decode cX6_looks 145 = .ok (.iload_n 3, 1) := by decide +kernel
theorem dX6_looks_146 : decode cX6_looks 146 = .ok (.iload 4, 2) := by decide +kernel
theorem dX6_looks_148 : decode cX6_looks 148 = .ok (.iconst 1, 1) := by decide +kernel
theorem dX6_looks_149 : decode cX6_looks 149 = .ok (.if_icmp .ne 7, 3) := by decide +kernel
theorem dX6_looks_152 : decode cX6_looks 152 = .ok (.iconst 0, 1) := by decide +kernel
theorem dX6_looks_153 : decode cX6_looks 153 = .ok (.goto 4, 3) := by decide +kernel
theorem dX6_looks_156 : decode cX6_looks 156 = .ok (.iconst 1, 1) := by decide +kernel
theorem dX6_looks_157 : decode cX6_looks 157 = .ok (.invokevirtual 37, 3) := by decide +kernel
theorem dX6_looks_160 : decode cX6_looks 160 = .ok (.iadd, 1) := by decide +kernel
theorem dX6_looks_161 : decode cX6_looks 161 = .ok (.goto 10, 3) := by decide +kernel
theorem dX6_looks_164 : decode cX6_looks 164 = .ok (.aload_n 0, 1) := by decide +kernel
theorem dX6_looks_165 : decode cX6_looks 165 = .ok (.iload_n 3, 1) := by decide +kernel
theorem dX6_looks_166 : decode cX6_looks 166 = .ok (.bipush 9, 2) := by decide +kernel
theorem dX6_looks_168 : decode cX6_looks 168 = .ok (.invokevirtual 37, 3) := by decide +kernel
theorem dX6_looks_171 : decode cX6_looks 171 = .ok (.invokevirtual 49, 3) := by decide +kernel
theorem dX6_looks_174 : decode cX6_looks 174 = .ok (.iinc 3 1, 3) := by decide +kernel
theorem dX6_looks_177 : decode cX6_looks 177 = .ok (.goto (-158), 3) := by decide +kernel
theorem dX6_looks_180 : decode cX6_looks 180 = .ok (.iload_n 2, 1) := by decide +kernel
theorem dX6_looks_181 : decode cX6_looks 181 = .ok (.ireturn, 1) := by decide +kernel
theorem dX6_timeOf_0 : decode cX6_timeOf 0 = .ok (.iload_n 1, 1) := by decide +kernel
theorem dX6_timeOf_1 : decode cX6_timeOf 1 = .ok (.iconst 4, 1) := by decide +kernel
theorem dX6_timeOf_2 : decode cX6_timeOf 2 = .ok (.irem, 1) := by decide +kernel
theorem dX6_timeOf_3 : decode cX6_timeOf 3 = .ok (.iconst 2, 1) := by decide +kernel
theorem dX6_timeOf_4 : decode cX6_timeOf 4 = .ok (.if_icmp .ne 15, 3) := by decide +kernel
theorem dX6_timeOf_7 : decode cX6_timeOf 7 = .ok (.aload_n 0, 1) := by decide +kernel
theorem dX6_timeOf_8 : decode cX6_timeOf 8 = .ok (.iload_n 1, 1) := by decide +kernel
theorem dX6_timeOf_9 : decode cX6_timeOf 9 = .ok (.iconst 4, 1) := by decide +kernel
theorem dX6_timeOf_10 : decode cX6_timeOf 10 = .ok (.idiv, 1) := by decide +kernel
theorem dX6_timeOf_11 : decode cX6_timeOf 11 = .ok (.bipush 11, 2) := by decide +kernel
theorem dX6_timeOf_13 : decode cX6_timeOf 13 = .ok (.invokevirtual 37, 3) := by decide +kernel
theorem dX6_timeOf_16 : decode cX6_timeOf 16 = .ok (.goto 12, 3) := by decide +kernel
theorem dX6_timeOf_19 : decode cX6_timeOf 19 = .ok (.aload_n 0, 1) := by decide +kernel
theorem dX6_timeOf_20 : decode cX6_timeOf 20 = .ok (.iload_n 1, 1) := by decide +kernel
theorem dX6_timeOf_21 : decode cX6_timeOf 21 = .ok (.iconst 4, 1) := by decide +kernel
theorem dX6_timeOf_22 : decode cX6_timeOf 22 = .ok (.idiv, 1) := by decide +kernel
theorem dX6_timeOf_23 : decode cX6_timeOf 23 = .ok (.bipush 9, 2) := by decide +kernel
theorem dX6_timeOf_25 : decode cX6_timeOf 25 = .ok (.invokevirtual 37, 3) := by decide +kernel
theorem dX6_timeOf_28 : decode cX6_timeOf 28 = .ok (.ireturn, 1) := by decide +kernel
theorem dX6_waits_0 : decode cX6_waits 0 = .ok (.iload_n 1, 1) := by decide +kernel
theorem dX6_waits_1 : decode cX6_waits 1 = .ok (.iconst 4, 1) := by decide +kernel
theorem dX6_waits_2 : decode cX6_waits 2 = .ok (.irem, 1) := by decide +kernel
theorem dX6_waits_3 : decode cX6_waits 3 = .ok (.istore_n 2, 1) := by decide +kernel
theorem dX6_waits_4 : decode cX6_waits 4 = .ok (.iload_n 2, 1) := by decide +kernel
theorem dX6_waits_5 : decode cX6_waits 5 = .ok (.iconst 2, 1) := by decide +kernel
theorem dX6_waits_6 : decode cX6_waits 6 = .ok (.if_icmp .ne 24, 3) := by decide +kernel
theorem dX6_waits_9 : decode cX6_waits 9 = .ok (.aload_n 0, 1) := by decide +kernel
theorem dX6_waits_10 : decode cX6_waits 10 = .ok (.iload_n 1, 1) := by decide +kernel
theorem dX6_waits_11 : decode cX6_waits 11 = .ok (.iconst 4, 1) := by decide +kernel
theorem dX6_waits_12 : decode cX6_waits 12 = .ok (.idiv, 1) := by decide +kernel
theorem dX6_waits_13 : decode cX6_waits 13 = .ok (.bipush 10, 2) := by decide +kernel
theorem dX6_waits_15 : decode cX6_waits 15 = .ok (.invokevirtual 37, 3) := by decide +kernel
theorem dX6_waits_18 : decode cX6_waits 18 = .ok (.iconst 1, 1) := by decide +kernel
theorem dX6_waits_19 : decode cX6_waits 19 = .ok (.if_icmp .ne 7, 3) := by decide +kernel
theorem dX6_waits_22 : decode cX6_waits 22 = .ok (.iconst 1, 1) := by decide +kernel
theorem dX6_waits_23 : decode cX6_waits 23 = .ok (.goto 32, 3) := by decide +kernel
theorem dX6_waits_26 : decode cX6_waits 26 = .ok (.iconst 0, 1) := by decide +kernel
theorem dX6_waits_27 : decode cX6_waits 27 = .ok (.goto 28, 3) := by decide +kernel
theorem dX6_waits_30 : decode cX6_waits 30 = .ok (.iload_n 2, 1) := by decide +kernel
theorem dX6_waits_31 : decode cX6_waits 31 = .ok (.iconst 2, 1) := by decide +kernel
theorem dX6_waits_32 : decode cX6_waits 32 = .ok (.if_icmp .ge 22, 3) := by decide +kernel
theorem dX6_waits_35 : decode cX6_waits 35 = .ok (.aload_n 0, 1) := by decide +kernel
theorem dX6_waits_36 : decode cX6_waits 36 = .ok (.iload_n 1, 1) := by decide +kernel
theorem dX6_waits_37 : decode cX6_waits 37 = .ok (.iconst 4, 1) := by decide +kernel
theorem dX6_waits_38 : decode cX6_waits 38 = .ok (.idiv, 1) := by decide +kernel
theorem dX6_waits_39 : decode cX6_waits 39 = .ok (.bipush 8, 2) := by decide +kernel
theorem dX6_waits_41 : decode cX6_waits 41 = .ok (.invokevirtual 37, 3) := by decide +kernel
theorem dX6_waits_44 : decode cX6_waits 44 = .ok (.iload_n 2, 1) := by decide +kernel
theorem dX6_waits_45 : decode cX6_waits 45 = .ok (.iconst 1, 1) := by decide +kernel
theorem dX6_waits_46 : decode cX6_waits 46 = .ok (.iadd, 1) := by decide +kernel
theorem dX6_waits_47 : decode cX6_waits 47 = .ok (.if_icmp .ne 7, 3) := by decide +kernel
theorem dX6_waits_50 : decode cX6_waits 50 = .ok (.iconst 1, 1) := by decide +kernel
theorem dX6_waits_51 : decode cX6_waits 51 = .ok (.goto 4, 3) := by decide +kernel
theorem dX6_waits_54 : decode cX6_waits 54 = .ok (.iconst 0, 1) := by decide +kernel
theorem dX6_waits_55 : decode cX6_waits 55 = .ok (.ireturn, 1) := by decide +kernel
theorem dX6_isAhead_0 : decode cX6_isAhead 0 = .ok (.aload_n 0, 1) := by decide +kernel
theorem dX6_isAhead_1 : decode cX6_isAhead 1 = .ok (.iload_n 1, 1) := by decide +kernel
theorem dX6_isAhead_2 : decode cX6_isAhead 2 = .ok (.invokevirtual 53, 3) := by decide +kernel
theorem dX6_isAhead_5 : decode cX6_isAhead 5 = .ok (.aload_n 0, 1) := by decide +kernel
theorem dX6_isAhead_6 : decode cX6_isAhead 6 = .ok (.iload_n 2, 1) := by decide +kernel
theorem dX6_isAhead_7 : decode cX6_isAhead 7 = .ok (.invokevirtual 53, 3) := by decide +kernel
theorem dX6_isAhead_10 : decode cX6_isAhead 10 = .ok (.if_icmp .eq 22, 3) := by decide +kernel
theorem dX6_isAhead_13 : decode cX6_isAhead 13 = .ok (.aload_n 0, 1) := by decide +kernel
theorem dX6_isAhead_14 : decode cX6_isAhead 14 = .ok (.iload_n 1, 1) := by decide +kernel
theorem dX6_isAhead_15 : decode cX6_isAhead 15 = .ok (.invokevirtual 53, 3) := by decide +kernel
theorem dX6_isAhead_18 : decode cX6_isAhead 18 = .ok (.aload_n 0, 1) := by decide +kernel
theorem dX6_isAhead_19 : decode cX6_isAhead 19 = .ok (.iload_n 2, 1) := by decide +kernel
theorem dX6_isAhead_20 : decode cX6_isAhead 20 = .ok (.invokevirtual 53, 3) := by decide +kernel
theorem dX6_isAhead_23 : decode cX6_isAhead 23 = .ok (.if_icmp .ge 7, 3) := by decide +kernel
theorem dX6_isAhead_26 : decode cX6_isAhead 26 = .ok (.iconst 1, 1) := by decide +kernel
theorem dX6_isAhead_27 : decode cX6_isAhead 27 = .ok (.goto 4, 3) := by decide +kernel
theorem dX6_isAhead_30 : decode cX6_isAhead 30 = .ok (.iconst 0, 1) := by decide +kernel
theorem dX6_isAhead_31 : decode cX6_isAhead 31 = .ok (.ireturn, 1) := by decide +kernel
theorem dX6_isAhead_32 : decode cX6_isAhead 32 = .ok (.iload_n 1, 1) := by decide +kernel
theorem dX6_isAhead_33 : decode cX6_isAhead 33 = .ok (.iconst 4, 1) := by decide +kernel
theorem dX6_isAhead_34 : decode cX6_isAhead 34 = .ok (.idiv, 1) := by decide +kernel
theorem dX6_isAhead_35 : decode cX6_isAhead 35 = .ok (.iload_n 2, 1) := by decide +kernel
theorem dX6_isAhead_36 : decode cX6_isAhead 36 = .ok (.iconst 4, 1) := by decide +kernel
theorem dX6_isAhead_37 : decode cX6_isAhead 37 = .ok (.idiv, 1) := by decide +kernel
theorem dX6_isAhead_38 : decode cX6_isAhead 38 = .ok (.if_icmp .ne 16, 3) := by decide +kernel
theorem dX6_isAhead_41 : decode cX6_isAhead 41 = .ok (.iload_n 1, 1) := by decide +kernel
theorem dX6_isAhead_42 : decode cX6_isAhead 42 = .ok (.iload_n 2, 1) := by decide +kernel
theorem dX6_isAhead_43 : decode cX6_isAhead 43 = .ok (.if_icmp .ge 7, 3) := by decide +kernel
theorem dX6_isAhead_46 : decode cX6_isAhead 46 = .ok (.iconst 1, 1) := by decide +kernel
theorem dX6_isAhead_47 : decode cX6_isAhead 47 = .ok (.goto 34, 3) := by decide +kernel
theorem dX6_isAhead_50 : decode cX6_isAhead 50 = .ok (.iconst 0, 1) := by decide +kernel
theorem dX6_isAhead_51 : decode cX6_isAhead 51 = .ok (.goto 30, 3) := by decide +kernel
theorem dX6_isAhead_54 : decode cX6_isAhead 54 = .ok (.iload_n 3, 1) := by decide +kernel
theorem dX6_isAhead_55 : decode cX6_isAhead 55 = .ok (.ifCond .eq 16, 3) := by decide +kernel
theorem dX6_isAhead_58 : decode cX6_isAhead 58 = .ok (.iload_n 1, 1) := by decide +kernel
theorem dX6_isAhead_59 : decode cX6_isAhead 59 = .ok (.iload_n 2, 1) := by decide +kernel
theorem dX6_isAhead_60 : decode cX6_isAhead 60 = .ok (.if_icmp .le 7, 3) := by decide +kernel
theorem dX6_isAhead_63 : decode cX6_isAhead 63 = .ok (.iconst 1, 1) := by decide +kernel
theorem dX6_isAhead_64 : decode cX6_isAhead 64 = .ok (.goto 17, 3) := by decide +kernel
theorem dX6_isAhead_67 : decode cX6_isAhead 67 = .ok (.iconst 0, 1) := by decide +kernel
theorem dX6_isAhead_68 : decode cX6_isAhead 68 = .ok (.goto 13, 3) := by decide +kernel
theorem dX6_isAhead_71 : decode cX6_isAhead 71 = .ok (.iload_n 1, 1) := by decide +kernel
theorem dX6_isAhead_72 : decode cX6_isAhead 72 = .ok (.iload_n 2, 1) := by decide +kernel
theorem dX6_isAhead_73 : decode cX6_isAhead 73 = .ok (.if_icmp .ge 7, 3) := by decide +kernel
theorem dX6_isAhead_76 : decode cX6_isAhead 76 = .ok (.iconst 1, 1) := by decide +kernel
theorem dX6_isAhead_77 : decode cX6_isAhead 77 = .ok (.goto 4, 3) := by decide +kernel
theorem dX6_isAhead_80 : decode cX6_isAhead 80 = .ok (.iconst 0, 1) := by decide +kernel
theorem dX6_isAhead_81 : decode cX6_isAhead 81 = .ok (.ireturn, 1) := by decide +kernel
theorem dX6_next_0 : decode cX6_next 0 = .ok (.bipush (-9), 2) := by decide +kernel
theorem dX6_next_2 : decode cX6_next 2 = .ok (.istore_n 2, 1) := by decide +kernel
theorem dX6_next_3 : decode cX6_next 3 = .ok (.iconst 0, 1) := by decide +kernel
theorem dX6_next_4 : decode cX6_next 4 = .ok (.istore_n 3, 1) := by decide +kernel
theorem dX6_next_5 : decode cX6_next 5 = .ok (.iload_n 3, 1) := by decide +kernel
theorem dX6_next_6 : decode cX6_next 6 = .ok (.iconst 4, 1) := by decide +kernel
theorem dX6_next_7 : decode cX6_next 7 = .ok (.aload_n 0, 1) := by decide +kernel
theorem dX6_next_8 : decode cX6_next 8 = .ok (.getfield 7, 3) := by decide +kernel
theorem dX6_next_11 : decode cX6_next 11 = .ok (.iconst 1, 1) := by decide +kernel
theorem dX6_next_12 : decode cX6_next 12 = .ok (.iaload, 1) := by decide +kernel
theorem dX6_next_13 : decode cX6_next 13 = .ok (.imul, 1) := by decide +kernel
theorem dX6_next_14 : decode cX6_next 14 = .ok (.if_icmp .ge 39, 3) := by decide +kernel
theorem dX6_next_17 : decode cX6_next 17 = .ok (.aload_n 0, 1) := by decide +kernel
theorem dX6_next_18 : decode cX6_next 18 = .ok (.iload_n 3, 1) := by decide +kernel
theorem dX6_next_19 : decode cX6_next 19 = .ok (.invokevirtual 57, 3) := by decide +kernel
theorem dX6_next_22 : decode cX6_next 22 = .ok (.ifCond .eq 23, 3) := by decide +kernel
theorem dX6_next_25 : decode cX6_next 25 = .ok (.iload_n 2, 1) := by decide +kernel
theorem dX6_next_26 : decode cX6_next 26 = .ok (.bipush (-9), 2) := by decide +kernel
theorem dX6_next_28 : decode cX6_next 28 = .ok (.if_icmp .eq 13, 3) := by decide +kernel
theorem dX6_next_31 : decode cX6_next 31 = .ok (.aload_n 0, 1) := by decide +kernel
theorem dX6_next_32 : decode cX6_next 32 = .ok (.iload_n 3, 1) := by decide +kernel
theorem dX6_next_33 : decode cX6_next 33 = .ok (.iload_n 2, 1) := by decide +kernel
theorem dX6_next_34 : decode cX6_next 34 = .ok (.iload_n 1, 1) := by decide +kernel
theorem dX6_next_35 : decode cX6_next 35 = .ok (.invokevirtual 61, 3) := by decide +kernel
theorem dX6_next_38 : decode cX6_next 38 = .ok (.ifCond .eq 7, 3) := by decide +kernel
theorem dX6_next_41 : decode cX6_next 41 = .ok (.iload_n 3, 1) := by decide +kernel
theorem dX6_next_42 : decode cX6_next 42 = .ok (.goto 4, 3) := by decide +kernel
theorem dX6_next_45 : decode cX6_next 45 = .ok (.iload_n 2, 1) := by decide +kernel
theorem dX6_next_46 : decode cX6_next 46 = .ok (.istore_n 2, 1) := by decide +kernel
theorem dX6_next_47 : decode cX6_next 47 = .ok (.iinc 3 1, 3) := by decide +kernel
theorem dX6_next_50 : decode cX6_next 50 = .ok (.goto (-45), 3) := by decide +kernel
theorem dX6_next_53 : decode cX6_next 53 = .ok (.iload_n 2, 1) := by decide +kernel
theorem dX6_next_54 : decode cX6_next 54 = .ok (.ireturn, 1) := by decide +kernel
theorem dX6_happens_0 : decode cX6_happens 0 = .ok (.iload_n 1, 1) := by decide +kernel
theorem dX6_happens_1 : decode cX6_happens 1 = .ok (.iconst 4, 1) := by decide +kernel
theorem dX6_happens_2 : decode cX6_happens 2 = .ok (.idiv, 1) := by decide +kernel
theorem dX6_happens_3 : decode cX6_happens 3 = .ok (.istore_n 2, 1) := by decide +kernel
theorem dX6_happens_4 : decode cX6_happens 4 = .ok (.iload_n 1, 1) := by decide +kernel
theorem dX6_happens_5 : decode cX6_happens 5 = .ok (.iconst 4, 1) := by decide +kernel
theorem dX6_happens_6 : decode cX6_happens 6 = .ok (.irem, 1) := by decide +kernel
theorem dX6_happens_7 : decode cX6_happens 7 = .ok (.istore_n 3, 1) := by decide +kernel
theorem dX6_happens_8 : decode cX6_happens 8 = .ok (.aload_n 0, 1) := by decide +kernel
theorem dX6_happens_9 : decode cX6_happens 9 = .ok (.getfield 7, 3) := by decide +kernel
theorem dX6_happens_12 : decode cX6_happens 12 = .ok (.iconst 2, 1) := by decide +kernel
theorem dX6_happens_13 : decode cX6_happens 13 = .ok (.aload_n 0, 1) := by decide +kernel
theorem dX6_happens_14 : decode cX6_happens 14 = .ok (.iload_n 1, 1) := by decide +kernel
theorem dX6_happens_15 : decode cX6_happens 15 = .ok (.invokevirtual 53, 3) := by decide +kernel
theorem dX6_happens_18 : decode cX6_happens 18 = .ok (.iastore, 1) := by decide +kernel
theorem dX6_happens_19 : decode cX6_happens 19 = .ok (.iload_n 3, 1) := by decide +kernel
theorem dX6_happens_20 : decode cX6_happens 20 = .ok (.iconst 2, 1) := by decide +kernel
theorem dX6_happens_21 : decode cX6_happens 21 = .ok (.if_icmp .ne 21, 3) := by decide +kernel
theorem dX6_happens_24 : decode cX6_happens 24 = .ok (.aload_n 0, 1) := by decide +kernel
theorem dX6_happens_25 : decode cX6_happens 25 = .ok (.iload_n 2, 1) := by decide +kernel
theorem dX6_happens_26 : decode cX6_happens 26 = .ok (.bipush 10, 2) := by decide +kernel
theorem dX6_happens_28 : decode cX6_happens 28 = .ok (.iconst 0, 1) := by decide +kernel
theorem dX6_happens_29 : decode cX6_happens 29 = .ok (.invokevirtual 49, 3) := by decide +kernel
theorem dX6_happens_32 : decode cX6_happens 32 = .ok (.aload_n 0, 1) := by decide +kernel
theorem dX6_happens_33 : decode cX6_happens 33 = .ok (.iload_n 2, 1) := by decide +kernel
theorem dX6_happens_34 : decode cX6_happens 34 = .ok (.iconst 5, 1) := by decide +kernel
theorem dX6_happens_35 : decode cX6_happens 35 = .ok (.iconst 0, 1) := by decide +kernel
theorem dX6_happens_36 : decode cX6_happens 36 = .ok (.invokevirtual 49, 3) := by decide +kernel
theorem dX6_happens_39 : decode cX6_happens 39 = .ok (.goto 74, 3) := by decide +kernel
theorem dX6_happens_42 : decode cX6_happens 42 = .ok (.aload_n 0, 1) := by decide +kernel
theorem dX6_happens_43 : decode cX6_happens 43 = .ok (.iload_n 2, 1) := by decide +kernel
theorem dX6_happens_44 : decode cX6_happens 44 = .ok (.bipush 8, 2) := by decide +kernel
theorem dX6_happens_46 : decode cX6_happens 46 = .ok (.iconst 0, 1) := by decide +kernel
theorem dX6_happens_47 : decode cX6_happens 47 = .ok (.invokevirtual 49, 3) := by decide +kernel
theorem dX6_happens_50 : decode cX6_happens 50 = .ok (.aload_n 0, 1) := by decide +kernel
theorem dX6_happens_51 : decode cX6_happens 51 = .ok (.iload_n 2, 1) := by decide +kernel
theorem dX6_happens_52 : decode cX6_happens 52 = .ok (.bipush 7, 2) := by decide +kernel
theorem dX6_happens_54 : decode cX6_happens 54 = .ok (.invokevirtual 37, 3) := by decide +kernel
theorem dX6_happens_57 : decode cX6_happens 57 = .ok (.ifCond .ne 56, 3) := by decide +kernel
theorem dX6_happens_60 : decode cX6_happens 60 = .ok (.aload_n 0, 1) := by decide +kernel
theorem dX6_happens_61 : decode cX6_happens 61 = .ok (.iload_n 2, 1) := by decide +kernel
theorem dX6_happens_62 : decode cX6_happens 62 = .ok (.iconst 3, 1) := by decide +kernel
theorem dX6_happens_63 : decode cX6_happens 63 = .ok (.iconst 1, 1) := by decide +kernel
theorem dX6_happens_64 : decode cX6_happens 64 = .ok (.iload_n 3, 1) := by decide +kernel
theorem dX6_happens_65 : decode cX6_happens 65 = .ok (.isub, 1) := by decide +kernel
theorem dX6_happens_66 : decode cX6_happens 66 = .ok (.invokevirtual 49, 3) := by decide +kernel
theorem dX6_happens_69 : decode cX6_happens 69 = .ok (.aload_n 0, 1) := by decide +kernel
theorem dX6_happens_70 : decode cX6_happens 70 = .ok (.iload_n 2, 1) := by decide +kernel
theorem dX6_happens_71 : decode cX6_happens 71 = .ok (.iconst 2, 1) := by decide +kernel
theorem dX6_happens_72 : decode cX6_happens 72 = .ok (.invokevirtual 37, 3) := by decide +kernel
theorem dX6_happens_75 : decode cX6_happens 75 = .ok (.ifCond .le 38, 3) := by decide +kernel
theorem dX6_happens_78 : decode cX6_happens 78 = .ok (.aload_n 0, 1) := by decide +kernel
theorem dX6_happens_79 : decode cX6_happens 79 = .ok (.iload_n 2, 1) := by decide +kernel
theorem dX6_happens_80 : decode cX6_happens 80 = .ok (.iconst 5, 1) := by decide +kernel
theorem dX6_happens_81 : decode cX6_happens 81 = .ok (.iconst 1, 1) := by decide +kernel
theorem dX6_happens_82 : decode cX6_happens 82 = .ok (.invokevirtual 49, 3) := by decide +kernel
theorem dX6_happens_85 : decode cX6_happens 85 = .ok (.aload_n 0, 1) := by decide +kernel
theorem dX6_happens_86 : decode cX6_happens 86 = .ok (.iload_n 2, 1) := by decide +kernel
theorem dX6_happens_87 : decode cX6_happens 87 = .ok (.bipush 10, 2) := by decide +kernel
theorem dX6_happens_89 : decode cX6_happens 89 = .ok (.iconst 1, 1) := by decide +kernel
theorem dX6_happens_90 : decode cX6_happens 90 = .ok (.invokevirtual 49, 3) := by decide +kernel
theorem dX6_happens_93 : decode cX6_happens 93 = .ok (.aload_n 0, 1) := by decide +kernel
theorem dX6_happens_94 : decode cX6_happens 94 = .ok (.iload_n 2, 1) := by decide +kernel
theorem dX6_happens_95 : decode cX6_happens 95 = .ok (.bipush 11, 2) := by decide +kernel
theorem dX6_happens_97 : decode cX6_happens 97 = .ok (.aload_n 0, 1) := by decide +kernel
theorem dX6_happens_98 : decode cX6_happens 98 = .ok (.getfield 7, 3) := by decide +kernel
theorem dX6_happens_101 : decode cX6_happens 101 = .ok (.iconst 2, 1) := by decide +kernel
theorem dX6_happens_102 : decode cX6_happens 102 = .ok (.iaload, 1) := by decide +kernel
theorem dX6_happens_103 : decode cX6_happens 103 = .ok (.aload_n 0, 1) := by decide +kernel
theorem dX6_happens_104 : decode cX6_happens 104 = .ok (.iload_n 2, 1) := by decide +kernel
theorem dX6_happens_105 : decode cX6_happens 105 = .ok (.iconst 2, 1) := by decide +kernel
theorem dX6_happens_106 : decode cX6_happens 106 = .ok (.invokevirtual 37, 3) := by decide +kernel
theorem dX6_happens_109 : decode cX6_happens 109 = .ok (.iadd, 1) := by decide +kernel
theorem dX6_happens_110 : decode cX6_happens 110 = .ok (.invokevirtual 49, 3) := by decide +kernel
theorem dX6_happens_113 : decode cX6_happens 113 = .ok (.aload_n 0, 1) := by decide +kernel
theorem dX6_happens_114 : decode cX6_happens 114 = .ok (.dup, 1) := by decide +kernel
theorem dX6_happens_115 : decode cX6_happens 115 = .ok (.getfield 65, 3) := by decide +kernel
theorem dX6_happens_118 : decode cX6_happens 118 = .ok (.aload_n 0, 1) := by decide +kernel
theorem dX6_happens_119 : decode cX6_happens 119 = .ok (.invokevirtual 68, 3) := by decide +kernel
theorem dX6_happens_122 : decode cX6_happens 122 = .ok (.iadd, 1) := by decide +kernel
theorem dX6_happens_123 : decode cX6_happens 123 = .ok (.putfield 65, 3) := by decide +kernel
theorem dX6_happens_126 : decode cX6_happens 126 = .ok (.return_, 1) := by decide +kernel
theorem dX6_settles_0 : decode cX6_settles 0 = .ok (.iconst 0, 1) := by decide +kernel
theorem dX6_settles_1 : decode cX6_settles 1 = .ok (.istore_n 3, 1) := by decide +kernel
theorem dX6_settles_2 : decode cX6_settles 2 = .ok (.aload_n 0, 1) := by decide +kernel
theorem dX6_settles_3 : decode cX6_settles 3 = .ok (.iload_n 1, 1) := by decide +kernel
theorem dX6_settles_4 : decode cX6_settles 4 = .ok (.invokevirtual 71, 3) := by decide +kernel
theorem dX6_settles_7 : decode cX6_settles 7 = .ok (.istore 4, 2) := by decide +kernel
theorem dX6_settles_9 : decode cX6_settles 9 = .ok (.iload_n 3, 1) := by decide +kernel
theorem dX6_settles_10 : decode cX6_settles 10 = .ok (.iload_n 2, 1) := by decide +kernel
theorem dX6_settles_11 : decode cX6_settles 11 = .ok (.if_icmp .ge 29, 3) := by decide +kernel
theorem dX6_settles_14 : decode cX6_settles 14 = .ok (.iload 4, 2) := by decide +kernel
theorem dX6_settles_16 : decode cX6_settles 16 = .ok (.bipush (-9), 2) := by decide +kernel
theorem dX6_settles_18 : decode cX6_settles 18 = .ok (.if_icmp .eq 22, 3) := by decide +kernel
theorem dX6_settles_21 : decode cX6_settles 21 = .ok (.aload_n 0, 1) := by decide +kernel
theorem dX6_settles_22 : decode cX6_settles 22 = .ok (.iload 4, 2) := by decide +kernel
theorem dX6_settles_24 : decode cX6_settles 24 = .ok (.invokevirtual 75, 3) := by decide +kernel
theorem dX6_settles_27 : decode cX6_settles 27 = .ok (.iinc 3 1, 3) := by decide +kernel
theorem dX6_settles_30 : decode cX6_settles 30 = .ok (.aload_n 0, 1) := by decide +kernel
theorem dX6_settles_31 : decode cX6_settles 31 = .ok (.iload_n 1, 1) := by decide +kernel
theorem dX6_settles_32 : decode cX6_settles 32 = .ok (.invokevirtual 71, 3) := by decide +kernel
theorem dX6_settles_35 : decode cX6_settles 35 = .ok (.istore 4, 2) := by decide +kernel
theorem dX6_settles_37 : decode cX6_settles 37 = .ok (.goto (-28), 3) := by decide +kernel
theorem dX6_settles_40 : decode cX6_settles 40 = .ok (.iload_n 3, 1) := by decide +kernel
theorem dX6_settles_41 : decode cX6_settles 41 = .ok (.ireturn, 1) := by decide +kernel
theorem dX6_addRelay_0 : decode cX6_addRelay 0 = .ok (.iload_n 1, 1) := by decide +kernel
theorem dX6_addRelay_1 : decode cX6_addRelay 1 = .ok (.iconst 1, 1) := by decide +kernel
theorem dX6_addRelay_2 : decode cX6_addRelay 2 = .ok (.bipush 20, 2) := by decide +kernel
theorem dX6_addRelay_4 : decode cX6_addRelay 4 = .ok (.invokestatic 33, 3) := by decide +kernel
theorem dX6_addRelay_7 : decode cX6_addRelay 7 = .ok (.ifCond .eq 22, 3) := by decide +kernel
theorem dX6_addRelay_10 : decode cX6_addRelay 10 = .ok (.iload_n 2, 1) := by decide +kernel
theorem dX6_addRelay_11 : decode cX6_addRelay 11 = .ok (.iconst 1, 1) := by decide +kernel
theorem dX6_addRelay_12 : decode cX6_addRelay 12 = .ok (.bipush 20, 2) := by decide +kernel
theorem dX6_addRelay_14 : decode cX6_addRelay 14 = .ok (.invokestatic 33, 3) := by decide +kernel
theorem dX6_addRelay_17 : decode cX6_addRelay 17 = .ok (.ifCond .eq 12, 3) := by decide +kernel
theorem dX6_addRelay_20 : decode cX6_addRelay 20 = .ok (.iload_n 3, 1) := by decide +kernel
theorem dX6_addRelay_21 : decode cX6_addRelay 21 = .ok (.iconst 0, 1) := by decide +kernel
theorem dX6_addRelay_22 : decode cX6_addRelay 22 = .ok (.iconst 5, 1) := by decide +kernel
theorem dX6_addRelay_23 : decode cX6_addRelay 23 = .ok (.invokestatic 33, 3) := by decide +kernel
theorem dX6_addRelay_26 : decode cX6_addRelay 26 = .ok (.ifCond .ne 5, 3) := by decide +kernel
theorem dX6_addRelay_29 : decode cX6_addRelay 29 = .ok (.iconst (-1), 1) := by decide +kernel
theorem dX6_addRelay_30 : decode cX6_addRelay 30 = .ok (.ireturn, 1) := by decide +kernel
theorem dX6_addRelay_31 : decode cX6_addRelay 31 = .ok (.aload_n 0, 1) := by decide +kernel
theorem dX6_addRelay_32 : decode cX6_addRelay 32 = .ok (.getfield 7, 3) := by decide +kernel
theorem dX6_addRelay_35 : decode cX6_addRelay 35 = .ok (.iconst 1, 1) := by decide +kernel
theorem dX6_addRelay_36 : decode cX6_addRelay 36 = .ok (.iaload, 1) := by decide +kernel
theorem dX6_addRelay_37 : decode cX6_addRelay 37 = .ok (.bipush 8, 2) := by decide +kernel
theorem dX6_addRelay_39 : decode cX6_addRelay 39 = .ok (.if_icmp .ne 6, 3) := by decide +kernel
theorem dX6_addRelay_42 : decode cX6_addRelay 42 = .ok (.bipush (-3), 2) := by decide +kernel
theorem dX6_addRelay_44 : decode cX6_addRelay 44 = .ok (.ireturn, 1) := by decide +kernel
theorem dX6_addRelay_45 : decode cX6_addRelay 45 = .ok (.aload_n 0, 1) := by decide +kernel
theorem dX6_addRelay_46 : decode cX6_addRelay 46 = .ok (.invokevirtual 79, 3) := by decide +kernel
theorem dX6_addRelay_49 : decode cX6_addRelay 49 = .ok (.aload_n 0, 1) := by decide +kernel
theorem dX6_addRelay_50 : decode cX6_addRelay 50 = .ok (.getfield 7, 3) := by decide +kernel
theorem dX6_addRelay_53 : decode cX6_addRelay 53 = .ok (.iconst 1, 1) := by decide +kernel
theorem dX6_addRelay_54 : decode cX6_addRelay 54 = .ok (.iaload, 1) := by decide +kernel
theorem dX6_addRelay_55 : decode cX6_addRelay 55 = .ok (.istore 4, 2) := by decide +kernel
theorem dX6_addRelay_57 : decode cX6_addRelay 57 = .ok (.aload_n 0, 1) := by decide +kernel
theorem dX6_addRelay_58 : decode cX6_addRelay 58 = .ok (.getfield 7, 3) := by decide +kernel
theorem dX6_addRelay_61 : decode cX6_addRelay 61 = .ok (.iconst 1, 1) := by decide +kernel
theorem dX6_addRelay_62 : decode cX6_addRelay 62 = .ok (.dup2, 1) := by decide +kernel
theorem dX6_addRelay_63 : decode cX6_addRelay 63 = .ok (.iaload, 1) := by decide +kernel
theorem dX6_addRelay_64 : decode cX6_addRelay 64 = .ok (.iconst 1, 1) := by decide +kernel
theorem dX6_addRelay_65 : decode cX6_addRelay 65 = .ok (.iadd, 1) := by decide +kernel
theorem dX6_addRelay_66 : decode cX6_addRelay 66 = .ok (.iastore, 1) := by decide +kernel
theorem dX6_addRelay_67 : decode cX6_addRelay 67 = .ok (.iconst 0, 1) := by decide +kernel
theorem dX6_addRelay_68 : decode cX6_addRelay 68 = .ok (.istore 5, 2) := by decide +kernel
theorem dX6_addRelay_70 : decode cX6_addRelay 70 = .ok (.iload 5, 2) := by decide +kernel
theorem dX6_addRelay_72 : decode cX6_addRelay 72 = .ok (.bipush 25, 2) := by decide +kernel
theorem dX6_addRelay_74 : decode cX6_addRelay 74 = .ok (.if_icmp .ge 18, 3) := by decide +kernel
theorem dX6_addRelay_77 : decode cX6_addRelay 77 = .ok (.aload_n 0, 1) := by decide +kernel
theorem dX6_addRelay_78 : decode cX6_addRelay 78 = .ok (.iload 4, 2) := by decide +kernel
theorem dX6_addRelay_80 : decode cX6_addRelay 80 = .ok (.iload 5, 2) := by decide +kernel
theorem dX6_addRelay_82 : decode cX6_addRelay 82 = .ok (.iconst 0, 1) := by decide +kernel
theorem dX6_addRelay_83 : decode cX6_addRelay 83 = .ok (.invokevirtual 49, 3) := by decide +kernel
theorem dX6_addRelay_86 : decode cX6_addRelay 86 = .ok (.iinc 5 1, 3) := by decide +kernel
theorem dX6_addRelay_89 : decode cX6_addRelay 89 = .ok (.goto (-19), 3) := by decide +kernel
theorem dX6_addRelay_92 : decode cX6_addRelay 92 = .ok (.aload_n 0, 1) := by decide +kernel
theorem dX6_addRelay_93 : decode cX6_addRelay 93 = .ok (.iload 4, 2) := by decide +kernel
theorem dX6_addRelay_95 : decode cX6_addRelay 95 = .ok (.iconst 0, 1) := by decide +kernel
theorem dX6_addRelay_96 : decode cX6_addRelay 96 = .ok (.iload_n 1, 1) := by decide +kernel
theorem dX6_addRelay_97 : decode cX6_addRelay 97 = .ok (.invokevirtual 49, 3) := by decide +kernel
theorem dX6_addRelay_100 : decode cX6_addRelay 100 = .ok (.aload_n 0, 1) := by decide +kernel
theorem dX6_addRelay_101 : decode cX6_addRelay 101 = .ok (.iload 4, 2) := by decide +kernel
theorem dX6_addRelay_103 : decode cX6_addRelay 103 = .ok (.iconst 1, 1) := by decide +kernel
theorem dX6_addRelay_104 : decode cX6_addRelay 104 = .ok (.iload_n 2, 1) := by decide +kernel
theorem dX6_addRelay_105 : decode cX6_addRelay 105 = .ok (.invokevirtual 49, 3) := by decide +kernel
theorem dX6_addRelay_108 : decode cX6_addRelay 108 = .ok (.aload_n 0, 1) := by decide +kernel
theorem dX6_addRelay_109 : decode cX6_addRelay 109 = .ok (.iload 4, 2) := by decide +kernel
theorem dX6_addRelay_111 : decode cX6_addRelay 111 = .ok (.iconst 2, 1) := by decide +kernel
theorem dX6_addRelay_112 : decode cX6_addRelay 112 = .ok (.iload_n 3, 1) := by decide +kernel
theorem dX6_addRelay_113 : decode cX6_addRelay 113 = .ok (.invokevirtual 49, 3) := by decide +kernel
theorem dX6_addRelay_116 : decode cX6_addRelay 116 = .ok (.iload 4, 2) := by decide +kernel
theorem dX6_addRelay_118 : decode cX6_addRelay 118 = .ok (.ireturn, 1) := by decide +kernel
theorem dX6_setDelays_0 : decode cX6_setDelays 0 = .ok (.aload_n 0, 1) := by decide +kernel
theorem dX6_setDelays_1 : decode cX6_setDelays 1 = .ok (.iload_n 1, 1) := by decide +kernel
theorem dX6_setDelays_2 : decode cX6_setDelays 2 = .ok (.invokevirtual 82, 3) := by decide +kernel
theorem dX6_setDelays_5 : decode cX6_setDelays 5 = .ok (.ifCond .eq 33, 3) := by decide +kernel
theorem dX6_setDelays_8 : decode cX6_setDelays 8 = .ok (.iload_n 2, 1) := by decide +kernel
theorem dX6_setDelays_9 : decode cX6_setDelays 9 = .ok (.iconst 1, 1) := by decide +kernel
theorem dX6_setDelays_10 : decode cX6_setDelays 10 = .ok (.bipush 20, 2) := by decide +kernel
theorem dX6_setDelays_12 : decode cX6_setDelays 12 = .ok (.invokestatic 33, 3) := by decide +kernel
theorem dX6_setDelays_15 : decode cX6_setDelays 15 = .ok (.ifCond .eq 23, 3) := by decide +kernel
theorem dX6_setDelays_18 : decode cX6_setDelays 18 = .ok (.iload_n 3, 1) := by decide +kernel
theorem dX6_setDelays_19 : decode cX6_setDelays 19 = .ok (.iconst 1, 1) := by decide +kernel
theorem dX6_setDelays_20 : decode cX6_setDelays 20 = .ok (.bipush 20, 2) := by decide +kernel
theorem dX6_setDelays_22 : decode cX6_setDelays 22 = .ok (.invokestatic 33, 3) := by decide +kernel
theorem dX6_setDelays_25 : decode cX6_setDelays 25 = .ok (.ifCond .eq 13, 3) := by decide +kernel
theorem dX6_setDelays_28 : decode cX6_setDelays 28 = .ok (.iload 4, 2) := by decide +kernel
theorem dX6_setDelays_30 : decode cX6_setDelays 30 = .ok (.iconst 0, 1) := by decide +kernel
theorem dX6_setDelays_31 : decode cX6_setDelays 31 = .ok (.iconst 5, 1) := by decide +kernel
theorem dX6_setDelays_32 : decode cX6_setDelays 32 = .ok (.invokestatic 33, 3) := by decide +kernel
theorem dX6_setDelays_35 : decode cX6_setDelays 35 = .ok (.ifCond .ne 5, 3) := by decide +kernel
theorem dX6_setDelays_38 : decode cX6_setDelays 38 = .ok (.iconst (-1), 1) := by decide +kernel
theorem dX6_setDelays_39 : decode cX6_setDelays 39 = .ok (.ireturn, 1) := by decide +kernel
theorem dX6_setDelays_40 : decode cX6_setDelays 40 = .ok (.aload_n 0, 1) := by decide +kernel
theorem dX6_setDelays_41 : decode cX6_setDelays 41 = .ok (.invokevirtual 79, 3) := by decide +kernel
theorem dX6_setDelays_44 : decode cX6_setDelays 44 = .ok (.aload_n 0, 1) := by decide +kernel
theorem dX6_setDelays_45 : decode cX6_setDelays 45 = .ok (.iload_n 1, 1) := by decide +kernel
theorem dX6_setDelays_46 : decode cX6_setDelays 46 = .ok (.iconst 0, 1) := by decide +kernel
theorem dX6_setDelays_47 : decode cX6_setDelays 47 = .ok (.invokevirtual 37, 3) := by decide +kernel
theorem dX6_setDelays_50 : decode cX6_setDelays 50 = .ok (.iload_n 2, 1) := by decide +kernel
theorem dX6_setDelays_51 : decode cX6_setDelays 51 = .ok (.if_icmp .ne 28, 3) := by decide +kernel
theorem dX6_setDelays_54 : decode cX6_setDelays 54 = .ok (.aload_n 0, 1) := by decide +kernel
theorem dX6_setDelays_55 : decode cX6_setDelays 55 = .ok (.iload_n 1, 1) := by decide +kernel
theorem dX6_setDelays_56 : decode cX6_setDelays 56 = .ok (.iconst 1, 1) := by decide +kernel
theorem dX6_setDelays_57 : decode cX6_setDelays 57 = .ok (.invokevirtual 37, 3) := by decide +kernel
theorem dX6_setDelays_60 : decode cX6_setDelays 60 = .ok (.iload_n 3, 1) := by decide +kernel
theorem dX6_setDelays_61 : decode cX6_setDelays 61 = .ok (.if_icmp .ne 18, 3) := by decide +kernel
theorem dX6_setDelays_64 : decode cX6_setDelays 64 = .ok (.aload_n 0, 1) := by decide +kernel
theorem dX6_setDelays_65 : decode cX6_setDelays 65 = .ok (.iload_n 1, 1) := by decide +kernel
theorem dX6_setDelays_66 : decode cX6_setDelays 66 = .ok (.iconst 2, 1) := by decide +kernel
theorem dX6_setDelays_67 : decode cX6_setDelays 67 = .ok (.invokevirtual 37, 3) := by decide +kernel
theorem dX6_setDelays_70 : decode cX6_setDelays 70 = .ok (.iload 4, 2) := by decide +kernel
theorem dX6_setDelays_72 : decode cX6_setDelays 72 = .ok (.if_icmp .ne 7, 3) := by decide +kernel
theorem dX6_setDelays_75 : decode cX6_setDelays 75 = .ok (.iconst 1, 1) := by decide +kernel
theorem dX6_setDelays_76 : decode cX6_setDelays 76 = .ok (.goto 4, 3) := by decide +kernel
theorem dX6_setDelays_79 : decode cX6_setDelays 79 = .ok (.iconst 0, 1) := by decide +kernel
theorem dX6_setDelays_80 : decode cX6_setDelays 80 = .ok (.istore 5, 2) := by decide +kernel
theorem dX6_setDelays_82 : decode cX6_setDelays 82 = .ok (.aload_n 0, 1) := by decide +kernel
theorem dX6_setDelays_83 : decode cX6_setDelays 83 = .ok (.iload_n 1, 1) := by decide +kernel
theorem dX6_setDelays_84 : decode cX6_setDelays 84 = .ok (.iconst 0, 1) := by decide +kernel
theorem dX6_setDelays_85 : decode cX6_setDelays 85 = .ok (.iload_n 2, 1) := by decide +kernel
theorem dX6_setDelays_86 : decode cX6_setDelays 86 = .ok (.invokevirtual 49, 3) := by decide +kernel
theorem dX6_setDelays_89 : decode cX6_setDelays 89 = .ok (.aload_n 0, 1) := by decide +kernel
theorem dX6_setDelays_90 : decode cX6_setDelays 90 = .ok (.iload_n 1, 1) := by decide +kernel
theorem dX6_setDelays_91 : decode cX6_setDelays 91 = .ok (.iconst 1, 1) := by decide +kernel
theorem dX6_setDelays_92 : decode cX6_setDelays 92 = .ok (.iload_n 3, 1) := by decide +kernel
theorem dX6_setDelays_93 : decode cX6_setDelays 93 = .ok (.invokevirtual 49, 3) := by decide +kernel
theorem dX6_setDelays_96 : decode cX6_setDelays 96 = .ok (.aload_n 0, 1) := by decide +kernel
theorem dX6_setDelays_97 : decode cX6_setDelays 97 = .ok (.iload_n 1, 1) := by decide +kernel
theorem dX6_setDelays_98 : decode cX6_setDelays 98 = .ok (.iconst 2, 1) := by decide +kernel
theorem dX6_setDelays_99 : decode cX6_setDelays 99 = .ok (.iload 4, 2) := by decide +kernel
theorem dX6_setDelays_101 : decode cX6_setDelays 101 = .ok (.invokevirtual 49, 3) := by decide +kernel
theorem dX6_setDelays_104 : decode cX6_setDelays 104 = .ok (.iload 5, 2) := by decide +kernel
theorem dX6_setDelays_106 : decode cX6_setDelays 106 = .ok (.ifCond .eq 7, 3) := by decide +kernel
theorem dX6_setDelays_109 : decode cX6_setDelays 109 = .ok (.iconst 0, 1) := by decide +kernel
theorem dX6_setDelays_110 : decode cX6_setDelays 110 = .ok (.goto 4, 3) := by decide +kernel
theorem dX6_setDelays_113 : decode cX6_setDelays 113 = .ok (.iconst 1, 1) := by decide +kernel
theorem dX6_setDelays_114 : decode cX6_setDelays 114 = .ok (.ireturn, 1) := by decide +kernel
theorem dX6_isSubject_0 : decode cX6_isSubject 0 = .ok (.iload_n 1, 1) := by decide +kernel
theorem dX6_isSubject_1 : decode cX6_isSubject 1 = .ok (.iconst 0, 1) := by decide +kernel
theorem dX6_isSubject_2 : decode cX6_isSubject 2 = .ok (.bipush 7, 2) := by decide +kernel
theorem dX6_isSubject_4 : decode cX6_isSubject 4 = .ok (.aload_n 0, 1) := by decide +kernel
theorem dX6_isSubject_5 : decode cX6_isSubject 5 = .ok (.getfield 7, 3) := by decide +kernel
theorem dX6_isSubject_8 : decode cX6_isSubject 8 = .ok (.iconst 1, 1) := by decide +kernel
theorem dX6_isSubject_9 : decode cX6_isSubject 9 = .ok (.iaload, 1) := by decide +kernel
theorem dX6_isSubject_10 : decode cX6_isSubject 10 = .ok (.iadd, 1) := by decide +kernel
theorem dX6_isSubject_11 : decode cX6_isSubject 11 = .ok (.invokestatic 33, 3) := by decide +kernel
theorem dX6_isSubject_14 : decode cX6_isSubject 14 = .ok (.ifCond .eq 24, 3) := by decide +kernel
theorem dX6_isSubject_17 : decode cX6_isSubject 17 = .ok (.iload_n 1, 1) := by decide +kernel
theorem dX6_isSubject_18 : decode cX6_isSubject 18 = .ok (.bipush 8, 2) := by decide +kernel
theorem dX6_isSubject_20 : decode cX6_isSubject 20 = .ok (.if_icmp .lt 14, 3) := by decide +kernel
theorem dX6_isSubject_23 : decode cX6_isSubject 23 = .ok (.aload_n 0, 1) := by decide +kernel
theorem dX6_isSubject_24 : decode cX6_isSubject 24 = .ok (.iload_n 1, 1) := by decide +kernel
theorem dX6_isSubject_25 : decode cX6_isSubject 25 = .ok (.bipush 8, 2) := by decide +kernel
theorem dX6_isSubject_27 : decode cX6_isSubject 27 = .ok (.isub, 1) := by decide +kernel
theorem dX6_isSubject_28 : decode cX6_isSubject 28 = .ok (.invokevirtual 82, 3) := by decide +kernel
theorem dX6_isSubject_31 : decode cX6_isSubject 31 = .ok (.ifCond .eq 7, 3) := by decide +kernel
theorem dX6_isSubject_34 : decode cX6_isSubject 34 = .ok (.iconst 1, 1) := by decide +kernel
theorem dX6_isSubject_35 : decode cX6_isSubject 35 = .ok (.goto 4, 3) := by decide +kernel
theorem dX6_isSubject_38 : decode cX6_isSubject 38 = .ok (.iconst 0, 1) := by decide +kernel
theorem dX6_isSubject_39 : decode cX6_isSubject 39 = .ok (.ireturn, 1) := by decide +kernel
theorem dX6_how_0 : decode cX6_how 0 = .ok (.aload_n 0, 1) := by decide +kernel
theorem dX6_how_1 : decode cX6_how 1 = .ok (.iload_n 1, 1) := by decide +kernel
theorem dX6_how_2 : decode cX6_how 2 = .ok (.bipush 13, 2) := by decide +kernel
theorem dX6_how_4 : decode cX6_how 4 = .ok (.iconst 2, 1) := by decide +kernel
theorem dX6_how_5 : decode cX6_how 5 = .ok (.iload_n 2, 1) := by decide +kernel
theorem dX6_how_6 : decode cX6_how 6 = .ok (.imul, 1) := by decide +kernel
theorem dX6_how_7 : decode cX6_how 7 = .ok (.iadd, 1) := by decide +kernel
theorem dX6_how_8 : decode cX6_how 8 = .ok (.invokevirtual 37, 3) := by decide +kernel
theorem dX6_how_11 : decode cX6_how 11 = .ok (.iload_n 3, 1) := by decide +kernel
theorem dX6_how_12 : decode cX6_how 12 = .ok (.ishr, 1) := by decide +kernel
theorem dX6_how_13 : decode cX6_how 13 = .ok (.iconst 1, 1) := by decide +kernel
theorem dX6_how_14 : decode cX6_how 14 = .ok (.iand, 1) := by decide +kernel
theorem dX6_how_15 : decode cX6_how 15 = .ok (.istore 4, 2) := by decide +kernel
theorem dX6_how_17 : decode cX6_how 17 = .ok (.aload_n 0, 1) := by decide +kernel
theorem dX6_how_18 : decode cX6_how 18 = .ok (.iload_n 1, 1) := by decide +kernel
theorem dX6_how_19 : decode cX6_how 19 = .ok (.bipush 13, 2) := by decide +kernel
theorem dX6_how_21 : decode cX6_how 21 = .ok (.iconst 2, 1) := by decide +kernel
theorem dX6_how_22 : decode cX6_how 22 = .ok (.iload_n 2, 1) := by decide +kernel
theorem dX6_how_23 : decode cX6_how 23 = .ok (.imul, 1) := by decide +kernel
theorem dX6_how_24 : decode cX6_how 24 = .ok (.iadd, 1) := by decide +kernel
theorem dX6_how_25 : decode cX6_how 25 = .ok (.iconst 1, 1) := by decide +kernel
theorem dX6_how_26 : decode cX6_how 26 = .ok (.iadd, 1) := by decide +kernel
theorem dX6_how_27 : decode cX6_how 27 = .ok (.invokevirtual 37, 3) := by decide +kernel
theorem dX6_how_30 : decode cX6_how 30 = .ok (.iload_n 3, 1) := by decide +kernel
theorem dX6_how_31 : decode cX6_how 31 = .ok (.ishr, 1) := by decide +kernel
theorem dX6_how_32 : decode cX6_how 32 = .ok (.iconst 1, 1) := by decide +kernel
theorem dX6_how_33 : decode cX6_how 33 = .ok (.iand, 1) := by decide +kernel
theorem dX6_how_34 : decode cX6_how 34 = .ok (.istore 5, 2) := by decide +kernel
theorem dX6_how_36 : decode cX6_how 36 = .ok (.iload 4, 2) := by decide +kernel
theorem dX6_how_38 : decode cX6_how 38 = .ok (.iconst 1, 1) := by decide +kernel
theorem dX6_how_39 : decode cX6_how 39 = .ok (.if_icmp .ne 7, 3) := by decide +kernel
theorem dX6_how_42 : decode cX6_how 42 = .ok (.iconst 1, 1) := by decide +kernel
theorem dX6_how_43 : decode cX6_how 43 = .ok (.goto 7, 3) := by decide +kernel
theorem dX6_how_46 : decode cX6_how 46 = .ok (.iconst 2, 1) := by decide +kernel
theorem dX6_how_47 : decode cX6_how 47 = .ok (.iload 5, 2) := by decide +kernel
theorem dX6_how_49 : decode cX6_how 49 = .ok (.imul, 1) := by decide +kernel
theorem dX6_how_50 : decode cX6_how 50 = .ok (.ireturn, 1) := by decide +kernel
theorem dX6_conditions_0 : decode cX6_conditions 0 = .ok (.iconst 1, 1) := by decide +kernel
theorem dX6_conditions_1 : decode cX6_conditions 1 = .ok (.iload_n 3, 1) := by decide +kernel
theorem dX6_conditions_2 : decode cX6_conditions 2 = .ok (.ishl, 1) := by decide +kernel
theorem dX6_conditions_3 : decode cX6_conditions 3 = .ok (.istore 5, 2) := by decide +kernel
theorem dX6_conditions_5 : decode cX6_conditions 5 = .ok (.aload_n 0, 1) := by decide +kernel
theorem dX6_conditions_6 : decode cX6_conditions 6 = .ok (.iload_n 1, 1) := by decide +kernel
theorem dX6_conditions_7 : decode cX6_conditions 7 = .ok (.bipush 13, 2) := by decide +kernel
theorem dX6_conditions_9 : decode cX6_conditions 9 = .ok (.iconst 2, 1) := by decide +kernel
theorem dX6_conditions_10 : decode cX6_conditions 10 = .ok (.iload_n 2, 1) := by decide +kernel
theorem dX6_conditions_11 : decode cX6_conditions 11 = .ok (.imul, 1) := by decide +kernel
theorem dX6_conditions_12 : decode cX6_conditions 12 = .ok (.iadd, 1) := by decide +kernel
theorem dX6_conditions_13 : decode cX6_conditions 13 = .ok (.invokevirtual 37, 3) := by decide +kernel
theorem dX6_conditions_16 : decode cX6_conditions 16 = .ok (.iload 5, 2) := by decide +kernel
theorem dX6_conditions_18 : decode cX6_conditions 18 = .ok (.iconst (-1), 1) := by decide +kernel
theorem dX6_conditions_19 : decode cX6_conditions 19 = .ok (.ixor, 1) := by decide +kernel
theorem dX6_conditions_20 : decode cX6_conditions 20 = .ok (.iand, 1) := by decide +kernel
theorem dX6_conditions_21 : decode cX6_conditions 21 = .ok (.istore 6, 2) := by decide +kernel
theorem dX6_conditions_23 : decode cX6_conditions 23 = .ok (.aload_n 0, 1) := by decide +kernel
theorem dX6_conditions_24 : decode cX6_conditions 24 = .ok (.iload_n 1, 1) := by decide +kernel
theorem dX6_conditions_25 : decode cX6_conditions 25 = .ok (.bipush 13, 2) := by decide +kernel
theorem dX6_conditions_27 : decode cX6_conditions 27 = .ok (.iconst 2, 1) := by decide +kernel
theorem dX6_conditions_28 : decode cX6_conditions 28 = .ok (.iload_n 2, 1) := by decide +kernel
theorem dX6_conditions_29 : decode cX6_conditions 29 = .ok (.imul, 1) := by decide +kernel
theorem dX6_conditions_30 : decode cX6_conditions 30 = .ok (.iadd, 1) := by decide +kernel
theorem dX6_conditions_31 : decode cX6_conditions 31 = .ok (.iconst 1, 1) := by decide +kernel
theorem dX6_conditions_32 : decode cX6_conditions 32 = .ok (.iadd, 1) := by decide +kernel
theorem dX6_conditions_33 : decode cX6_conditions 33 = .ok (.invokevirtual 37, 3) := by decide +kernel
theorem dX6_conditions_36 : decode cX6_conditions 36 = .ok (.iload 5, 2) := by decide +kernel
theorem dX6_conditions_38 : decode cX6_conditions 38 = .ok (.iconst (-1), 1) := by decide +kernel
theorem dX6_conditions_39 : decode cX6_conditions 39 = .ok (.ixor, 1) := by decide +kernel
theorem dX6_conditions_40 : decode cX6_conditions 40 = .ok (.iand, 1) := by decide +kernel
theorem dX6_conditions_41 : decode cX6_conditions 41 = .ok (.istore 7, 2) := by decide +kernel
theorem dX6_conditions_43 : decode cX6_conditions 43 = .ok (.aload_n 0, 1) := by decide +kernel
theorem dX6_conditions_44 : decode cX6_conditions 44 = .ok (.iload_n 1, 1) := by decide +kernel
theorem dX6_conditions_45 : decode cX6_conditions 45 = .ok (.bipush 13, 2) := by decide +kernel
theorem dX6_conditions_47 : decode cX6_conditions 47 = .ok (.iconst 2, 1) := by decide +kernel
theorem dX6_conditions_48 : decode cX6_conditions 48 = .ok (.iload_n 2, 1) := by decide +kernel
theorem dX6_conditions_49 : decode cX6_conditions 49 = .ok (.imul, 1) := by decide +kernel
theorem dX6_conditions_50 : decode cX6_conditions 50 = .ok (.iadd, 1) := by decide +kernel
theorem dX6_conditions_51 : decode cX6_conditions 51 = .ok (.iload 4, 2) := by decide +kernel
theorem dX6_conditions_53 : decode cX6_conditions 53 = .ok (.iconst 1, 1) := by decide +kernel
theorem dX6_conditions_54 : decode cX6_conditions 54 = .ok (.if_icmp .ne 11, 3) := by decide +kernel
theorem dX6_conditions_57 : decode cX6_conditions 57 = .ok (.iload 6, 2) := by decide +kernel
theorem dX6_conditions_59 : decode cX6_conditions 59 = .ok (.iload 5, 2) := by decide +kernel
theorem dX6_conditions_61 : decode cX6_conditions 61 = .ok (.ior, 1) := by decide +kernel
theorem dX6_conditions_62 : decode cX6_conditions 62 = .ok (.goto 5, 3) := by decide +kernel
theorem dX6_conditions_65 : decode cX6_conditions 65 = .ok (.iload 6, 2) := by decide +kernel
theorem dX6_conditions_67 : decode cX6_conditions 67 = .ok (.invokevirtual 49, 3) := by decide +kernel
theorem dX6_conditions_70 : decode cX6_conditions 70 = .ok (.aload_n 0, 1) := by decide +kernel
theorem dX6_conditions_71 : decode cX6_conditions 71 = .ok (.iload_n 1, 1) := by decide +kernel
theorem dX6_conditions_72 : decode cX6_conditions 72 = .ok (.bipush 13, 2) := by decide +kernel
theorem dX6_conditions_74 : decode cX6_conditions 74 = .ok (.iconst 2, 1) := by decide +kernel
theorem dX6_conditions_75 : decode cX6_conditions 75 = .ok (.iload_n 2, 1) := by decide +kernel
theorem dX6_conditions_76 : decode cX6_conditions 76 = .ok (.imul, 1) := by decide +kernel
theorem dX6_conditions_77 : decode cX6_conditions 77 = .ok (.iadd, 1) := by decide +kernel
theorem dX6_conditions_78 : decode cX6_conditions 78 = .ok (.iconst 1, 1) := by decide +kernel
theorem dX6_conditions_79 : decode cX6_conditions 79 = .ok (.iadd, 1) := by decide +kernel
theorem dX6_conditions_80 : decode cX6_conditions 80 = .ok (.iload 4, 2) := by decide +kernel
theorem dX6_conditions_82 : decode cX6_conditions 82 = .ok (.iconst 2, 1) := by decide +kernel
theorem dX6_conditions_83 : decode cX6_conditions 83 = .ok (.if_icmp .ne 11, 3) := by decide +kernel
theorem dX6_conditions_86 : decode cX6_conditions 86 = .ok (.iload 7, 2) := by decide +kernel
theorem dX6_conditions_88 : decode cX6_conditions 88 = .ok (.iload 5, 2) := by decide +kernel
theorem dX6_conditions_90 : decode cX6_conditions 90 = .ok (.ior, 1) := by decide +kernel
theorem dX6_conditions_91 : decode cX6_conditions 91 = .ok (.goto 5, 3) := by decide +kernel
theorem dX6_conditions_94 : decode cX6_conditions 94 = .ok (.iload 7, 2) := by decide +kernel
theorem dX6_conditions_96 : decode cX6_conditions 96 = .ok (.invokevirtual 49, 3) := by decide +kernel
theorem dX6_conditions_99 : decode cX6_conditions 99 = .ok (.return_, 1) := by decide +kernel
theorem dX6_opensBranch_0 : decode cX6_opensBranch 0 = .ok (.aload_n 0, 1) := by decide +kernel
theorem dX6_opensBranch_1 : decode cX6_opensBranch 1 = .ok (.iload_n 1, 1) := by decide +kernel
theorem dX6_opensBranch_2 : decode cX6_opensBranch 2 = .ok (.bipush 12, 2) := by decide +kernel
theorem dX6_opensBranch_4 : decode cX6_opensBranch 4 = .ok (.invokevirtual 37, 3) := by decide +kernel
theorem dX6_opensBranch_7 : decode cX6_opensBranch 7 = .ok (.istore_n 2, 1) := by decide +kernel
theorem dX6_opensBranch_8 : decode cX6_opensBranch 8 = .ok (.aload_n 0, 1) := by decide +kernel
theorem dX6_opensBranch_9 : decode cX6_opensBranch 9 = .ok (.iload_n 1, 1) := by decide +kernel
theorem dX6_opensBranch_10 : decode cX6_opensBranch 10 = .ok (.bipush 13, 2) := by decide +kernel
theorem dX6_opensBranch_12 : decode cX6_opensBranch 12 = .ok (.iconst 2, 1) := by decide +kernel
theorem dX6_opensBranch_13 : decode cX6_opensBranch 13 = .ok (.iload_n 2, 1) := by decide +kernel
theorem dX6_opensBranch_14 : decode cX6_opensBranch 14 = .ok (.imul, 1) := by decide +kernel
theorem dX6_opensBranch_15 : decode cX6_opensBranch 15 = .ok (.iadd, 1) := by decide +kernel
theorem dX6_opensBranch_16 : decode cX6_opensBranch 16 = .ok (.iconst 0, 1) := by decide +kernel
theorem dX6_opensBranch_17 : decode cX6_opensBranch 17 = .ok (.invokevirtual 49, 3) := by decide +kernel
theorem dX6_opensBranch_20 : decode cX6_opensBranch 20 = .ok (.aload_n 0, 1) := by decide +kernel
theorem dX6_opensBranch_21 : decode cX6_opensBranch 21 = .ok (.iload_n 1, 1) := by decide +kernel
theorem dX6_opensBranch_22 : decode cX6_opensBranch 22 = .ok (.bipush 13, 2) := by decide +kernel
theorem dX6_opensBranch_24 : decode cX6_opensBranch 24 = .ok (.iconst 2, 1) := by decide +kernel
theorem dX6_opensBranch_25 : decode cX6_opensBranch 25 = .ok (.iload_n 2, 1) := by decide +kernel
theorem dX6_opensBranch_26 : decode cX6_opensBranch 26 = .ok (.imul, 1) := by decide +kernel
theorem dX6_opensBranch_27 : decode cX6_opensBranch 27 = .ok (.iadd, 1) := by decide +kernel
theorem dX6_opensBranch_28 : decode cX6_opensBranch 28 = .ok (.iconst 1, 1) := by decide +kernel
theorem dX6_opensBranch_29 : decode cX6_opensBranch 29 = .ok (.iadd, 1) := by decide +kernel
theorem dX6_opensBranch_30 : decode cX6_opensBranch 30 = .ok (.iconst 0, 1) := by decide +kernel
theorem dX6_opensBranch_31 : decode cX6_opensBranch 31 = .ok (.invokevirtual 49, 3) := by decide +kernel
theorem dX6_opensBranch_34 : decode cX6_opensBranch 34 = .ok (.aload_n 0, 1) := by decide +kernel
theorem dX6_opensBranch_35 : decode cX6_opensBranch 35 = .ok (.iload_n 1, 1) := by decide +kernel
theorem dX6_opensBranch_36 : decode cX6_opensBranch 36 = .ok (.bipush 12, 2) := by decide +kernel
theorem dX6_opensBranch_38 : decode cX6_opensBranch 38 = .ok (.iload_n 2, 1) := by decide +kernel
theorem dX6_opensBranch_39 : decode cX6_opensBranch 39 = .ok (.iconst 1, 1) := by decide +kernel
theorem dX6_opensBranch_40 : decode cX6_opensBranch 40 = .ok (.iadd, 1) := by decide +kernel
theorem dX6_opensBranch_41 : decode cX6_opensBranch 41 = .ok (.invokevirtual 49, 3) := by decide +kernel
theorem dX6_opensBranch_44 : decode cX6_opensBranch 44 = .ok (.return_, 1) := by decide +kernel
theorem dX6_setCondition_0 : decode cX6_setCondition 0 = .ok (.aload_n 0, 1) := by decide +kernel
theorem dX6_setCondition_1 : decode cX6_setCondition 1 = .ok (.iload_n 1, 1) := by decide +kernel
theorem dX6_setCondition_2 : decode cX6_setCondition 2 = .ok (.invokevirtual 82, 3) := by decide +kernel
theorem dX6_setCondition_5 : decode cX6_setCondition 5 = .ok (.ifCond .eq 36, 3) := by decide +kernel
theorem dX6_setCondition_8 : decode cX6_setCondition 8 = .ok (.iload_n 2, 1) := by decide +kernel
theorem dX6_setCondition_9 : decode cX6_setCondition 9 = .ok (.iconst 0, 1) := by decide +kernel
theorem dX6_setCondition_10 : decode cX6_setCondition 10 = .ok (.aload_n 0, 1) := by decide +kernel
theorem dX6_setCondition_11 : decode cX6_setCondition 11 = .ok (.iload_n 1, 1) := by decide +kernel
theorem dX6_setCondition_12 : decode cX6_setCondition 12 = .ok (.bipush 12, 2) := by decide +kernel
theorem dX6_setCondition_14 : decode cX6_setCondition 14 = .ok (.invokevirtual 37, 3) := by decide +kernel
theorem dX6_setCondition_17 : decode cX6_setCondition 17 = .ok (.invokestatic 33, 3) := by decide +kernel
theorem dX6_setCondition_20 : decode cX6_setCondition 20 = .ok (.ifCond .eq 21, 3) := by decide +kernel
theorem dX6_setCondition_23 : decode cX6_setCondition 23 = .ok (.aload_n 0, 1) := by decide +kernel
theorem dX6_setCondition_24 : decode cX6_setCondition 24 = .ok (.iload_n 3, 1) := by decide +kernel
theorem dX6_setCondition_25 : decode cX6_setCondition 25 = .ok (.invokevirtual 85, 3) := by decide +kernel
theorem dX6_setCondition_28 : decode cX6_setCondition 28 = .ok (.ifCond .eq 13, 3) := by decide +kernel
theorem dX6_setCondition_31 : decode cX6_setCondition 31 = .ok (.iload 4, 2) := by decide +kernel
theorem dX6_setCondition_33 : decode cX6_setCondition 33 = .ok (.iconst 0, 1) := by decide +kernel
theorem dX6_setCondition_34 : decode cX6_setCondition 34 = .ok (.iconst 2, 1) := by decide +kernel
theorem dX6_setCondition_35 : decode cX6_setCondition 35 = .ok (.invokestatic 33, 3) := by decide +kernel
theorem dX6_setCondition_38 : decode cX6_setCondition 38 = .ok (.ifCond .ne 5, 3) := by decide +kernel
theorem dX6_setCondition_41 : decode cX6_setCondition 41 = .ok (.iconst (-1), 1) := by decide +kernel
theorem dX6_setCondition_42 : decode cX6_setCondition 42 = .ok (.ireturn, 1) := by decide +kernel
theorem dX6_setCondition_43 : decode cX6_setCondition 43 = .ok (.iload_n 2, 1) := by decide +kernel
theorem dX6_setCondition_44 : decode cX6_setCondition 44 = .ok (.bipush 6, 2) := by decide +kernel
theorem dX6_setCondition_46 : decode cX6_setCondition 46 = .ok (.if_icmp .ne 6, 3) := by decide +kernel
theorem dX6_setCondition_49 : decode cX6_setCondition 49 = .ok (.bipush (-3), 2) := by decide +kernel
theorem dX6_setCondition_51 : decode cX6_setCondition 51 = .ok (.ireturn, 1) := by decide +kernel
theorem dX6_setCondition_52 : decode cX6_setCondition 52 = .ok (.aload_n 0, 1) := by decide +kernel
theorem dX6_setCondition_53 : decode cX6_setCondition 53 = .ok (.invokevirtual 79, 3) := by decide +kernel
theorem dX6_setCondition_56 : decode cX6_setCondition 56 = .ok (.iload_n 2, 1) := by decide +kernel
theorem dX6_setCondition_57 : decode cX6_setCondition 57 = .ok (.aload_n 0, 1) := by decide +kernel
theorem dX6_setCondition_58 : decode cX6_setCondition 58 = .ok (.iload_n 1, 1) := by decide +kernel
theorem dX6_setCondition_59 : decode cX6_setCondition 59 = .ok (.bipush 12, 2) := by decide +kernel
theorem dX6_setCondition_61 : decode cX6_setCondition 61 = .ok (.invokevirtual 37, 3) := by decide +kernel
theorem dX6_setCondition_64 : decode cX6_setCondition 64 = .ok (.if_icmp .ne 8, 3) := by decide +kernel
theorem dX6_setCondition_67 : decode cX6_setCondition 67 = .ok (.aload_n 0, 1) := by decide +kernel
theorem dX6_setCondition_68 : decode cX6_setCondition 68 = .ok (.iload_n 1, 1) := by decide +kernel
theorem dX6_setCondition_69 : decode cX6_setCondition 69 = .ok (.invokevirtual 88, 3) := by decide +kernel
theorem dX6_setCondition_72 : decode cX6_setCondition 72 = .ok (.aload_n 0, 1) := by decide +kernel
theorem dX6_setCondition_73 : decode cX6_setCondition 73 = .ok (.iload_n 1, 1) := by decide +kernel
theorem dX6_setCondition_74 : decode cX6_setCondition 74 = .ok (.iload_n 2, 1) := by decide +kernel
theorem dX6_setCondition_75 : decode cX6_setCondition 75 = .ok (.iload_n 3, 1) := by decide +kernel
theorem dX6_setCondition_76 : decode cX6_setCondition 76 = .ok (.invokevirtual 91, 3) := by decide +kernel
theorem dX6_setCondition_79 : decode cX6_setCondition 79 = .ok (.istore 5, 2) := by decide +kernel
theorem dX6_setCondition_81 : decode cX6_setCondition 81 = .ok (.aload_n 0, 1) := by decide +kernel
theorem dX6_setCondition_82 : decode cX6_setCondition 82 = .ok (.iload_n 1, 1) := by decide +kernel
theorem dX6_setCondition_83 : decode cX6_setCondition 83 = .ok (.iload_n 2, 1) := by decide +kernel
theorem dX6_setCondition_84 : decode cX6_setCondition 84 = .ok (.iload_n 3, 1) := by decide +kernel
theorem dX6_setCondition_85 : decode cX6_setCondition 85 = .ok (.iload 4, 2) := by decide +kernel
theorem dX6_setCondition_87 : decode cX6_setCondition 87 = .ok (.invokevirtual 95, 3) := by decide +kernel
theorem dX6_setCondition_90 : decode cX6_setCondition 90 = .ok (.aload_n 0, 1) := by decide +kernel
theorem dX6_setCondition_91 : decode cX6_setCondition 91 = .ok (.dup, 1) := by decide +kernel
theorem dX6_setCondition_92 : decode cX6_setCondition 92 = .ok (.getfield 65, 3) := by decide +kernel
theorem dX6_setCondition_95 : decode cX6_setCondition 95 = .ok (.aload_n 0, 1) := by decide +kernel
theorem dX6_setCondition_96 : decode cX6_setCondition 96 = .ok (.invokevirtual 68, 3) := by decide +kernel
theorem dX6_setCondition_99 : decode cX6_setCondition 99 = .ok (.iadd, 1) := by decide +kernel
theorem dX6_setCondition_100 : decode cX6_setCondition 100 = .ok (.putfield 65, 3) := by decide +kernel
theorem dX6_setCondition_103 : decode cX6_setCondition 103 = .ok (.iload 5, 2) := by decide +kernel
theorem dX6_setCondition_105 : decode cX6_setCondition 105 = .ok (.ireturn, 1) := by decide +kernel
theorem dX6_removeBranch_0 : decode cX6_removeBranch 0 = .ok (.aload_n 0, 1) := by decide +kernel
theorem dX6_removeBranch_1 : decode cX6_removeBranch 1 = .ok (.iload_n 1, 1) := by decide +kernel
theorem dX6_removeBranch_2 : decode cX6_removeBranch 2 = .ok (.invokevirtual 82, 3) := by decide +kernel
theorem dX6_removeBranch_5 : decode cX6_removeBranch 5 = .ok (.ifCond .eq 20, 3) := by decide +kernel
theorem dX6_removeBranch_8 : decode cX6_removeBranch 8 = .ok (.iload_n 2, 1) := by decide +kernel
theorem dX6_removeBranch_9 : decode cX6_removeBranch 9 = .ok (.iconst 0, 1) := by decide +kernel
theorem dX6_removeBranch_10 : decode cX6_removeBranch 10 = .ok (.aload_n 0, 1) := by decide +kernel
theorem dX6_removeBranch_11 : decode cX6_removeBranch 11 = .ok (.iload_n 1, 1) := by decide +kernel
theorem dX6_removeBranch_12 : decode cX6_removeBranch 12 = .ok (.bipush 12, 2) := by decide +kernel
theorem dX6_removeBranch_14 : decode cX6_removeBranch 14 = .ok (.invokevirtual 37, 3) := by decide +kernel
theorem dX6_removeBranch_17 : decode cX6_removeBranch 17 = .ok (.iconst 1, 1) := by decide +kernel
theorem dX6_removeBranch_18 : decode cX6_removeBranch 18 = .ok (.isub, 1) := by decide +kernel
theorem dX6_removeBranch_19 : decode cX6_removeBranch 19 = .ok (.invokestatic 33, 3) := by decide +kernel
theorem dX6_removeBranch_22 : decode cX6_removeBranch 22 = .ok (.ifCond .ne 5, 3) := by decide +kernel
theorem dX6_removeBranch_25 : decode cX6_removeBranch 25 = .ok (.iconst (-1), 1) := by decide +kernel
theorem dX6_removeBranch_26 : decode cX6_removeBranch 26 = .ok (.ireturn, 1) := by decide +kernel
theorem dX6_removeBranch_27 : decode cX6_removeBranch 27 = .ok (.aload_n 0, 1) := by decide +kernel
theorem dX6_removeBranch_28 : decode cX6_removeBranch 28 = .ok (.invokevirtual 79, 3) := by decide +kernel
theorem dX6_removeBranch_31 : decode cX6_removeBranch 31 = .ok (.aload_n 0, 1) := by decide +kernel
theorem dX6_removeBranch_32 : decode cX6_removeBranch 32 = .ok (.iload_n 1, 1) := by decide +kernel
theorem dX6_removeBranch_33 : decode cX6_removeBranch 33 = .ok (.bipush 12, 2) := by decide +kernel
theorem dX6_removeBranch_35 : decode cX6_removeBranch 35 = .ok (.aload_n 0, 1) := by decide +kernel
theorem dX6_removeBranch_36 : decode cX6_removeBranch 36 = .ok (.iload_n 1, 1) := by decide +kernel
theorem dX6_removeBranch_37 : decode cX6_removeBranch 37 = .ok (.bipush 12, 2) := by decide +kernel
theorem dX6_removeBranch_39 : decode cX6_removeBranch 39 = .ok (.invokevirtual 37, 3) := by decide +kernel
theorem dX6_removeBranch_42 : decode cX6_removeBranch 42 = .ok (.iconst 1, 1) := by decide +kernel
theorem dX6_removeBranch_43 : decode cX6_removeBranch 43 = .ok (.isub, 1) := by decide +kernel
theorem dX6_removeBranch_44 : decode cX6_removeBranch 44 = .ok (.invokevirtual 49, 3) := by decide +kernel
theorem dX6_removeBranch_47 : decode cX6_removeBranch 47 = .ok (.bipush 13, 2) := by decide +kernel
theorem dX6_removeBranch_49 : decode cX6_removeBranch 49 = .ok (.iconst 2, 1) := by decide +kernel
theorem dX6_removeBranch_50 : decode cX6_removeBranch 50 = .ok (.iload_n 2, 1) := by decide +kernel
theorem dX6_removeBranch_51 : decode cX6_removeBranch 51 = .ok (.imul, 1) := by decide +kernel
theorem dX6_removeBranch_52 : decode cX6_removeBranch 52 = .ok (.iadd, 1) := by decide +kernel
theorem dX6_removeBranch_53 : decode cX6_removeBranch 53 = .ok (.istore_n 3, 1) := by decide +kernel
theorem dX6_removeBranch_54 : decode cX6_removeBranch 54 = .ok (.iload_n 3, 1) := by decide +kernel
theorem dX6_removeBranch_55 : decode cX6_removeBranch 55 = .ok (.bipush 13, 2) := by decide +kernel
theorem dX6_removeBranch_57 : decode cX6_removeBranch 57 = .ok (.iconst 2, 1) := by decide +kernel
theorem dX6_removeBranch_58 : decode cX6_removeBranch 58 = .ok (.aload_n 0, 1) := by decide +kernel
theorem dX6_removeBranch_59 : decode cX6_removeBranch 59 = .ok (.iload_n 1, 1) := by decide +kernel
theorem dX6_removeBranch_60 : decode cX6_removeBranch 60 = .ok (.bipush 12, 2) := by decide +kernel
theorem dX6_removeBranch_62 : decode cX6_removeBranch 62 = .ok (.invokevirtual 37, 3) := by decide +kernel
theorem dX6_removeBranch_65 : decode cX6_removeBranch 65 = .ok (.imul, 1) := by decide +kernel
theorem dX6_removeBranch_66 : decode cX6_removeBranch 66 = .ok (.iadd, 1) := by decide +kernel
theorem dX6_removeBranch_67 : decode cX6_removeBranch 67 = .ok (.if_icmp .ge 23, 3) := by decide +kernel
theorem dX6_removeBranch_70 : decode cX6_removeBranch 70 = .ok (.aload_n 0, 1) := by decide +kernel
theorem dX6_removeBranch_71 : decode cX6_removeBranch 71 = .ok (.iload_n 1, 1) := by decide +kernel
theorem dX6_removeBranch_72 : decode cX6_removeBranch 72 = .ok (.iload_n 3, 1) := by decide +kernel
theorem dX6_removeBranch_73 : decode cX6_removeBranch 73 = .ok (.aload_n 0, 1) := by decide +kernel
theorem dX6_removeBranch_74 : decode cX6_removeBranch 74 = .ok (.iload_n 1, 1) := by decide +kernel
theorem dX6_removeBranch_75 : decode cX6_removeBranch 75 = .ok (.iload_n 3, 1) := by decide +kernel
theorem dX6_removeBranch_76 : decode cX6_removeBranch 76 = .ok (.iconst 2, 1) := by decide +kernel
theorem dX6_removeBranch_77 : decode cX6_removeBranch 77 = .ok (.iadd, 1) := by decide +kernel
theorem dX6_removeBranch_78 : decode cX6_removeBranch 78 = .ok (.invokevirtual 37, 3) := by decide +kernel
theorem dX6_removeBranch_81 : decode cX6_removeBranch 81 = .ok (.invokevirtual 49, 3) := by decide +kernel
theorem dX6_removeBranch_84 : decode cX6_removeBranch 84 = .ok (.iinc 3 1, 3) := by decide +kernel
theorem dX6_removeBranch_87 : decode cX6_removeBranch 87 = .ok (.goto (-33), 3) := by decide +kernel
theorem dX6_removeBranch_90 : decode cX6_removeBranch 90 = .ok (.aload_n 0, 1) := by decide +kernel
theorem dX6_removeBranch_91 : decode cX6_removeBranch 91 = .ok (.dup, 1) := by decide +kernel
theorem dX6_removeBranch_92 : decode cX6_removeBranch 92 = .ok (.getfield 65, 3) := by decide +kernel
theorem dX6_removeBranch_95 : decode cX6_removeBranch 95 = .ok (.aload_n 0, 1) := by decide +kernel
theorem dX6_removeBranch_96 : decode cX6_removeBranch 96 = .ok (.invokevirtual 68, 3) := by decide +kernel
theorem dX6_removeBranch_99 : decode cX6_removeBranch 99 = .ok (.iadd, 1) := by decide +kernel
theorem dX6_removeBranch_100 : decode cX6_removeBranch 100 = .ok (.putfield 65, 3) := by decide +kernel
theorem dX6_removeBranch_103 : decode cX6_removeBranch 103 = .ok (.aload_n 0, 1) := by decide +kernel
theorem dX6_removeBranch_104 : decode cX6_removeBranch 104 = .ok (.iload_n 1, 1) := by decide +kernel
theorem dX6_removeBranch_105 : decode cX6_removeBranch 105 = .ok (.bipush 12, 2) := by decide +kernel
theorem dX6_removeBranch_107 : decode cX6_removeBranch 107 = .ok (.invokevirtual 37, 3) := by decide +kernel
theorem dX6_removeBranch_110 : decode cX6_removeBranch 110 = .ok (.ireturn, 1) := by decide +kernel
theorem dX6_appendCharacter_0 : decode cX6_appendCharacter 0 = .ok (.iload_n 1, 1) := by decide +kernel
theorem dX6_appendCharacter_1 : decode cX6_appendCharacter 1 = .ok (.iconst 0, 1) := by decide +kernel
theorem dX6_appendCharacter_2 : decode cX6_appendCharacter 2 = .ok (.sipush 255, 3) := by decide +kernel
theorem dX6_appendCharacter_5 : decode cX6_appendCharacter 5 = .ok (.invokestatic 33, 3) := by decide +kernel
theorem dX6_appendCharacter_8 : decode cX6_appendCharacter 8 = .ok (.ifCond .ne 5, 3) := by decide +kernel
theorem dX6_appendCharacter_11 : decode cX6_appendCharacter 11 = .ok (.iconst (-1), 1) := by decide +kernel
theorem dX6_appendCharacter_12 : decode cX6_appendCharacter 12 = .ok (.ireturn, 1) := by decide +kernel
theorem dX6_appendCharacter_13 : decode cX6_appendCharacter 13 = .ok (.aload_n 0, 1) := by decide +kernel
theorem dX6_appendCharacter_14 : decode cX6_appendCharacter 14 = .ok (.getfield 26, 3) := by decide +kernel
theorem dX6_appendCharacter_17 : decode cX6_appendCharacter 17 = .ok (.bipush 60, 2) := by decide +kernel
theorem dX6_appendCharacter_19 : decode cX6_appendCharacter 19 = .ok (.if_icmp .ne 6, 3) := by decide +kernel
theorem dX6_appendCharacter_22 : decode cX6_appendCharacter 22 = .ok (.bipush (-3), 2) := by decide +kernel
theorem dX6_appendCharacter_24 : decode cX6_appendCharacter 24 = .ok (.ireturn, 1) := by decide +kernel
theorem dX6_appendCharacter_25 : decode cX6_appendCharacter 25 = .ok (.aload_n 0, 1) := by decide +kernel
theorem dX6_appendCharacter_26 : decode cX6_appendCharacter 26 = .ok (.getfield 22, 3) := by decide +kernel
theorem dX6_appendCharacter_29 : decode cX6_appendCharacter 29 = .ok (.aload_n 0, 1) := by decide +kernel
theorem dX6_appendCharacter_30 : decode cX6_appendCharacter 30 = .ok (.getfield 26, 3) := by decide +kernel
theorem dX6_appendCharacter_33 : decode cX6_appendCharacter 33 = .ok (.iload_n 1, 1) := by decide +kernel
theorem dX6_appendCharacter_34 : decode cX6_appendCharacter 34 = .ok (.i2b, 1) := by decide +kernel
theorem dX6_appendCharacter_35 : decode cX6_appendCharacter 35 = .ok (.bastore, 1) := by decide +kernel
theorem dX6_appendCharacter_36 : decode cX6_appendCharacter 36 = .ok (.aload_n 0, 1) := by decide +kernel
theorem dX6_appendCharacter_37 : decode cX6_appendCharacter 37 = .ok (.dup, 1) := by decide +kernel
theorem dX6_appendCharacter_38 : decode cX6_appendCharacter 38 = .ok (.getfield 26, 3) := by decide +kernel
theorem dX6_appendCharacter_41 : decode cX6_appendCharacter 41 = .ok (.iconst 1, 1) := by decide +kernel
theorem dX6_appendCharacter_42 : decode cX6_appendCharacter 42 = .ok (.iadd, 1) := by decide +kernel
theorem dX6_appendCharacter_43 : decode cX6_appendCharacter 43 = .ok (.putfield 26, 3) := by decide +kernel
theorem dX6_appendCharacter_46 : decode cX6_appendCharacter 46 = .ok (.aload_n 0, 1) := by decide +kernel
theorem dX6_appendCharacter_47 : decode cX6_appendCharacter 47 = .ok (.getfield 26, 3) := by decide +kernel
theorem dX6_appendCharacter_50 : decode cX6_appendCharacter 50 = .ok (.ireturn, 1) := by decide +kernel
theorem dX6_clearText_0 : decode cX6_clearText 0 = .ok (.aload_n 0, 1) := by decide +kernel
theorem dX6_clearText_1 : decode cX6_clearText 1 = .ok (.getfield 26, 3) := by decide +kernel
theorem dX6_clearText_4 : decode cX6_clearText 4 = .ok (.istore_n 1, 1) := by decide +kernel
theorem dX6_clearText_5 : decode cX6_clearText 5 = .ok (.aload_n 0, 1) := by decide +kernel
theorem dX6_clearText_6 : decode cX6_clearText 6 = .ok (.iconst 0, 1) := by decide +kernel
theorem dX6_clearText_7 : decode cX6_clearText 7 = .ok (.putfield 26, 3) := by decide +kernel
theorem dX6_clearText_10 : decode cX6_clearText 10 = .ok (.iload_n 1, 1) := by decide +kernel
theorem dX6_clearText_11 : decode cX6_clearText 11 = .ok (.ireturn, 1) := by decide +kernel
theorem dX6_here_0 : decode cX6_here 0 = .ok (.aload_n 0, 1) := by decide +kernel
theorem dX6_here_1 : decode cX6_here 1 = .ok (.getfield 99, 3) := by decide +kernel
theorem dX6_here_4 : decode cX6_here 4 = .ok (.aload_n 0, 1) := by decide +kernel
theorem dX6_here_5 : decode cX6_here 5 = .ok (.getfield 26, 3) := by decide +kernel
theorem dX6_here_8 : decode cX6_here 8 = .ok (.if_icmp .ge 30, 3) := by decide +kernel
theorem dX6_here_11 : decode cX6_here 11 = .ok (.aload_n 0, 1) := by decide +kernel
theorem dX6_here_12 : decode cX6_here 12 = .ok (.getfield 22, 3) := by decide +kernel
theorem dX6_here_15 : decode cX6_here 15 = .ok (.aload_n 0, 1) := by decide +kernel
theorem dX6_here_16 : decode cX6_here 16 = .ok (.getfield 99, 3) := by decide +kernel
theorem dX6_here_19 : decode cX6_here 19 = .ok (.baload, 1) := by decide +kernel
theorem dX6_here_20 : decode cX6_here 20 = .ok (.bipush 32, 2) := by decide +kernel
theorem dX6_here_22 : decode cX6_here 22 = .ok (.if_icmp .ne 16, 3) := by decide +kernel
theorem dX6_here_25 : decode cX6_here 25 = .ok (.aload_n 0, 1) := by decide +kernel
theorem dX6_here_26 : decode cX6_here 26 = .ok (.dup, 1) := by decide +kernel
theorem dX6_here_27 : decode cX6_here 27 = .ok (.getfield 99, 3) := by decide +kernel
theorem dX6_here_30 : decode cX6_here 30 = .ok (.iconst 1, 1) := by decide +kernel
theorem dX6_here_31 : decode cX6_here 31 = .ok (.iadd, 1) := by decide +kernel
theorem dX6_here_32 : decode cX6_here 32 = .ok (.putfield 99, 3) := by decide +kernel
theorem dX6_here_35 : decode cX6_here 35 = .ok (.goto (-35), 3) := by decide +kernel
theorem dX6_here_38 : decode cX6_here 38 = .ok (.aload_n 0, 1) := by decide +kernel
theorem dX6_here_39 : decode cX6_here 39 = .ok (.getfield 99, 3) := by decide +kernel
theorem dX6_here_42 : decode cX6_here 42 = .ok (.aload_n 0, 1) := by decide +kernel
theorem dX6_here_43 : decode cX6_here 43 = .ok (.getfield 26, 3) := by decide +kernel
theorem dX6_here_46 : decode cX6_here 46 = .ok (.if_icmp .ge 19, 3) := by decide +kernel
theorem dX6_here_49 : decode cX6_here 49 = .ok (.aload_n 0, 1) := by decide +kernel
theorem dX6_here_50 : decode cX6_here 50 = .ok (.getfield 22, 3) := by decide +kernel
theorem dX6_here_53 : decode cX6_here 53 = .ok (.aload_n 0, 1) := by decide +kernel
theorem dX6_here_54 : decode cX6_here 54 = .ok (.getfield 99, 3) := by decide +kernel
theorem dX6_here_57 : decode cX6_here 57 = .ok (.baload, 1) := by decide +kernel
