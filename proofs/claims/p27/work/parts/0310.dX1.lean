theorem dX1_bit_0 : decode cX1_bit 0 = .ok (.iload_n 1, 1) := by decide +kernel
theorem dX1_bit_1 : decode cX1_bit 1 = .ok (.lookupswitch 38 #[(1, 27), (2, 31)], 27) := by decide +kernel
theorem dX1_bit_28 : decode cX1_bit 28 = .ok (.iconst 1, 1) := by decide +kernel
theorem dX1_bit_29 : decode cX1_bit 29 = .ok (.iload_n 0, 1) := by decide +kernel
theorem dX1_bit_30 : decode cX1_bit 30 = .ok (.ishl, 1) := by decide +kernel
theorem dX1_bit_31 : decode cX1_bit 31 = .ok (.ireturn, 1) := by decide +kernel
theorem dX1_bit_32 : decode cX1_bit 32 = .ok (.iconst 1, 1) := by decide +kernel
theorem dX1_bit_33 : decode cX1_bit 33 = .ok (.bipush 16, 2) := by decide +kernel
theorem dX1_bit_35 : decode cX1_bit 35 = .ok (.iload_n 0, 1) := by decide +kernel
theorem dX1_bit_36 : decode cX1_bit 36 = .ok (.iadd, 1) := by decide +kernel
theorem dX1_bit_37 : decode cX1_bit 37 = .ok (.ishl, 1) := by decide +kernel
theorem dX1_bit_38 : decode cX1_bit 38 = .ok (.ireturn, 1) := by decide +kernel
theorem dX1_bit_39 : decode cX1_bit 39 = .ok (.iconst 0, 1) := by decide +kernel
theorem dX1_bit_40 : decode cX1_bit 40 = .ok (.ireturn, 1) := by decide +kernel
theorem dX1_howOf_0 : decode cX1_howOf 0 = .ok (.iload_n 0, 1) := by decide +kernel
theorem dX1_howOf_1 : decode cX1_howOf 1 = .ok (.iload_n 1, 1) := by decide +kernel
theorem dX1_howOf_2 : decode cX1_howOf 2 = .ok (.iconst 1, 1) := by decide +kernel
theorem dX1_howOf_3 : decode cX1_howOf 3 = .ok (.invokestatic 9, 3) := by decide +kernel
theorem dX1_howOf_6 : decode cX1_howOf 6 = .ok (.iand, 1) := by decide +kernel
theorem dX1_howOf_7 : decode cX1_howOf 7 = .ok (.ifCond .eq 5, 3) := by decide +kernel
theorem dX1_howOf_10 : decode cX1_howOf 10 = .ok (.iconst 1, 1) := by decide +kernel
theorem dX1_howOf_11 : decode cX1_howOf 11 = .ok (.ireturn, 1) := by decide +kernel
theorem dX1_howOf_12 : decode cX1_howOf 12 = .ok (.iload_n 0, 1) := by decide +kernel
theorem dX1_howOf_13 : decode cX1_howOf 13 = .ok (.iload_n 1, 1) := by decide +kernel
theorem dX1_howOf_14 : decode cX1_howOf 14 = .ok (.iconst 2, 1) := by decide +kernel
theorem dX1_howOf_15 : decode cX1_howOf 15 = .ok (.invokestatic 9, 3) := by decide +kernel
theorem dX1_howOf_18 : decode cX1_howOf 18 = .ok (.iand, 1) := by decide +kernel
theorem dX1_howOf_19 : decode cX1_howOf 19 = .ok (.ifCond .eq 7, 3) := by decide +kernel
theorem dX1_howOf_22 : decode cX1_howOf 22 = .ok (.iconst 2, 1) := by decide +kernel
theorem dX1_howOf_23 : decode cX1_howOf 23 = .ok (.goto 4, 3) := by decide +kernel
theorem dX1_howOf_26 : decode cX1_howOf 26 = .ok (.iconst 0, 1) := by decide +kernel
theorem dX1_howOf_27 : decode cX1_howOf 27 = .ok (.ireturn, 1) := by decide +kernel
theorem dX1_with_0 : decode cX1_with 0 = .ok (.iload_n 0, 1) := by decide +kernel
theorem dX1_with_1 : decode cX1_with 1 = .ok (.iload_n 1, 1) := by decide +kernel
theorem dX1_with_2 : decode cX1_with 2 = .ok (.iconst 1, 1) := by decide +kernel
theorem dX1_with_3 : decode cX1_with 3 = .ok (.invokestatic 9, 3) := by decide +kernel
theorem dX1_with_6 : decode cX1_with 6 = .ok (.iload_n 1, 1) := by decide +kernel
theorem dX1_with_7 : decode cX1_with 7 = .ok (.iconst 2, 1) := by decide +kernel
theorem dX1_with_8 : decode cX1_with 8 = .ok (.invokestatic 9, 3) := by decide +kernel
theorem dX1_with_11 : decode cX1_with 11 = .ok (.ior, 1) := by decide +kernel
theorem dX1_with_12 : decode cX1_with 12 = .ok (.iconst (-1), 1) := by decide +kernel
theorem dX1_with_13 : decode cX1_with 13 = .ok (.ixor, 1) := by decide +kernel
theorem dX1_with_14 : decode cX1_with 14 = .ok (.iand, 1) := by decide +kernel
theorem dX1_with_15 : decode cX1_with 15 = .ok (.istore_n 3, 1) := by decide +kernel
theorem dX1_with_16 : decode cX1_with 16 = .ok (.iload_n 3, 1) := by decide +kernel
theorem dX1_with_17 : decode cX1_with 17 = .ok (.iload_n 1, 1) := by decide +kernel
theorem dX1_with_18 : decode cX1_with 18 = .ok (.iload_n 2, 1) := by decide +kernel
theorem dX1_with_19 : decode cX1_with 19 = .ok (.invokestatic 9, 3) := by decide +kernel
theorem dX1_with_22 : decode cX1_with 22 = .ok (.ior, 1) := by decide +kernel
theorem dX1_with_23 : decode cX1_with 23 = .ok (.ireturn, 1) := by decide +kernel
theorem dX2_init_0 : decode cX2_init 0 = .ok (.aload_n 0, 1) := by decide +kernel
theorem dX2_init_1 : decode cX2_init 1 = .ok (.invokespecial 3, 3) := by decide +kernel
theorem dX2_init_4 : decode cX2_init 4 = .ok (.aload_n 0, 1) := by decide +kernel
theorem dX2_init_5 : decode cX2_init 5 = .ok (.bipush 6, 2) := by decide +kernel
theorem dX2_init_7 : decode cX2_init 7 = .ok (.newarray .int, 2) := by decide +kernel
theorem dX2_init_9 : decode cX2_init 9 = .ok (.putfield 9, 3) := by decide +kernel
theorem dX2_init_12 : decode cX2_init 12 = .ok (.return_, 1) := by decide +kernel
theorem dX3_init_0 : decode cX3_init 0 = .ok (.aload_n 0, 1) := by decide +kernel
theorem dX3_init_1 : decode cX3_init 1 = .ok (.invokespecial 3, 3) := by decide +kernel
theorem dX3_init_4 : decode cX3_init 4 = .ok (.aload_n 0, 1) := by decide +kernel
theorem dX3_init_5 : decode cX3_init 5 = .ok (.bipush 6, 2) := by decide +kernel
theorem dX3_init_7 : decode cX3_init 7 = .ok (.anewarray 9, 3) := by decide +kernel
theorem dX3_init_10 : decode cX3_init 10 = .ok (.putfield 11, 3) := by decide +kernel
theorem dX3_init_13 : decode cX3_init 13 = .ok (.iconst 0, 1) := by decide +kernel
theorem dX3_init_14 : decode cX3_init 14 = .ok (.istore_n 1, 1) := by decide +kernel
theorem dX3_init_15 : decode cX3_init 15 = .ok (.iload_n 1, 1) := by decide +kernel
theorem dX3_init_16 : decode cX3_init 16 = .ok (.aload_n 0, 1) := by decide +kernel
theorem dX3_init_17 : decode cX3_init 17 = .ok (.getfield 11, 3) := by decide +kernel
theorem dX3_init_20 : decode cX3_init 20 = .ok (.arraylength, 1) := by decide +kernel
theorem dX3_init_21 : decode cX3_init 21 = .ok (.if_icmp .ge 22, 3) := by decide +kernel
theorem dX3_init_24 : decode cX3_init 24 = .ok (.aload_n 0, 1) := by decide +kernel
theorem dX3_init_25 : decode cX3_init 25 = .ok (.getfield 11, 3) := by decide +kernel
theorem dX3_init_28 : decode cX3_init 28 = .ok (.iload_n 1, 1) := by decide +kernel
theorem dX3_init_29 : decode cX3_init 29 = .ok (.new 9, 3) := by decide +kernel
theorem dX3_init_32 : decode cX3_init 32 = .ok (.dup, 1) := by decide +kernel
theorem dX3_init_33 : decode cX3_init 33 = .ok (.invokespecial 17, 3) := by decide +kernel
theorem dX3_init_36 : decode cX3_init 36 = .ok (.aastore, 1) := by decide +kernel
theorem dX3_init_37 : decode cX3_init 37 = .ok (.iinc 1 1, 3) := by decide +kernel
theorem dX3_init_40 : decode cX3_init 40 = .ok (.goto (-25), 3) := by decide +kernel
theorem dX3_init_43 : decode cX3_init 43 = .ok (.return_, 1) := by decide +kernel
theorem dX3_bankAt_0 : decode cX3_bankAt 0 = .ok (.aload_n 0, 1) := by decide +kernel
theorem dX3_bankAt_1 : decode cX3_bankAt 1 = .ok (.getfield 18, 3) := by decide +kernel
theorem dX3_bankAt_4 : decode cX3_bankAt 4 = .ok (.iload_n 1, 1) := by decide +kernel
theorem dX3_bankAt_5 : decode cX3_bankAt 5 = .ok (.iadd, 1) := by decide +kernel
theorem dX3_bankAt_6 : decode cX3_bankAt 6 = .ok (.bipush 6, 2) := by decide +kernel
theorem dX3_bankAt_8 : decode cX3_bankAt 8 = .ok (.invokestatic 22, 3) := by decide +kernel
theorem dX3_bankAt_11 : decode cX3_bankAt 11 = .ok (.istore_n 2, 1) := by decide +kernel
theorem dX3_bankAt_12 : decode cX3_bankAt 12 = .ok (.iload_n 2, 1) := by decide +kernel
theorem dX3_bankAt_13 : decode cX3_bankAt 13 = .ok (.aload_n 0, 1) := by decide +kernel
theorem dX3_bankAt_14 : decode cX3_bankAt 14 = .ok (.getfield 11, 3) := by decide +kernel
theorem dX3_bankAt_17 : decode cX3_bankAt 17 = .ok (.arraylength, 1) := by decide +kernel
theorem dX3_bankAt_18 : decode cX3_bankAt 18 = .ok (.if_icmp .ge 12, 3) := by decide +kernel
theorem dX3_bankAt_21 : decode cX3_bankAt 21 = .ok (.aload_n 0, 1) := by decide +kernel
theorem dX3_bankAt_22 : decode cX3_bankAt 22 = .ok (.getfield 11, 3) := by decide +kernel
theorem dX3_bankAt_25 : decode cX3_bankAt 25 = .ok (.iload_n 2, 1) := by decide +kernel
theorem dX3_bankAt_26 : decode cX3_bankAt 26 = .ok (.aaload, 1) := by decide +kernel
theorem dX3_bankAt_27 : decode cX3_bankAt 27 = .ok (.goto 4, 3) := by decide +kernel
theorem dX3_bankAt_30 : decode cX3_bankAt 30 = .ok (.aconst_null, 1) := by decide +kernel
theorem dX3_bankAt_31 : decode cX3_bankAt 31 = .ok (.areturn, 1) := by decide +kernel
theorem dX3_save_0 : decode cX3_save 0 = .ok (.aload_n 0, 1) := by decide +kernel
theorem dX3_save_1 : decode cX3_save 1 = .ok (.getfield 28, 3) := by decide +kernel
theorem dX3_save_4 : decode cX3_save 4 = .ok (.bipush 6, 2) := by decide +kernel
theorem dX3_save_6 : decode cX3_save 6 = .ok (.if_icmp .ne 28, 3) := by decide +kernel
theorem dX3_save_9 : decode cX3_save 9 = .ok (.aload_n 0, 1) := by decide +kernel
theorem dX3_save_10 : decode cX3_save 10 = .ok (.aload_n 0, 1) := by decide +kernel
theorem dX3_save_11 : decode cX3_save 11 = .ok (.getfield 18, 3) := by decide +kernel
theorem dX3_save_14 : decode cX3_save 14 = .ok (.iconst 1, 1) := by decide +kernel
theorem dX3_save_15 : decode cX3_save 15 = .ok (.iadd, 1) := by decide +kernel
theorem dX3_save_16 : decode cX3_save 16 = .ok (.bipush 6, 2) := by decide +kernel
theorem dX3_save_18 : decode cX3_save 18 = .ok (.invokestatic 22, 3) := by decide +kernel
theorem dX3_save_21 : decode cX3_save 21 = .ok (.putfield 18, 3) := by decide +kernel
theorem dX3_save_24 : decode cX3_save 24 = .ok (.aload_n 0, 1) := by decide +kernel
theorem dX3_save_25 : decode cX3_save 25 = .ok (.dup, 1) := by decide +kernel
theorem dX3_save_26 : decode cX3_save 26 = .ok (.getfield 28, 3) := by decide +kernel
theorem dX3_save_29 : decode cX3_save 29 = .ok (.iconst 1, 1) := by decide +kernel
theorem dX3_save_30 : decode cX3_save 30 = .ok (.isub, 1) := by decide +kernel
theorem dX3_save_31 : decode cX3_save 31 = .ok (.putfield 28, 3) := by decide +kernel
theorem dX3_save_34 : decode cX3_save 34 = .ok (.aload_n 0, 1) := by decide +kernel
theorem dX3_save_35 : decode cX3_save 35 = .ok (.aload_n 0, 1) := by decide +kernel
theorem dX3_save_36 : decode cX3_save 36 = .ok (.getfield 28, 3) := by decide +kernel
theorem dX3_save_39 : decode cX3_save 39 = .ok (.invokevirtual 31, 3) := by decide +kernel
theorem dX3_save_42 : decode cX3_save 42 = .ok (.astore_n 2, 1) := by decide +kernel
theorem dX3_save_43 : decode cX3_save 43 = .ok (.aload_n 2, 1) := by decide +kernel
theorem dX3_save_44 : decode cX3_save 44 = .ok (.ifnull 18, 3) := by decide +kernel
theorem dX3_save_47 : decode cX3_save 47 = .ok (.aload_n 2, 1) := by decide +kernel
theorem dX3_save_48 : decode cX3_save 48 = .ok (.aload_n 1, 1) := by decide +kernel
theorem dX3_save_49 : decode cX3_save 49 = .ok (.invokevirtual 35, 3) := by decide +kernel
theorem dX3_save_52 : decode cX3_save 52 = .ok (.aload_n 0, 1) := by decide +kernel
theorem dX3_save_53 : decode cX3_save 53 = .ok (.dup, 1) := by decide +kernel
theorem dX3_save_54 : decode cX3_save 54 = .ok (.getfield 28, 3) := by decide +kernel
theorem dX3_save_57 : decode cX3_save 57 = .ok (.iconst 1, 1) := by decide +kernel
theorem dX3_save_58 : decode cX3_save 58 = .ok (.iadd, 1) := by decide +kernel
theorem dX3_save_59 : decode cX3_save 59 = .ok (.putfield 28, 3) := by decide +kernel
theorem dX3_save_62 : decode cX3_save 62 = .ok (.return_, 1) := by decide +kernel
theorem dX3_restore_0 : decode cX3_restore 0 = .ok (.aload_n 0, 1) := by decide +kernel
theorem dX3_restore_1 : decode cX3_restore 1 = .ok (.getfield 28, 3) := by decide +kernel
theorem dX3_restore_4 : decode cX3_restore 4 = .ok (.ifCond .le 16, 3) := by decide +kernel
theorem dX3_restore_7 : decode cX3_restore 7 = .ok (.aload_n 0, 1) := by decide +kernel
theorem dX3_restore_8 : decode cX3_restore 8 = .ok (.aload_n 0, 1) := by decide +kernel
theorem dX3_restore_9 : decode cX3_restore 9 = .ok (.getfield 28, 3) := by decide +kernel
theorem dX3_restore_12 : decode cX3_restore 12 = .ok (.iconst 1, 1) := by decide +kernel
theorem dX3_restore_13 : decode cX3_restore 13 = .ok (.isub, 1) := by decide +kernel
theorem dX3_restore_14 : decode cX3_restore 14 = .ok (.invokevirtual 31, 3) := by decide +kernel
theorem dX3_restore_17 : decode cX3_restore 17 = .ok (.goto 4, 3) := by decide +kernel
theorem dX3_restore_20 : decode cX3_restore 20 = .ok (.aconst_null, 1) := by decide +kernel
theorem dX3_restore_21 : decode cX3_restore 21 = .ok (.astore_n 2, 1) := by decide +kernel
theorem dX3_restore_22 : decode cX3_restore 22 = .ok (.aload_n 2, 1) := by decide +kernel
theorem dX3_restore_23 : decode cX3_restore 23 = .ok (.ifnonnull 5, 3) := by decide +kernel
theorem dX3_restore_26 : decode cX3_restore 26 = .ok (.iconst 0, 1) := by decide +kernel
theorem dX3_restore_27 : decode cX3_restore 27 = .ok (.ireturn, 1) := by decide +kernel
theorem dX3_restore_28 : decode cX3_restore 28 = .ok (.aload_n 1, 1) := by decide +kernel
theorem dX3_restore_29 : decode cX3_restore 29 = .ok (.aload_n 2, 1) := by decide +kernel
theorem dX3_restore_30 : decode cX3_restore 30 = .ok (.invokevirtual 35, 3) := by decide +kernel
theorem dX3_restore_33 : decode cX3_restore 33 = .ok (.aload_n 0, 1) := by decide +kernel
theorem dX3_restore_34 : decode cX3_restore 34 = .ok (.dup, 1) := by decide +kernel
theorem dX3_restore_35 : decode cX3_restore 35 = .ok (.getfield 28, 3) := by decide +kernel
theorem dX3_restore_38 : decode cX3_restore 38 = .ok (.iconst 1, 1) := by decide +kernel
theorem dX3_restore_39 : decode cX3_restore 39 = .ok (.isub, 1) := by decide +kernel
theorem dX3_restore_40 : decode cX3_restore 40 = .ok (.putfield 28, 3) := by decide +kernel
theorem dX3_restore_43 : decode cX3_restore 43 = .ok (.iconst 1, 1) := by decide +kernel
theorem dX3_restore_44 : decode cX3_restore 44 = .ok (.ireturn, 1) := by decide +kernel
theorem dX4_init_0 : decode cX4_init 0 = .ok (.aload_n 0, 1) := by decide +kernel
theorem dX4_init_1 : decode cX4_init 1 = .ok (.invokespecial 3, 3) := by decide +kernel
theorem dX4_init_4 : decode cX4_init 4 = .ok (.aload_n 0, 1) := by decide +kernel
theorem dX4_init_5 : decode cX4_init 5 = .ok (.bipush 60, 2) := by decide +kernel
theorem dX4_init_7 : decode cX4_init 7 = .ok (.newarray .char, 2) := by decide +kernel
theorem dX4_init_9 : decode cX4_init 9 = .ok (.putfield 9, 3) := by decide +kernel
theorem dX4_init_12 : decode cX4_init 12 = .ok (.return_, 1) := by decide +kernel
theorem dJ9_floorMod_7cf53_0 : decode cJ9_floorMod_7cf53 0 = .ok (.iload_n 0, 1) := by decide +kernel
theorem dJ9_floorMod_7cf53_1 : decode cJ9_floorMod_7cf53 1 = .ok (.iload_n 1, 1) := by decide +kernel
theorem dJ9_floorMod_7cf53_2 : decode cJ9_floorMod_7cf53 2 = .ok (.irem, 1) := by decide +kernel
theorem dJ9_floorMod_7cf53_3 : decode cJ9_floorMod_7cf53 3 = .ok (.istore_n 2, 1) := by decide +kernel
theorem dJ9_floorMod_7cf53_4 : decode cJ9_floorMod_7cf53 4 = .ok (.iload_n 0, 1) := by decide +kernel
theorem dJ9_floorMod_7cf53_5 : decode cJ9_floorMod_7cf53 5 = .ok (.iload_n 1, 1) := by decide +kernel
theorem dJ9_floorMod_7cf53_6 : decode cJ9_floorMod_7cf53 6 = .ok (.ixor, 1) := by decide +kernel
theorem dJ9_floorMod_7cf53_7 : decode cJ9_floorMod_7cf53 7 = .ok (.ifCond .ge 11, 3) := by decide +kernel
theorem dJ9_floorMod_7cf53_10 : decode cJ9_floorMod_7cf53 10 = .ok (.iload_n 2, 1) := by decide +kernel
theorem dJ9_floorMod_7cf53_11 : decode cJ9_floorMod_7cf53 11 = .ok (.ifCond .eq 7, 3) := by decide +kernel
theorem dJ9_floorMod_7cf53_14 : decode cJ9_floorMod_7cf53 14 = .ok (.iload_n 2, 1) := by decide +kernel
theorem dJ9_floorMod_7cf53_15 : decode cJ9_floorMod_7cf53 15 = .ok (.iload_n 1, 1) := by decide +kernel
theorem dJ9_floorMod_7cf53_16 : decode cJ9_floorMod_7cf53 16 = .ok (.iadd, 1) := by decide +kernel
theorem dJ9_floorMod_7cf53_17 : decode cJ9_floorMod_7cf53 17 = .ok (.ireturn, 1) := by decide +kernel
theorem dJ9_floorMod_7cf53_18 : decode cJ9_floorMod_7cf53 18 = .ok (.iload_n 2, 1) := by decide +kernel
theorem dJ9_floorMod_7cf53_19 : decode cJ9_floorMod_7cf53 19 = .ok (.ireturn, 1) := by decide +kernel
