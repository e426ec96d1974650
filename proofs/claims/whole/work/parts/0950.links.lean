theorem clk_L_7 : Cond.classLink RL 7 RX5 ∈ wsL_law := List.mem_of_getElem? (i := 0) (by decide +kernel)
theorem clk_L_10 : Cond.classLink RL 10 RX6 ∈ wsL_law := List.mem_of_getElem? (i := 3) (by decide +kernel)
theorem lk_L_9 : Cond.methodLink RL 9 yX5_init ∈ wsL_law := List.mem_of_getElem? (i := 6) (by decide +kernel)
theorem lk_X5_3 : Cond.methodLink RX5 3 objectInit ∈ wsL_law := List.mem_of_getElem? (i := 9) (by decide +kernel)
theorem clk_X5_9 : Cond.classLink RX5 9 RX0 ∈ wsL_law := List.mem_of_getElem? (i := 12) (by decide +kernel)
theorem fk_X5_12 : FLK RX5 12 4 0 true (.object "RelayBank$Bank") := ⟨RX5, TX5, 6, tyX5, rfl, inlX5, by decide, List.mem_of_getElem? (i := 15) (by decide +kernel), tyX5_ok, nmX5, rfl, tyX5_ok 0 (by decide), rfl⟩
theorem clk_X5_16 : Cond.classLink RX5 16 RX3 ∈ wsL_law := List.mem_of_getElem? (i := 16) (by decide +kernel)
theorem fk_X5_19 : FLK RX5 19 4 1 true (.object "RelayBank$Past") := ⟨RX5, TX5, 6, tyX5, rfl, inlX5, by decide, List.mem_of_getElem? (i := 19) (by decide +kernel), tyX5_ok, nmX5, rfl, tyX5_ok 1 (by decide), rfl⟩
theorem clk_X5_23 : Cond.classLink RX5 23 RX4 ∈ wsL_law := List.mem_of_getElem? (i := 20) (by decide +kernel)
theorem fk_X5_26 : FLK RX5 26 4 2 true (.object "RelayBank$Text") := ⟨RX5, TX5, 6, tyX5, rfl, inlX5, by decide, List.mem_of_getElem? (i := 23) (by decide +kernel), tyX5_ok, nmX5, rfl, tyX5_ok 2 (by decide), rfl⟩
theorem clk_X5_30 : Cond.classLink RX5 30 RX2 ∈ wsL_law := List.mem_of_getElem? (i := 24) (by decide +kernel)
theorem fk_X5_33 : FLK RX5 33 4 3 true (.object "RelayBank$CircuitReader") := ⟨RX5, TX5, 6, tyX5, rfl, inlX5, by decide, List.mem_of_getElem? (i := 27) (by decide +kernel), tyX5_ok, nmX5, rfl, tyX5_ok 3 (by decide), rfl⟩
theorem fk_X5_37 : FLK RX5 37 4 4 true (.object "RelayBank$Bank") := ⟨RX5, TX5, 6, tyX5, rfl, inlX5, by decide, List.mem_of_getElem? (i := 28) (by decide +kernel), tyX5_ok, nmX5, rfl, tyX5_ok 4 (by decide), rfl⟩
theorem fk_X5_40 : FLK RX5 40 4 5 true (.object "RelayBank$Bank") := ⟨RX5, TX5, 6, tyX5, rfl, inlX5, by decide, List.mem_of_getElem? (i := 29) (by decide +kernel), tyX5_ok, nmX5, rfl, tyX5_ok 5 (by decide), rfl⟩
theorem lk_X5_11 : Cond.methodLink RX5 11 yX0_init ∈ wsL_law := List.mem_of_getElem? (i := 30) (by decide +kernel)
theorem lk_X0_3 : Cond.methodLink RX0 3 objectInit ∈ wsL_law := List.mem_of_getElem? (i := 33) (by decide +kernel)
theorem fk_X0_9 : FLK RX0 9 0 0 true (.array .int) := ⟨RX0, TX0, 15, tyX0, rfl, inlX0, by decide, List.mem_of_getElem? (i := 35) (by decide +kernel), tyX0_ok, nmX0, rfl, tyX0_ok 0 (by decide), rfl⟩
theorem fk_X0_15 : FLK RX0 15 0 1 true (.array .int) := ⟨RX0, TX0, 15, tyX0, rfl, inlX0, by decide, List.mem_of_getElem? (i := 36) (by decide +kernel), tyX0_ok, nmX0, rfl, tyX0_ok 1 (by decide), rfl⟩
theorem fk_X0_18 : FLK RX0 18 0 2 true (.array .int) := ⟨RX0, TX0, 15, tyX0, rfl, inlX0, by decide, List.mem_of_getElem? (i := 37) (by decide +kernel), tyX0_ok, nmX0, rfl, tyX0_ok 2 (by decide), rfl⟩
theorem fk_X0_21 : FLK RX0 21 0 3 true (.array .int) := ⟨RX0, TX0, 15, tyX0, rfl, inlX0, by decide, List.mem_of_getElem? (i := 38) (by decide +kernel), tyX0_ok, nmX0, rfl, tyX0_ok 3 (by decide), rfl⟩
theorem fk_X0_24 : FLK RX0 24 0 4 true (.array .int) := ⟨RX0, TX0, 15, tyX0, rfl, inlX0, by decide, List.mem_of_getElem? (i := 39) (by decide +kernel), tyX0_ok, nmX0, rfl, tyX0_ok 4 (by decide), rfl⟩
theorem fk_X0_27 : FLK RX0 27 0 5 true (.array .int) := ⟨RX0, TX0, 15, tyX0, rfl, inlX0, by decide, List.mem_of_getElem? (i := 40) (by decide +kernel), tyX0_ok, nmX0, rfl, tyX0_ok 5 (by decide), rfl⟩
theorem ck_X0_30 : Cond.constant RX0 30 (2147483647) ∈ wsL_law := List.mem_of_getElem? (i := 41) (by decide +kernel)
theorem lk_X5_18 : Cond.methodLink RX5 18 yX3_init ∈ wsL_law := List.mem_of_getElem? (i := 42) (by decide +kernel)
theorem lk_X3_3 : Cond.methodLink RX3 3 objectInit ∈ wsL_law := List.mem_of_getElem? (i := 45) (by decide +kernel)
theorem clk_X3_9 : Cond.classLink RX3 9 RX0 ∈ wsL_law := List.mem_of_getElem? (i := 46) (by decide +kernel)
theorem fk_X3_11 : FLK RX3 11 2 0 true (.array (.object "RelayBank$Bank")) := ⟨RX3, TX3, 3, tyX3, rfl, inlX3, by decide, List.mem_of_getElem? (i := 47) (by decide +kernel), tyX3_ok, nmX3, rfl, tyX3_ok 0 (by decide), rfl⟩
theorem lk_X3_17 : Cond.methodLink RX3 17 yX0_init ∈ wsL_law := List.mem_of_getElem? (i := 48) (by decide +kernel)
theorem lk_X4_3 : Cond.methodLink RX4 3 objectInit ∈ wsL_law := List.mem_of_getElem? (i := 51) (by decide +kernel)
theorem fk_X4_9 : FLK RX4 9 3 0 true (.array .char) := ⟨RX4, TX4, 2, tyX4, rfl, inlX4, by decide, List.mem_of_getElem? (i := 53) (by decide +kernel), tyX4_ok, nmX4, rfl, tyX4_ok 0 (by decide), rfl⟩
theorem lk_X2_3 : Cond.methodLink RX2 3 objectInit ∈ wsL_law := List.mem_of_getElem? (i := 56) (by decide +kernel)
theorem fk_X2_9 : FLK RX2 9 1 0 true (.array .int) := ⟨RX2, TX2, 4, tyX2, rfl, inlX2, by decide, List.mem_of_getElem? (i := 57) (by decide +kernel), tyX2_ok, nmX2, rfl, tyX2_ok 0 (by decide), rfl⟩
theorem lk_L_12 : Cond.methodLink RL 12 yX6_init ∈ wsL_law := List.mem_of_getElem? (i := 58) (by decide +kernel)
theorem lk_X6_1 : Cond.methodLink RX6 1 objectInit ∈ wsL_law := List.mem_of_getElem? (i := 61) (by decide +kernel)
theorem fk_X6_7 : FLK RX6 7 5 0 true (.array .int) := ⟨RX6, TX6, 9, tyX6, rfl, inlX6, by decide, List.mem_of_getElem? (i := 62) (by decide +kernel), tyX6_ok, nmX6, rfl, tyX6_ok 0 (by decide), rfl⟩
theorem fk_X6_13 : FLK RX6 13 5 1 true (.array .int) := ⟨RX6, TX6, 9, tyX6, rfl, inlX6, by decide, List.mem_of_getElem? (i := 63) (by decide +kernel), tyX6_ok, nmX6, rfl, tyX6_ok 1 (by decide), rfl⟩
theorem fk_X6_16 : FLK RX6 16 5 3 true (.array .int) := ⟨RX6, TX6, 9, tyX6, rfl, inlX6, by decide, List.mem_of_getElem? (i := 64) (by decide +kernel), tyX6_ok, nmX6, rfl, tyX6_ok 3 (by decide), rfl⟩
theorem fk_X6_19 : FLK RX6 19 5 4 true (.array .int) := ⟨RX6, TX6, 9, tyX6, rfl, inlX6, by decide, List.mem_of_getElem? (i := 65) (by decide +kernel), tyX6_ok, nmX6, rfl, tyX6_ok 4 (by decide), rfl⟩
theorem fk_X6_22 : FLK RX6 22 5 5 true (.array .byte) := ⟨RX6, TX6, 9, tyX6, rfl, inlX6, by decide, List.mem_of_getElem? (i := 67) (by decide +kernel), tyX6_ok, nmX6, rfl, tyX6_ok 5 (by decide), rfl⟩
theorem fk_X6_26 : FLK RX6 26 5 6 false .int := ⟨RX6, TX6, 9, tyX6, rfl, inlX6, by decide, List.mem_of_getElem? (i := 68) (by decide +kernel), tyX6_ok, nmX6, rfl, tyX6_ok 6 (by decide), rfl⟩
theorem lk_L_13 : Cond.methodLink RL 13 yX5_addRelay ∈ wsL_law := List.mem_of_getElem? (i := 69) (by decide +kernel)
theorem lk_X5_43 : Cond.methodLink RX5 43 yX5_areDelays ∈ wsL_law := List.mem_of_getElem? (i := 73) (by decide +kernel)
theorem lk_X5_71 : Cond.methodLink RX5 71 yX5_isWithin ∈ wsL_law := List.mem_of_getElem? (i := 76) (by decide +kernel)
theorem lk_X5_51 : Cond.methodLink RX5 51 yX3_save ∈ wsL_law := List.mem_of_getElem? (i := 79) (by decide +kernel)
theorem fk_X3_28 : FLK RX3 28 2 2 false .int := ⟨RX3, TX3, 3, tyX3, rfl, inlX3, by decide, List.mem_of_getElem? (i := 83) (by decide +kernel), tyX3_ok, nmX3, rfl, tyX3_ok 2 (by decide), rfl⟩
theorem fk_X3_18 : FLK RX3 18 2 1 false .int := ⟨RX3, TX3, 3, tyX3, rfl, inlX3, by decide, List.mem_of_getElem? (i := 84) (by decide +kernel), tyX3_ok, nmX3, rfl, tyX3_ok 1 (by decide), rfl⟩
theorem lk_X3_22 : Cond.methodLink RX3 22 yJ9_floorMod_7cf53 ∈ wsL_law := List.mem_of_getElem? (i := 85) (by decide +kernel)
theorem lk_X3_31 : Cond.methodLink RX3 31 yX3_bankAt ∈ wsL_law := List.mem_of_getElem? (i := 89) (by decide +kernel)
theorem lk_X3_35 : Cond.methodLink RX3 35 yX0_copy ∈ wsL_law := List.mem_of_getElem? (i := 93) (by decide +kernel)
theorem lk_X0_31 : Cond.methodLink RX0 31 arraycopyName ∈ wsL_law := List.mem_of_getElem? (i := 97) (by decide +kernel)
theorem fk_X0_37 : FLK RX0 37 0 6 false .int := ⟨RX0, TX0, 15, tyX0, rfl, inlX0, by decide, List.mem_of_getElem? (i := 101) (by decide +kernel), tyX0_ok, nmX0, rfl, tyX0_ok 6 (by decide), rfl⟩
theorem fk_X0_41 : FLK RX0 41 0 7 false .int := ⟨RX0, TX0, 15, tyX0, rfl, inlX0, by decide, List.mem_of_getElem? (i := 102) (by decide +kernel), tyX0_ok, nmX0, rfl, tyX0_ok 7 (by decide), rfl⟩
theorem fk_X0_44 : FLK RX0 44 0 8 false .int := ⟨RX0, TX0, 15, tyX0, rfl, inlX0, by decide, List.mem_of_getElem? (i := 103) (by decide +kernel), tyX0_ok, nmX0, rfl, tyX0_ok 8 (by decide), rfl⟩
theorem fk_X0_47 : FLK RX0 47 0 9 false .int := ⟨RX0, TX0, 15, tyX0, rfl, inlX0, by decide, List.mem_of_getElem? (i := 104) (by decide +kernel), tyX0_ok, nmX0, rfl, tyX0_ok 9 (by decide), rfl⟩
theorem fk_X0_50 : FLK RX0 50 0 10 false .int := ⟨RX0, TX0, 15, tyX0, rfl, inlX0, by decide, List.mem_of_getElem? (i := 105) (by decide +kernel), tyX0_ok, nmX0, rfl, tyX0_ok 10 (by decide), rfl⟩
theorem fk_X0_53 : FLK RX0 53 0 11 false .int := ⟨RX0, TX0, 15, tyX0, rfl, inlX0, by decide, List.mem_of_getElem? (i := 106) (by decide +kernel), tyX0_ok, nmX0, rfl, tyX0_ok 11 (by decide), rfl⟩
theorem fk_X0_56 : FLK RX0 56 0 12 false .int := ⟨RX0, TX0, 15, tyX0, rfl, inlX0, by decide, List.mem_of_getElem? (i := 107) (by decide +kernel), tyX0_ok, nmX0, rfl, tyX0_ok 12 (by decide), rfl⟩
theorem fk_X0_59 : FLK RX0 59 0 13 false .int := ⟨RX0, TX0, 15, tyX0, rfl, inlX0, by decide, List.mem_of_getElem? (i := 108) (by decide +kernel), tyX0_ok, nmX0, rfl, tyX0_ok 13 (by decide), rfl⟩
theorem fk_X0_62 : FLK RX0 62 0 14 false .int := ⟨RX0, TX0, 15, tyX0, rfl, inlX0, by decide, List.mem_of_getElem? (i := 109) (by decide +kernel), tyX0_ok, nmX0, rfl, tyX0_ok 14 (by decide), rfl⟩
theorem lk_X5_55 : Cond.methodLink RX5 55 yX0_add ∈ wsL_law := List.mem_of_getElem? (i := 110) (by decide +kernel)
theorem lk_X0_69 : Cond.methodLink RX0 69 yX0_putDelays ∈ wsL_law := List.mem_of_getElem? (i := 114) (by decide +kernel)
theorem lk_L_17 : Cond.methodLink RL 17 yX6_addRelay ∈ wsL_law := List.mem_of_getElem? (i := 122) (by decide +kernel)
theorem lk_X6_33 : Cond.methodLink RX6 33 yX6_in ∈ wsL_law := List.mem_of_getElem? (i := 126) (by decide +kernel)
theorem lk_X6_79 : Cond.methodLink RX6 79 yX6_notes ∈ wsL_law := List.mem_of_getElem? (i := 129) (by decide +kernel)
theorem fk_X6_30 : FLK RX6 30 5 2 false .int := ⟨RX6, TX6, 9, tyX6, rfl, inlX6, by decide, List.mem_of_getElem? (i := 133) (by decide +kernel), tyX6_ok, nmX6, rfl, tyX6_ok 2 (by decide), rfl⟩
theorem lk_X6_49 : Cond.methodLink RX6 49 yX6_puts ∈ wsL_law := List.mem_of_getElem? (i := 134) (by decide +kernel)
theorem lk_L_18 : Cond.methodLink RL 18 yX5_setDelays ∈ wsL_law := List.mem_of_getElem? (i := 138) (by decide +kernel)
theorem lk_X5_59 : Cond.methodLink RX5 59 yX0_has ∈ wsL_law := List.mem_of_getElem? (i := 142) (by decide +kernel)
theorem lk_X5_63 : Cond.methodLink RX5 63 yX0_putDelays ∈ wsL_law := List.mem_of_getElem? (i := 146) (by decide +kernel)
theorem lk_L_22 : Cond.methodLink RL 22 yX6_setDelays ∈ wsL_law := List.mem_of_getElem? (i := 147) (by decide +kernel)
theorem lk_X6_82 : Cond.methodLink RX6 82 yX6_isRelay ∈ wsL_law := List.mem_of_getElem? (i := 151) (by decide +kernel)
theorem lk_X6_37 : Cond.methodLink RX6 37 yX6_of ∈ wsL_law := List.mem_of_getElem? (i := 155) (by decide +kernel)
theorem lk_L_23 : Cond.methodLink RL 23 yX5_setCondition ∈ wsL_law := List.mem_of_getElem? (i := 159) (by decide +kernel)
theorem lk_X5_67 : Cond.methodLink RX5 67 yX0_branchesOf ∈ wsL_law := List.mem_of_getElem? (i := 163) (by decide +kernel)
theorem lk_X5_74 : Cond.methodLink RX5 74 yX0_putCondition ∈ wsL_law := List.mem_of_getElem? (i := 167) (by decide +kernel)
theorem lk_X0_81 : Cond.methodLink RX0 81 yX0_branchesOf ∈ wsL_law := List.mem_of_getElem? (i := 171) (by decide +kernel)
theorem lk_X0_85 : Cond.methodLink RX0 85 yX0_branchAt ∈ wsL_law := List.mem_of_getElem? (i := 172) (by decide +kernel)
theorem lk_X0_89 : Cond.methodLink RX0 89 yX1_with ∈ wsL_law := List.mem_of_getElem? (i := 176) (by decide +kernel)
theorem lk_X1_9 : Cond.methodLink RX1 9 yX1_bit ∈ wsL_law := List.mem_of_getElem? (i := 180) (by decide +kernel)
theorem lk_X0_95 : Cond.methodLink RX0 95 yX0_putBranch ∈ wsL_law := List.mem_of_getElem? (i := 183) (by decide +kernel)
theorem lk_X0_99 : Cond.methodLink RX0 99 yX0_lookAtCoils ∈ wsL_law := List.mem_of_getElem? (i := 187) (by decide +kernel)
theorem lk_X0_114 : Cond.methodLink RX0 114 yX0_failing ∈ wsL_law := List.mem_of_getElem? (i := 191) (by decide +kernel)
theorem ck_X0_113 : Cond.constant RX0 113 (65535) ∈ wsL_law := List.mem_of_getElem? (i := 195) (by decide +kernel)
theorem lk_X0_110 : Cond.methodLink RX0 110 yX0_closedContacts ∈ wsL_law := List.mem_of_getElem? (i := 196) (by decide +kernel)
theorem lk_X0_117 : Cond.methodLink RX0 117 yX0_conducts ∈ wsL_law := List.mem_of_getElem? (i := 200) (by decide +kernel)
theorem lk_X0_120 : Cond.methodLink RX0 120 yX0_turnCoil ∈ wsL_law := List.mem_of_getElem? (i := 206) (by decide +kernel)
theorem lk_X0_103 : Cond.methodLink RX0 103 yX1_howOf ∈ wsL_law := List.mem_of_getElem? (i := 210) (by decide +kernel)
theorem lk_L_26 : Cond.methodLink RL 26 yX6_setCondition ∈ wsL_law := List.mem_of_getElem? (i := 213) (by decide +kernel)
theorem fk_X6_65 : FLK RX6 65 5 7 false .int := ⟨RX6, TX6, 9, tyX6, rfl, inlX6, by decide, List.mem_of_getElem? (i := 217) (by decide +kernel), tyX6_ok, nmX6, rfl, tyX6_ok 7 (by decide), rfl⟩
theorem lk_X6_85 : Cond.methodLink RX6 85 yX6_isSubject ∈ wsL_law := List.mem_of_getElem? (i := 218) (by decide +kernel)
theorem lk_X6_88 : Cond.methodLink RX6 88 yX6_opensBranch ∈ wsL_law := List.mem_of_getElem? (i := 222) (by decide +kernel)
theorem lk_X6_91 : Cond.methodLink RX6 91 yX6_how ∈ wsL_law := List.mem_of_getElem? (i := 226) (by decide +kernel)
theorem lk_X6_95 : Cond.methodLink RX6 95 yX6_conditions ∈ wsL_law := List.mem_of_getElem? (i := 230) (by decide +kernel)
theorem lk_X6_68 : Cond.methodLink RX6 68 yX6_looks ∈ wsL_law := List.mem_of_getElem? (i := 234) (by decide +kernel)
theorem lk_X6_41 : Cond.methodLink RX6 41 yX6_closed ∈ wsL_law := List.mem_of_getElem? (i := 238) (by decide +kernel)
theorem lk_X6_45 : Cond.methodLink RX6 45 yX6_conducts ∈ wsL_law := List.mem_of_getElem? (i := 242) (by decide +kernel)
theorem lk_L_27 : Cond.methodLink RL 27 yX5_removeBranch ∈ wsL_law := List.mem_of_getElem? (i := 246) (by decide +kernel)
theorem lk_X5_78 : Cond.methodLink RX5 78 yX0_dropBranch ∈ wsL_law := List.mem_of_getElem? (i := 250) (by decide +kernel)
theorem lk_L_31 : Cond.methodLink RL 31 yX6_removeBranch ∈ wsL_law := List.mem_of_getElem? (i := 254) (by decide +kernel)
theorem lk_L_32 : Cond.methodLink RL 32 yX5_appendCharacter ∈ wsL_law := List.mem_of_getElem? (i := 258) (by decide +kernel)
theorem lk_X5_85 : Cond.methodLink RX5 85 yX4_append ∈ wsL_law := List.mem_of_getElem? (i := 262) (by decide +kernel)
theorem fk_X4_15 : FLK RX4 15 3 1 false .int := ⟨RX4, TX4, 2, tyX4, rfl, inlX4, by decide, List.mem_of_getElem? (i := 266) (by decide +kernel), tyX4_ok, nmX4, rfl, tyX4_ok 1 (by decide), rfl⟩
theorem lk_L_36 : Cond.methodLink RL 36 yX6_appendCharacter ∈ wsL_law := List.mem_of_getElem? (i := 267) (by decide +kernel)
theorem lk_L_37 : Cond.methodLink RL 37 yX5_clearText ∈ wsL_law := List.mem_of_getElem? (i := 271) (by decide +kernel)
theorem lk_L_41 : Cond.methodLink RL 41 yX6_clearText ∈ wsL_law := List.mem_of_getElem? (i := 275) (by decide +kernel)
theorem lk_L_42 : Cond.methodLink RL 42 yX5_load ∈ wsL_law := List.mem_of_getElem? (i := 279) (by decide +kernel)
theorem lk_X5_89 : Cond.methodLink RX5 89 yX2_read ∈ wsL_law := List.mem_of_getElem? (i := 283) (by decide +kernel)
theorem fk_X2_15 : FLK RX2 15 1 2 false .int := ⟨RX2, TX2, 4, tyX2, rfl, inlX2, by decide, List.mem_of_getElem? (i := 287) (by decide +kernel), tyX2_ok, nmX2, rfl, tyX2_ok 2 (by decide), rfl⟩
theorem fk_X2_19 : FLK RX2 19 1 1 false .int := ⟨RX2, TX2, 4, tyX2, rfl, inlX2, by decide, List.mem_of_getElem? (i := 288) (by decide +kernel), tyX2_ok, nmX2, rfl, tyX2_ok 1 (by decide), rfl⟩
theorem fk_X2_22 : FLK RX2 22 1 3 false .int := ⟨RX2, TX2, 4, tyX2, rfl, inlX2, by decide, List.mem_of_getElem? (i := 289) (by decide +kernel), tyX2_ok, nmX2, rfl, tyX2_ok 3 (by decide), rfl⟩
theorem lk_X2_30 : Cond.methodLink RX2 30 yX4_characterAt ∈ wsL_law := List.mem_of_getElem? (i := 290) (by decide +kernel)
theorem lk_X2_34 : Cond.methodLink RX2 34 yX2_take ∈ wsL_law := List.mem_of_getElem? (i := 294) (by decide +kernel)
theorem lk_X2_38 : Cond.methodLink RX2 38 yX2_goTo ∈ wsL_law := List.mem_of_getElem? (i := 298) (by decide +kernel)
theorem lk_X2_42 : Cond.methodLink RX2 42 yX2_beginBranch ∈ wsL_law := List.mem_of_getElem? (i := 302) (by decide +kernel)
theorem lk_X2_45 : Cond.methodLink RX2 45 yX2_beginCondition ∈ wsL_law := List.mem_of_getElem? (i := 306) (by decide +kernel)
theorem lk_X2_48 : Cond.methodLink RX2 48 yX2_takeLetter ∈ wsL_law := List.mem_of_getElem? (i := 310) (by decide +kernel)
theorem lk_X2_56 : Cond.methodLink RX2 56 yX2_subjectOf ∈ wsL_law := List.mem_of_getElem? (i := 314) (by decide +kernel)
theorem lk_X2_64 : Cond.methodLink RX2 64 yX1_howOf ∈ wsL_law := List.mem_of_getElem? (i := 318) (by decide +kernel)
theorem lk_X2_70 : Cond.methodLink RX2 70 yX1_with ∈ wsL_law := List.mem_of_getElem? (i := 319) (by decide +kernel)
theorem lk_X5_100 : Cond.methodLink RX5 100 yX0_putCircuit ∈ wsL_law := List.mem_of_getElem? (i := 320) (by decide +kernel)
theorem lk_L_45 : Cond.methodLink RL 45 yX6_load ∈ wsL_law := List.mem_of_getElem? (i := 324) (by decide +kernel)
theorem fk_X6_99 : FLK RX6 99 5 8 false .int := ⟨RX6, TX6, 9, tyX6, rfl, inlX6, by decide, List.mem_of_getElem? (i := 328) (by decide +kernel), tyX6_ok, nmX6, rfl, tyX6_ok 8 (by decide), rfl⟩
theorem lk_X6_118 : Cond.methodLink RX6 118 yX6_keeps ∈ wsL_law := List.mem_of_getElem? (i := 329) (by decide +kernel)
theorem lk_X6_121 : Cond.methodLink RX6 121 yX6_reads ∈ wsL_law := List.mem_of_getElem? (i := 333) (by decide +kernel)
theorem lk_X6_102 : Cond.methodLink RX6 102 yX6_here ∈ wsL_law := List.mem_of_getElem? (i := 337) (by decide +kernel)
theorem lk_X6_115 : Cond.methodLink RX6 115 yX6_readsBranch ∈ wsL_law := List.mem_of_getElem? (i := 341) (by decide +kernel)
theorem lk_X6_108 : Cond.methodLink RX6 108 yX6_isEnd ∈ wsL_law := List.mem_of_getElem? (i := 345) (by decide +kernel)
theorem lk_X6_112 : Cond.methodLink RX6 112 yX6_readsCondition ∈ wsL_law := List.mem_of_getElem? (i := 349) (by decide +kernel)
theorem lk_X6_105 : Cond.methodLink RX6 105 yX6_subject ∈ wsL_law := List.mem_of_getElem? (i := 353) (by decide +kernel)
theorem lk_X6_124 : Cond.methodLink RX6 124 yX6_exchanges ∈ wsL_law := List.mem_of_getElem? (i := 357) (by decide +kernel)
theorem lk_L_46 : Cond.methodLink RL 46 yX5_press ∈ wsL_law := List.mem_of_getElem? (i := 361) (by decide +kernel)
theorem lk_X5_104 : Cond.methodLink RX5 104 yX5_isKey ∈ wsL_law := List.mem_of_getElem? (i := 365) (by decide +kernel)
theorem lk_X5_110 : Cond.methodLink RX5 110 yX5_isIn ∈ wsL_law := List.mem_of_getElem? (i := 368) (by decide +kernel)
theorem lk_X5_114 : Cond.methodLink RX5 114 yX0_turnKey ∈ wsL_law := List.mem_of_getElem? (i := 369) (by decide +kernel)
theorem lk_L_49 : Cond.methodLink RL 49 yX6_press ∈ wsL_law := List.mem_of_getElem? (i := 373) (by decide +kernel)
theorem lk_L_50 : Cond.methodLink RL 50 yX5_setFault ∈ wsL_law := List.mem_of_getElem? (i := 377) (by decide +kernel)
theorem lk_X5_117 : Cond.methodLink RX5 117 yX0_faultOf ∈ wsL_law := List.mem_of_getElem? (i := 381) (by decide +kernel)
theorem lk_X5_120 : Cond.methodLink RX5 120 yX0_putFault ∈ wsL_law := List.mem_of_getElem? (i := 385) (by decide +kernel)
theorem lk_L_53 : Cond.methodLink RL 53 yX6_setFault ∈ wsL_law := List.mem_of_getElem? (i := 389) (by decide +kernel)
theorem lk_L_54 : Cond.methodLink RL 54 yX5_stick ∈ wsL_law := List.mem_of_getElem? (i := 393) (by decide +kernel)
theorem lk_X5_127 : Cond.methodLink RX5 127 yX5_bitOf ∈ wsL_law := List.mem_of_getElem? (i := 397) (by decide +kernel)
theorem lk_L_57 : Cond.methodLink RL 57 yX6_stick ∈ wsL_law := List.mem_of_getElem? (i := 400) (by decide +kernel)
theorem lk_L_58 : Cond.methodLink RL 58 yX5_step ∈ wsL_law := List.mem_of_getElem? (i := 404) (by decide +kernel)
theorem lk_X5_130 : Cond.methodLink RX5 130 yX0_nextSlot ∈ wsL_law := List.mem_of_getElem? (i := 408) (by decide +kernel)
theorem lk_X5_134 : Cond.methodLink RX5 134 yX0_kindOf ∈ wsL_law := List.mem_of_getElem? (i := 412) (by decide +kernel)
theorem lk_X0_124 : Cond.methodLink RX0 124 yX0_isBounceEnd ∈ wsL_law := List.mem_of_getElem? (i := 416) (by decide +kernel)
theorem lk_X0_128 : Cond.methodLink RX0 128 yX0_relayOf ∈ wsL_law := List.mem_of_getElem? (i := 419) (by decide +kernel)
theorem lk_X5_137 : Cond.methodLink RX5 137 yX0_happen ∈ wsL_law := List.mem_of_getElem? (i := 422) (by decide +kernel)
theorem lk_X0_138 : Cond.methodLink RX0 138 yX0_moveArmature ∈ wsL_law := List.mem_of_getElem? (i := 426) (by decide +kernel)
theorem lk_X5_141 : Cond.methodLink RX5 141 yX0_relayOf ∈ wsL_law := List.mem_of_getElem? (i := 430) (by decide +kernel)
theorem lk_L_61 : Cond.methodLink RL 61 yX6_step ∈ wsL_law := List.mem_of_getElem? (i := 431) (by decide +kernel)
theorem lk_X6_71 : Cond.methodLink RX6 71 yX6_next ∈ wsL_law := List.mem_of_getElem? (i := 435) (by decide +kernel)
theorem lk_X6_57 : Cond.methodLink RX6 57 yX6_waits ∈ wsL_law := List.mem_of_getElem? (i := 439) (by decide +kernel)
theorem lk_X6_61 : Cond.methodLink RX6 61 yX6_isAhead ∈ wsL_law := List.mem_of_getElem? (i := 443) (by decide +kernel)
theorem lk_X6_53 : Cond.methodLink RX6 53 yX6_timeOf ∈ wsL_law := List.mem_of_getElem? (i := 447) (by decide +kernel)
theorem lk_X6_75 : Cond.methodLink RX6 75 yX6_happens ∈ wsL_law := List.mem_of_getElem? (i := 451) (by decide +kernel)
theorem lk_L_62 : Cond.methodLink RL 62 yX5_settle ∈ wsL_law := List.mem_of_getElem? (i := 455) (by decide +kernel)
theorem ck_X5_144 : Cond.constant RX5 144 (2147483647) ∈ wsL_law := List.mem_of_getElem? (i := 459) (by decide +kernel)
theorem lk_X5_145 : Cond.methodLink RX5 145 yX0_run ∈ wsL_law := List.mem_of_getElem? (i := 460) (by decide +kernel)
theorem lk_X0_131 : Cond.methodLink RX0 131 yX0_nextSlot ∈ wsL_law := List.mem_of_getElem? (i := 464) (by decide +kernel)
theorem lk_X0_141 : Cond.methodLink RX0 141 yX0_happen ∈ wsL_law := List.mem_of_getElem? (i := 465) (by decide +kernel)
theorem lk_L_65 : Cond.methodLink RL 65 yX6_settle ∈ wsL_law := List.mem_of_getElem? (i := 466) (by decide +kernel)
theorem lk_X6_127 : Cond.methodLink RX6 127 yX6_settles ∈ wsL_law := List.mem_of_getElem? (i := 470) (by decide +kernel)
theorem lk_L_66 : Cond.methodLink RL 66 yX5_pass ∈ wsL_law := List.mem_of_getElem? (i := 474) (by decide +kernel)
theorem ck_X5_152 : Cond.constant RX5 152 (100000) ∈ wsL_law := List.mem_of_getElem? (i := 478) (by decide +kernel)
theorem lk_X5_153 : Cond.methodLink RX5 153 yX0_copy ∈ wsL_law := List.mem_of_getElem? (i := 479) (by decide +kernel)
theorem lk_L_69 : Cond.methodLink RL 69 yX6_pass ∈ wsL_law := List.mem_of_getElem? (i := 480) (by decide +kernel)
theorem ck_X6_131 : Cond.constant RX6 131 (100000) ∈ wsL_law := List.mem_of_getElem? (i := 484) (by decide +kernel)
theorem lk_L_70 : Cond.methodLink RL 70 yX5_count ∈ wsL_law := List.mem_of_getElem? (i := 485) (by decide +kernel)
theorem lk_X5_156 : Cond.methodLink RX5 156 yX0_waiting ∈ wsL_law := List.mem_of_getElem? (i := 489) (by decide +kernel)
theorem lk_X5_166 : Cond.methodLink RX5 166 yX0_closedContacts ∈ wsL_law := List.mem_of_getElem? (i := 493) (by decide +kernel)
theorem lk_L_73 : Cond.methodLink RL 73 yX6_count ∈ wsL_law := List.mem_of_getElem? (i := 494) (by decide +kernel)
theorem lk_X6_132 : Cond.methodLink RX6 132 yX6_set ∈ wsL_law := List.mem_of_getElem? (i := 498) (by decide +kernel)
theorem lk_L_74 : Cond.methodLink RL 74 yX5_relay ∈ wsL_law := List.mem_of_getElem? (i := 502) (by decide +kernel)
theorem lk_X5_176 : Cond.methodLink RX5 176 yX5_at ∈ wsL_law := List.mem_of_getElem? (i := 506) (by decide +kernel)
theorem lk_X5_186 : Cond.methodLink RX5 186 yX0_concerns ∈ wsL_law := List.mem_of_getElem? (i := 507) (by decide +kernel)
theorem lk_X5_189 : Cond.methodLink RX5 189 yX0_failing ∈ wsL_law := List.mem_of_getElem? (i := 511) (by decide +kernel)
theorem lk_X5_192 : Cond.methodLink RX5 192 yX0_conducts ∈ wsL_law := List.mem_of_getElem? (i := 512) (by decide +kernel)
theorem lk_L_77 : Cond.methodLink RL 77 yX6_relay ∈ wsL_law := List.mem_of_getElem? (i := 513) (by decide +kernel)
theorem lk_X6_135 : Cond.methodLink RX6 135 yX6_ofItself ∈ wsL_law := List.mem_of_getElem? (i := 517) (by decide +kernel)
theorem lk_L_78 : Cond.methodLink RL 78 yX5_condition ∈ wsL_law := List.mem_of_getElem? (i := 521) (by decide +kernel)
theorem lk_X5_195 : Cond.methodLink RX5 195 yX0_branchAt ∈ wsL_law := List.mem_of_getElem? (i := 525) (by decide +kernel)
theorem lk_X5_198 : Cond.methodLink RX5 198 yX1_howOf ∈ wsL_law := List.mem_of_getElem? (i := 526) (by decide +kernel)
theorem lk_L_81 : Cond.methodLink RL 81 yX6_condition ∈ wsL_law := List.mem_of_getElem? (i := 527) (by decide +kernel)
theorem lk_L_82 : Cond.methodLink RL 82 yX5_event ∈ wsL_law := List.mem_of_getElem? (i := 531) (by decide +kernel)
theorem lk_X5_203 : Cond.methodLink RX5 203 yX0_slotAt ∈ wsL_law := List.mem_of_getElem? (i := 535) (by decide +kernel)
theorem lk_X0_135 : Cond.methodLink RX0 135 yX0_eventsBefore ∈ wsL_law := List.mem_of_getElem? (i := 539) (by decide +kernel)
theorem lk_L_85 : Cond.methodLink RL 85 yX6_event ∈ wsL_law := List.mem_of_getElem? (i := 543) (by decide +kernel)
theorem lk_L_86 : Cond.methodLink RL 86 yX5_outcome ∈ wsL_law := List.mem_of_getElem? (i := 547) (by decide +kernel)
theorem lk_X5_209 : Cond.methodLink RX5 209 yX5_endingOf ∈ wsL_law := List.mem_of_getElem? (i := 551) (by decide +kernel)
theorem lk_X5_217 : Cond.methodLink RX5 217 yX0_isQuiet ∈ wsL_law := List.mem_of_getElem? (i := 555) (by decide +kernel)
theorem lk_L_89 : Cond.methodLink RL 89 yX6_outcome ∈ wsL_law := List.mem_of_getElem? (i := 559) (by decide +kernel)
theorem lk_X6_138 : Cond.methodLink RX6 138 yX6_ends ∈ wsL_law := List.mem_of_getElem? (i := 563) (by decide +kernel)
theorem lk_X6_141 : Cond.methodLink RX6 141 yX6_restores ∈ wsL_law := List.mem_of_getElem? (i := 567) (by decide +kernel)
theorem lk_L_90 : Cond.methodLink RL 90 yX5_isRace ∈ wsL_law := List.mem_of_getElem? (i := 571) (by decide +kernel)
theorem lk_X5_213 : Cond.methodLink RX5 213 yX5_raceIn ∈ wsL_law := List.mem_of_getElem? (i := 575) (by decide +kernel)
theorem lk_L_93 : Cond.methodLink RL 93 yX6_isRace ∈ wsL_law := List.mem_of_getElem? (i := 579) (by decide +kernel)
theorem lk_X6_144 : Cond.methodLink RX6 144 yX6_races ∈ wsL_law := List.mem_of_getElem? (i := 583) (by decide +kernel)
theorem lk_L_94 : Cond.methodLink RL 94 yX5_raceBy ∈ wsL_law := List.mem_of_getElem? (i := 587) (by decide +kernel)
theorem lk_L_97 : Cond.methodLink RL 97 yX6_raceBy ∈ wsL_law := List.mem_of_getElem? (i := 591) (by decide +kernel)
theorem lk_L_98 : Cond.methodLink RL 98 yX5_hazards ∈ wsL_law := List.mem_of_getElem? (i := 595) (by decide +kernel)
theorem lk_L_101 : Cond.methodLink RL 101 yX6_hazards ∈ wsL_law := List.mem_of_getElem? (i := 599) (by decide +kernel)
theorem lk_L_102 : Cond.methodLink RL 102 yX5_stableStates ∈ wsL_law := List.mem_of_getElem? (i := 603) (by decide +kernel)
theorem lk_X5_221 : Cond.methodLink RX5 221 yX0_isStable ∈ wsL_law := List.mem_of_getElem? (i := 607) (by decide +kernel)
theorem lk_L_105 : Cond.methodLink RL 105 yX6_stableStates ∈ wsL_law := List.mem_of_getElem? (i := 611) (by decide +kernel)
theorem lk_X6_147 : Cond.methodLink RX6 147 yX6_isStable ∈ wsL_law := List.mem_of_getElem? (i := 615) (by decide +kernel)
theorem lk_L_106 : Cond.methodLink RL 106 yX5_explain ∈ wsL_law := List.mem_of_getElem? (i := 619) (by decide +kernel)
theorem lk_L_109 : Cond.methodLink RL 109 yX6_explain ∈ wsL_law := List.mem_of_getElem? (i := 623) (by decide +kernel)
theorem lk_L_110 : Cond.methodLink RL 110 yX5_undo ∈ wsL_law := List.mem_of_getElem? (i := 627) (by decide +kernel)
theorem lk_X5_224 : Cond.methodLink RX5 224 yX3_restore ∈ wsL_law := List.mem_of_getElem? (i := 631) (by decide +kernel)
theorem lk_L_113 : Cond.methodLink RL 113 yX6_undo ∈ wsL_law := List.mem_of_getElem? (i := 635) (by decide +kernel)
theorem nk_X0_65 : (RX0, 65, yX5_isWithin) ∈ nestG := List.mem_of_getElem? (i := 0) rfl
theorem nk_X0_73 : (RX0, 73, yX5_at) ∈ nestG := List.mem_of_getElem? (i := 1) rfl
theorem nk_X0_77 : (RX0, 77, yX5_put) ∈ nestG := List.mem_of_getElem? (i := 2) rfl
theorem nk_X0_106 : (RX0, 106, yX5_isIn) ∈ nestG := List.mem_of_getElem? (i := 3) rfl
theorem nk_X2_52 : (RX2, 52, yX5_put) ∈ nestG := List.mem_of_getElem? (i := 4) rfl
theorem nk_X2_60 : (RX2, 60, yX5_at) ∈ nestG := List.mem_of_getElem? (i := 5) rfl
theorem nk_X2_74 : (RX2, 74, yX5_isWithin) ∈ nestG := List.mem_of_getElem? (i := 6) rfl
theorem nk_X5_25 : (RX5, 25, yX4_init) ∈ nestG := List.mem_of_getElem? (i := 7) rfl
theorem nk_X5_32 : (RX5, 32, yX2_init) ∈ nestG := List.mem_of_getElem? (i := 8) rfl
theorem fn_X5_173 : FLN RX5 173 0 0 true (.array .int) := ⟨RX0, TX0, 15, tyX0, rfl, inlX0, by decide, List.mem_of_getElem? (i := 0) rfl, tyX0_ok, nmX0, rfl, tyX0_ok 0 (by decide), rfl⟩
theorem fn_X5_180 : FLN RX5 180 0 1 true (.array .int) := ⟨RX0, TX0, 15, tyX0, rfl, inlX0, by decide, List.mem_of_getElem? (i := 1) rfl, tyX0_ok, nmX0, rfl, tyX0_ok 1 (by decide), rfl⟩
theorem fn_X5_183 : FLN RX5 183 0 2 true (.array .int) := ⟨RX0, TX0, 15, tyX0, rfl, inlX0, by decide, List.mem_of_getElem? (i := 2) rfl, tyX0_ok, nmX0, rfl, tyX0_ok 2 (by decide), rfl⟩
theorem fn_X5_206 : FLN RX5 206 0 5 true (.array .int) := ⟨RX0, TX0, 15, tyX0, rfl, inlX0, by decide, List.mem_of_getElem? (i := 3) rfl, tyX0_ok, nmX0, rfl, tyX0_ok 5 (by decide), rfl⟩
theorem fn_X5_47 : FLN RX5 47 0 6 false .int := ⟨RX0, TX0, 15, tyX0, rfl, inlX0, by decide, List.mem_of_getElem? (i := 4) rfl, tyX0_ok, nmX0, rfl, tyX0_ok 6 (by decide), rfl⟩
theorem fn_X5_149 : FLN RX5 149 0 7 false .int := ⟨RX0, TX0, 15, tyX0, rfl, inlX0, by decide, List.mem_of_getElem? (i := 5) rfl, tyX0_ok, nmX0, rfl, tyX0_ok 7 (by decide), rfl⟩
theorem fn_X5_107 : FLN RX5 107 0 8 false .int := ⟨RX0, TX0, 15, tyX0, rfl, inlX0, by decide, List.mem_of_getElem? (i := 6) rfl, tyX0_ok, nmX0, rfl, tyX0_ok 8 (by decide), rfl⟩
theorem fn_X5_160 : FLN RX5 160 0 9 false .int := ⟨RX0, TX0, 15, tyX0, rfl, inlX0, by decide, List.mem_of_getElem? (i := 7) rfl, tyX0_ok, nmX0, rfl, tyX0_ok 9 (by decide), rfl⟩
theorem fn_X5_163 : FLN RX5 163 0 10 false .int := ⟨RX0, TX0, 15, tyX0, rfl, inlX0, by decide, List.mem_of_getElem? (i := 8) rfl, tyX0_ok, nmX0, rfl, tyX0_ok 10 (by decide), rfl⟩
theorem fn_X5_169 : FLN RX5 169 0 11 false .int := ⟨RX0, TX0, 15, tyX0, rfl, inlX0, by decide, List.mem_of_getElem? (i := 9) rfl, tyX0_ok, nmX0, rfl, tyX0_ok 11 (by decide), rfl⟩
theorem fn_X5_124 : FLN RX5 124 0 12 false .int := ⟨RX0, TX0, 15, tyX0, rfl, inlX0, by decide, List.mem_of_getElem? (i := 10) rfl, tyX0_ok, nmX0, rfl, tyX0_ok 12 (by decide), rfl⟩
theorem fn_X5_172 : FLN RX5 172 2 2 false .int := ⟨RX3, TX3, 3, tyX3, rfl, inlX3, by decide, List.mem_of_getElem? (i := 11) rfl, tyX3_ok, nmX3, rfl, tyX3_ok 2 (by decide), rfl⟩
theorem fn_X2_25 : FLN RX2 25 3 1 false .int := ⟨RX4, TX4, 2, tyX4, rfl, inlX4, by decide, List.mem_of_getElem? (i := 12) rfl, tyX4_ok, nmX4, rfl, tyX4_ok 1 (by decide), rfl⟩
theorem fn_X5_82 : FLN RX5 82 3 1 false .int := ⟨RX4, TX4, 2, tyX4, rfl, inlX4, by decide, List.mem_of_getElem? (i := 13) rfl, tyX4_ok, nmX4, rfl, tyX4_ok 1 (by decide), rfl⟩
theorem fn_X5_93 : FLN RX5 93 1 0 true (.array .int) := ⟨RX2, TX2, 4, tyX2, rfl, inlX2, by decide, List.mem_of_getElem? (i := 14) rfl, tyX2_ok, nmX2, rfl, tyX2_ok 0 (by decide), rfl⟩
theorem fn_X5_97 : FLN RX5 97 1 1 false .int := ⟨RX2, TX2, 4, tyX2, rfl, inlX2, by decide, List.mem_of_getElem? (i := 15) rfl, tyX2_ok, nmX2, rfl, tyX2_ok 1 (by decide), rfl⟩
theorem iw_X5_init : IW yX5_init cX5_init 1 0 := ⟨⟨List.mem_of_getElem? (i := 2) (by decide +kernel), List.mem_of_getElem? (i := 8) (by decide +kernel), by decide, by decide +kernel⟩, List.mem_of_getElem? (i := 7) (by decide +kernel), rfl⟩
theorem iw_X0_init : IW yX0_init cX0_init 2 0 := ⟨⟨List.mem_of_getElem? (i := 14) (by decide +kernel), List.mem_of_getElem? (i := 32) (by decide +kernel), by decide, by decide +kernel⟩, List.mem_of_getElem? (i := 31) (by decide +kernel), rfl⟩
theorem iw_X3_init : IW yX3_init cX3_init 2 0 := ⟨⟨List.mem_of_getElem? (i := 18) (by decide +kernel), List.mem_of_getElem? (i := 44) (by decide +kernel), by decide, by decide +kernel⟩, List.mem_of_getElem? (i := 43) (by decide +kernel), rfl⟩
theorem iw_X4_init : IW yX4_init cX4_init 1 0 := ⟨⟨List.mem_of_getElem? (i := 22) (by decide +kernel), List.mem_of_getElem? (i := 50) (by decide +kernel), by decide, by decide +kernel⟩, List.mem_of_getElem? (i := 49) (by decide +kernel), rfl⟩
theorem iw_X2_init : IW yX2_init cX2_init 1 0 := ⟨⟨List.mem_of_getElem? (i := 26) (by decide +kernel), List.mem_of_getElem? (i := 55) (by decide +kernel), by decide, by decide +kernel⟩, List.mem_of_getElem? (i := 54) (by decide +kernel), rfl⟩
theorem iw_X6_init : IW yX6_init cX6_init 1 0 := ⟨⟨List.mem_of_getElem? (i := 5) (by decide +kernel), List.mem_of_getElem? (i := 60) (by decide +kernel), by decide, by decide +kernel⟩, List.mem_of_getElem? (i := 59) (by decide +kernel), rfl⟩
theorem vw_X5_addRelay : VW yX5_addRelay cX5_addRelay 4 (some .int) 3 := ⟨⟨List.mem_of_getElem? (i := 2) (by decide +kernel), List.mem_of_getElem? (i := 72) (by decide +kernel), by decide, by decide +kernel⟩, List.mem_of_getElem? (i := 70) (by decide +kernel), List.mem_of_getElem? (i := 71) (by decide +kernel)⟩
theorem vw_X5_areDelays : SW yX5_areDelays cX5_areDelays 3 (some .boolean) 3 := ⟨⟨List.mem_of_getElem? (i := 2) (by decide +kernel), List.mem_of_getElem? (i := 75) (by decide +kernel), by decide, by decide +kernel⟩, List.mem_of_getElem? (i := 74) (by decide +kernel)⟩
theorem vw_X5_isWithin : SW yX5_isWithin cX5_isWithin 3 (some .boolean) 3 := ⟨⟨List.mem_of_getElem? (i := 2) (by decide +kernel), List.mem_of_getElem? (i := 78) (by decide +kernel), by decide, by decide +kernel⟩, List.mem_of_getElem? (i := 77) (by decide +kernel)⟩
theorem vw_X3_save : VW yX3_save cX3_save 3 none 1 := ⟨⟨List.mem_of_getElem? (i := 18) (by decide +kernel), List.mem_of_getElem? (i := 82) (by decide +kernel), by decide, by decide +kernel⟩, List.mem_of_getElem? (i := 80) (by decide +kernel), List.mem_of_getElem? (i := 81) (by decide +kernel)⟩
theorem vw_J9_floorMod_7cf53 : SW yJ9_floorMod_7cf53 cJ9_floorMod_7cf53 3 (some .int) 2 := ⟨⟨List.mem_of_getElem? (i := 87) (by decide +kernel), List.mem_of_getElem? (i := 88) (by decide +kernel), by decide, by decide +kernel⟩, List.mem_of_getElem? (i := 86) (by decide +kernel)⟩
theorem vw_X3_bankAt : VW yX3_bankAt cX3_bankAt 3 (some (.object "RelayBank$Bank")) 1 := ⟨⟨List.mem_of_getElem? (i := 18) (by decide +kernel), List.mem_of_getElem? (i := 92) (by decide +kernel), by decide, by decide +kernel⟩, List.mem_of_getElem? (i := 90) (by decide +kernel), List.mem_of_getElem? (i := 91) (by decide +kernel)⟩
theorem vw_X0_copy : VW yX0_copy cX0_copy 2 none 1 := ⟨⟨List.mem_of_getElem? (i := 14) (by decide +kernel), List.mem_of_getElem? (i := 96) (by decide +kernel), by decide, by decide +kernel⟩, List.mem_of_getElem? (i := 94) (by decide +kernel), List.mem_of_getElem? (i := 95) (by decide +kernel)⟩
theorem vw_X0_add : VW yX0_add cX0_add 5 (some .int) 3 := ⟨⟨List.mem_of_getElem? (i := 14) (by decide +kernel), List.mem_of_getElem? (i := 113) (by decide +kernel), by decide, by decide +kernel⟩, List.mem_of_getElem? (i := 111) (by decide +kernel), List.mem_of_getElem? (i := 112) (by decide +kernel)⟩
theorem vw_X0_putDelays : VW yX0_putDelays cX0_putDelays 6 (some .boolean) 4 := ⟨⟨List.mem_of_getElem? (i := 14) (by decide +kernel), List.mem_of_getElem? (i := 117) (by decide +kernel), by decide, by decide +kernel⟩, List.mem_of_getElem? (i := 115) (by decide +kernel), List.mem_of_getElem? (i := 116) (by decide +kernel)⟩
theorem vw_X5_at : SW yX5_at cX5_at 2 (some .int) 2 := ⟨⟨List.mem_of_getElem? (i := 2) (by decide +kernel), List.mem_of_getElem? (i := 119) (by decide +kernel), by decide, by decide +kernel⟩, List.mem_of_getElem? (i := 118) (by decide +kernel)⟩
theorem vw_X5_put : SW yX5_put cX5_put 3 none 3 := ⟨⟨List.mem_of_getElem? (i := 2) (by decide +kernel), List.mem_of_getElem? (i := 121) (by decide +kernel), by decide, by decide +kernel⟩, List.mem_of_getElem? (i := 120) (by decide +kernel)⟩
theorem vw_X6_addRelay : VW yX6_addRelay cX6_addRelay 6 (some .int) 3 := ⟨⟨List.mem_of_getElem? (i := 5) (by decide +kernel), List.mem_of_getElem? (i := 125) (by decide +kernel), by decide, by decide +kernel⟩, List.mem_of_getElem? (i := 123) (by decide +kernel), List.mem_of_getElem? (i := 124) (by decide +kernel)⟩
theorem vw_X6_in : SW yX6_in cX6_in 3 (some .boolean) 3 := ⟨⟨List.mem_of_getElem? (i := 5) (by decide +kernel), List.mem_of_getElem? (i := 128) (by decide +kernel), by decide, by decide +kernel⟩, List.mem_of_getElem? (i := 127) (by decide +kernel)⟩
theorem vw_X6_notes : VW yX6_notes cX6_notes 2 none 0 := ⟨⟨List.mem_of_getElem? (i := 5) (by decide +kernel), List.mem_of_getElem? (i := 132) (by decide +kernel), by decide, by decide +kernel⟩, List.mem_of_getElem? (i := 130) (by decide +kernel), List.mem_of_getElem? (i := 131) (by decide +kernel)⟩
theorem vw_X6_puts : VW yX6_puts cX6_puts 4 none 3 := ⟨⟨List.mem_of_getElem? (i := 5) (by decide +kernel), List.mem_of_getElem? (i := 137) (by decide +kernel), by decide, by decide +kernel⟩, List.mem_of_getElem? (i := 135) (by decide +kernel), List.mem_of_getElem? (i := 136) (by decide +kernel)⟩
theorem vw_X5_setDelays : VW yX5_setDelays cX5_setDelays 5 (some .int) 4 := ⟨⟨List.mem_of_getElem? (i := 2) (by decide +kernel), List.mem_of_getElem? (i := 141) (by decide +kernel), by decide, by decide +kernel⟩, List.mem_of_getElem? (i := 139) (by decide +kernel), List.mem_of_getElem? (i := 140) (by decide +kernel)⟩
theorem vw_X0_has : VW yX0_has cX0_has 2 (some .boolean) 1 := ⟨⟨List.mem_of_getElem? (i := 14) (by decide +kernel), List.mem_of_getElem? (i := 145) (by decide +kernel), by decide, by decide +kernel⟩, List.mem_of_getElem? (i := 143) (by decide +kernel), List.mem_of_getElem? (i := 144) (by decide +kernel)⟩
theorem vw_X6_setDelays : VW yX6_setDelays cX6_setDelays 6 (some .int) 4 := ⟨⟨List.mem_of_getElem? (i := 5) (by decide +kernel), List.mem_of_getElem? (i := 150) (by decide +kernel), by decide, by decide +kernel⟩, List.mem_of_getElem? (i := 148) (by decide +kernel), List.mem_of_getElem? (i := 149) (by decide +kernel)⟩
theorem vw_X6_isRelay : VW yX6_isRelay cX6_isRelay 2 (some .boolean) 1 := ⟨⟨List.mem_of_getElem? (i := 5) (by decide +kernel), List.mem_of_getElem? (i := 154) (by decide +kernel), by decide, by decide +kernel⟩, List.mem_of_getElem? (i := 152) (by decide +kernel), List.mem_of_getElem? (i := 153) (by decide +kernel)⟩
theorem vw_X6_of : VW yX6_of cX6_of 3 (some .int) 2 := ⟨⟨List.mem_of_getElem? (i := 5) (by decide +kernel), List.mem_of_getElem? (i := 158) (by decide +kernel), by decide, by decide +kernel⟩, List.mem_of_getElem? (i := 156) (by decide +kernel), List.mem_of_getElem? (i := 157) (by decide +kernel)⟩
theorem vw_X5_setCondition : VW yX5_setCondition cX5_setCondition 5 (some .int) 4 := ⟨⟨List.mem_of_getElem? (i := 2) (by decide +kernel), List.mem_of_getElem? (i := 162) (by decide +kernel), by decide, by decide +kernel⟩, List.mem_of_getElem? (i := 160) (by decide +kernel), List.mem_of_getElem? (i := 161) (by decide +kernel)⟩
theorem vw_X0_branchesOf : VW yX0_branchesOf cX0_branchesOf 2 (some .int) 1 := ⟨⟨List.mem_of_getElem? (i := 14) (by decide +kernel), List.mem_of_getElem? (i := 166) (by decide +kernel), by decide, by decide +kernel⟩, List.mem_of_getElem? (i := 164) (by decide +kernel), List.mem_of_getElem? (i := 165) (by decide +kernel)⟩
theorem vw_X0_putCondition : VW yX0_putCondition cX0_putCondition 7 (some .int) 4 := ⟨⟨List.mem_of_getElem? (i := 14) (by decide +kernel), List.mem_of_getElem? (i := 170) (by decide +kernel), by decide, by decide +kernel⟩, List.mem_of_getElem? (i := 168) (by decide +kernel), List.mem_of_getElem? (i := 169) (by decide +kernel)⟩
theorem vw_X0_branchAt : VW yX0_branchAt cX0_branchAt 3 (some .int) 2 := ⟨⟨List.mem_of_getElem? (i := 14) (by decide +kernel), List.mem_of_getElem? (i := 175) (by decide +kernel), by decide, by decide +kernel⟩, List.mem_of_getElem? (i := 173) (by decide +kernel), List.mem_of_getElem? (i := 174) (by decide +kernel)⟩
theorem vw_X1_with : SW yX1_with cX1_with 4 (some .int) 3 := ⟨⟨List.mem_of_getElem? (i := 178) (by decide +kernel), List.mem_of_getElem? (i := 179) (by decide +kernel), by decide, by decide +kernel⟩, List.mem_of_getElem? (i := 177) (by decide +kernel)⟩
theorem vw_X1_bit : SW yX1_bit cX1_bit 2 (some .int) 2 := ⟨⟨List.mem_of_getElem? (i := 178) (by decide +kernel), List.mem_of_getElem? (i := 182) (by decide +kernel), by decide, by decide +kernel⟩, List.mem_of_getElem? (i := 181) (by decide +kernel)⟩
theorem vw_X0_putBranch : VW yX0_putBranch cX0_putBranch 4 none 3 := ⟨⟨List.mem_of_getElem? (i := 14) (by decide +kernel), List.mem_of_getElem? (i := 186) (by decide +kernel), by decide, by decide +kernel⟩, List.mem_of_getElem? (i := 184) (by decide +kernel), List.mem_of_getElem? (i := 185) (by decide +kernel)⟩
theorem vw_X0_lookAtCoils : VW yX0_lookAtCoils cX0_lookAtCoils 4 (some .int) 0 := ⟨⟨List.mem_of_getElem? (i := 14) (by decide +kernel), List.mem_of_getElem? (i := 190) (by decide +kernel), by decide, by decide +kernel⟩, List.mem_of_getElem? (i := 188) (by decide +kernel), List.mem_of_getElem? (i := 189) (by decide +kernel)⟩
theorem vw_X0_failing : VW yX0_failing cX0_failing 2 (some .int) 0 := ⟨⟨List.mem_of_getElem? (i := 14) (by decide +kernel), List.mem_of_getElem? (i := 194) (by decide +kernel), by decide, by decide +kernel⟩, List.mem_of_getElem? (i := 192) (by decide +kernel), List.mem_of_getElem? (i := 193) (by decide +kernel)⟩
theorem vw_X0_closedContacts : VW yX0_closedContacts cX0_closedContacts 1 (some .int) 0 := ⟨⟨List.mem_of_getElem? (i := 14) (by decide +kernel), List.mem_of_getElem? (i := 199) (by decide +kernel), by decide, by decide +kernel⟩, List.mem_of_getElem? (i := 197) (by decide +kernel), List.mem_of_getElem? (i := 198) (by decide +kernel)⟩
theorem vw_X0_conducts : VW yX0_conducts cX0_conducts 6 (some .boolean) 2 := ⟨⟨List.mem_of_getElem? (i := 14) (by decide +kernel), List.mem_of_getElem? (i := 203) (by decide +kernel), by decide, by decide +kernel⟩, List.mem_of_getElem? (i := 201) (by decide +kernel), List.mem_of_getElem? (i := 202) (by decide +kernel)⟩
theorem vw_X5_isIn : SW yX5_isIn cX5_isIn 2 (some .boolean) 2 := ⟨⟨List.mem_of_getElem? (i := 2) (by decide +kernel), List.mem_of_getElem? (i := 205) (by decide +kernel), by decide, by decide +kernel⟩, List.mem_of_getElem? (i := 204) (by decide +kernel)⟩
theorem vw_X0_turnCoil : VW yX0_turnCoil cX0_turnCoil 3 none 1 := ⟨⟨List.mem_of_getElem? (i := 14) (by decide +kernel), List.mem_of_getElem? (i := 209) (by decide +kernel), by decide, by decide +kernel⟩, List.mem_of_getElem? (i := 207) (by decide +kernel), List.mem_of_getElem? (i := 208) (by decide +kernel)⟩
theorem vw_X1_howOf : SW yX1_howOf cX1_howOf 2 (some .int) 2 := ⟨⟨List.mem_of_getElem? (i := 178) (by decide +kernel), List.mem_of_getElem? (i := 212) (by decide +kernel), by decide, by decide +kernel⟩, List.mem_of_getElem? (i := 211) (by decide +kernel)⟩
theorem vw_X6_setCondition : VW yX6_setCondition cX6_setCondition 6 (some .int) 4 := ⟨⟨List.mem_of_getElem? (i := 5) (by decide +kernel), List.mem_of_getElem? (i := 216) (by decide +kernel), by decide, by decide +kernel⟩, List.mem_of_getElem? (i := 214) (by decide +kernel), List.mem_of_getElem? (i := 215) (by decide +kernel)⟩
theorem vw_X6_isSubject : VW yX6_isSubject cX6_isSubject 2 (some .boolean) 1 := ⟨⟨List.mem_of_getElem? (i := 5) (by decide +kernel), List.mem_of_getElem? (i := 221) (by decide +kernel), by decide, by decide +kernel⟩, List.mem_of_getElem? (i := 219) (by decide +kernel), List.mem_of_getElem? (i := 220) (by decide +kernel)⟩
theorem vw_X6_opensBranch : VW yX6_opensBranch cX6_opensBranch 3 none 1 := ⟨⟨List.mem_of_getElem? (i := 5) (by decide +kernel), List.mem_of_getElem? (i := 225) (by decide +kernel), by decide, by decide +kernel⟩, List.mem_of_getElem? (i := 223) (by decide +kernel), List.mem_of_getElem? (i := 224) (by decide +kernel)⟩
theorem vw_X6_how : VW yX6_how cX6_how 6 (some .int) 3 := ⟨⟨List.mem_of_getElem? (i := 5) (by decide +kernel), List.mem_of_getElem? (i := 229) (by decide +kernel), by decide, by decide +kernel⟩, List.mem_of_getElem? (i := 227) (by decide +kernel), List.mem_of_getElem? (i := 228) (by decide +kernel)⟩
theorem vw_X6_conditions : VW yX6_conditions cX6_conditions 8 none 4 := ⟨⟨List.mem_of_getElem? (i := 5) (by decide +kernel), List.mem_of_getElem? (i := 233) (by decide +kernel), by decide, by decide +kernel⟩, List.mem_of_getElem? (i := 231) (by decide +kernel), List.mem_of_getElem? (i := 232) (by decide +kernel)⟩
theorem vw_X6_looks : VW yX6_looks cX6_looks 6 (some .int) 0 := ⟨⟨List.mem_of_getElem? (i := 5) (by decide +kernel), List.mem_of_getElem? (i := 237) (by decide +kernel), by decide, by decide +kernel⟩, List.mem_of_getElem? (i := 235) (by decide +kernel), List.mem_of_getElem? (i := 236) (by decide +kernel)⟩
theorem vw_X6_closed : VW yX6_closed cX6_closed 4 (some .int) 0 := ⟨⟨List.mem_of_getElem? (i := 5) (by decide +kernel), List.mem_of_getElem? (i := 241) (by decide +kernel), by decide, by decide +kernel⟩, List.mem_of_getElem? (i := 239) (by decide +kernel), List.mem_of_getElem? (i := 240) (by decide +kernel)⟩
theorem vw_X6_conducts : VW yX6_conducts cX6_conducts 7 (some .boolean) 2 := ⟨⟨List.mem_of_getElem? (i := 5) (by decide +kernel), List.mem_of_getElem? (i := 245) (by decide +kernel), by decide, by decide +kernel⟩, List.mem_of_getElem? (i := 243) (by decide +kernel), List.mem_of_getElem? (i := 244) (by decide +kernel)⟩
theorem vw_X5_removeBranch : VW yX5_removeBranch cX5_removeBranch 3 (some .int) 2 := ⟨⟨List.mem_of_getElem? (i := 2) (by decide +kernel), List.mem_of_getElem? (i := 249) (by decide +kernel), by decide, by decide +kernel⟩, List.mem_of_getElem? (i := 247) (by decide +kernel), List.mem_of_getElem? (i := 248) (by decide +kernel)⟩
theorem vw_X0_dropBranch : VW yX0_dropBranch cX0_dropBranch 5 (some .int) 2 := ⟨⟨List.mem_of_getElem? (i := 14) (by decide +kernel), List.mem_of_getElem? (i := 253) (by decide +kernel), by decide, by decide +kernel⟩, List.mem_of_getElem? (i := 251) (by decide +kernel), List.mem_of_getElem? (i := 252) (by decide +kernel)⟩
theorem vw_X6_removeBranch : VW yX6_removeBranch cX6_removeBranch 4 (some .int) 2 := ⟨⟨List.mem_of_getElem? (i := 5) (by decide +kernel), List.mem_of_getElem? (i := 257) (by decide +kernel), by decide, by decide +kernel⟩, List.mem_of_getElem? (i := 255) (by decide +kernel), List.mem_of_getElem? (i := 256) (by decide +kernel)⟩
theorem vw_X5_appendCharacter : VW yX5_appendCharacter cX5_appendCharacter 2 (some .int) 1 := ⟨⟨List.mem_of_getElem? (i := 2) (by decide +kernel), List.mem_of_getElem? (i := 261) (by decide +kernel), by decide, by decide +kernel⟩, List.mem_of_getElem? (i := 259) (by decide +kernel), List.mem_of_getElem? (i := 260) (by decide +kernel)⟩
theorem vw_X4_append : VW yX4_append cX4_append 2 none 1 := ⟨⟨List.mem_of_getElem? (i := 22) (by decide +kernel), List.mem_of_getElem? (i := 265) (by decide +kernel), by decide, by decide +kernel⟩, List.mem_of_getElem? (i := 263) (by decide +kernel), List.mem_of_getElem? (i := 264) (by decide +kernel)⟩
theorem vw_X6_appendCharacter : VW yX6_appendCharacter cX6_appendCharacter 2 (some .int) 1 := ⟨⟨List.mem_of_getElem? (i := 5) (by decide +kernel), List.mem_of_getElem? (i := 270) (by decide +kernel), by decide, by decide +kernel⟩, List.mem_of_getElem? (i := 268) (by decide +kernel), List.mem_of_getElem? (i := 269) (by decide +kernel)⟩
theorem vw_X5_clearText : VW yX5_clearText cX5_clearText 2 (some .int) 0 := ⟨⟨List.mem_of_getElem? (i := 2) (by decide +kernel), List.mem_of_getElem? (i := 274) (by decide +kernel), by decide, by decide +kernel⟩, List.mem_of_getElem? (i := 272) (by decide +kernel), List.mem_of_getElem? (i := 273) (by decide +kernel)⟩
theorem vw_X6_clearText : VW yX6_clearText cX6_clearText 2 (some .int) 0 := ⟨⟨List.mem_of_getElem? (i := 5) (by decide +kernel), List.mem_of_getElem? (i := 278) (by decide +kernel), by decide, by decide +kernel⟩, List.mem_of_getElem? (i := 276) (by decide +kernel), List.mem_of_getElem? (i := 277) (by decide +kernel)⟩
theorem vw_X5_load : VW yX5_load cX5_load 3 (some .int) 1 := ⟨⟨List.mem_of_getElem? (i := 2) (by decide +kernel), List.mem_of_getElem? (i := 282) (by decide +kernel), by decide, by decide +kernel⟩, List.mem_of_getElem? (i := 280) (by decide +kernel), List.mem_of_getElem? (i := 281) (by decide +kernel)⟩
theorem vw_X2_read : VW yX2_read cX2_read 5 (some .int) 2 := ⟨⟨List.mem_of_getElem? (i := 26) (by decide +kernel), List.mem_of_getElem? (i := 286) (by decide +kernel), by decide, by decide +kernel⟩, List.mem_of_getElem? (i := 284) (by decide +kernel), List.mem_of_getElem? (i := 285) (by decide +kernel)⟩
theorem vw_X4_characterAt : VW yX4_characterAt cX4_characterAt 2 (some .char) 1 := ⟨⟨List.mem_of_getElem? (i := 22) (by decide +kernel), List.mem_of_getElem? (i := 293) (by decide +kernel), by decide, by decide +kernel⟩, List.mem_of_getElem? (i := 291) (by decide +kernel), List.mem_of_getElem? (i := 292) (by decide +kernel)⟩
theorem vw_X2_take : VW yX2_take cX2_take 2 (some .boolean) 1 := ⟨⟨List.mem_of_getElem? (i := 26) (by decide +kernel), List.mem_of_getElem? (i := 297) (by decide +kernel), by decide, by decide +kernel⟩, List.mem_of_getElem? (i := 295) (by decide +kernel), List.mem_of_getElem? (i := 296) (by decide +kernel)⟩
theorem vw_X2_goTo : VW yX2_goTo cX2_goTo 2 (some .boolean) 1 := ⟨⟨List.mem_of_getElem? (i := 26) (by decide +kernel), List.mem_of_getElem? (i := 301) (by decide +kernel), by decide, by decide +kernel⟩, List.mem_of_getElem? (i := 299) (by decide +kernel), List.mem_of_getElem? (i := 300) (by decide +kernel)⟩
theorem vw_X2_beginBranch : VW yX2_beginBranch cX2_beginBranch 2 (some .boolean) 1 := ⟨⟨List.mem_of_getElem? (i := 26) (by decide +kernel), List.mem_of_getElem? (i := 305) (by decide +kernel), by decide, by decide +kernel⟩, List.mem_of_getElem? (i := 303) (by decide +kernel), List.mem_of_getElem? (i := 304) (by decide +kernel)⟩
theorem vw_X2_beginCondition : VW yX2_beginCondition cX2_beginCondition 2 (some .boolean) 1 := ⟨⟨List.mem_of_getElem? (i := 26) (by decide +kernel), List.mem_of_getElem? (i := 309) (by decide +kernel), by decide, by decide +kernel⟩, List.mem_of_getElem? (i := 307) (by decide +kernel), List.mem_of_getElem? (i := 308) (by decide +kernel)⟩
theorem vw_X2_takeLetter : VW yX2_takeLetter cX2_takeLetter 5 (some .boolean) 2 := ⟨⟨List.mem_of_getElem? (i := 26) (by decide +kernel), List.mem_of_getElem? (i := 313) (by decide +kernel), by decide, by decide +kernel⟩, List.mem_of_getElem? (i := 311) (by decide +kernel), List.mem_of_getElem? (i := 312) (by decide +kernel)⟩
theorem vw_X2_subjectOf : VW yX2_subjectOf cX2_subjectOf 2 (some .int) 1 := ⟨⟨List.mem_of_getElem? (i := 26) (by decide +kernel), List.mem_of_getElem? (i := 317) (by decide +kernel), by decide, by decide +kernel⟩, List.mem_of_getElem? (i := 315) (by decide +kernel), List.mem_of_getElem? (i := 316) (by decide +kernel)⟩
theorem vw_X0_putCircuit : VW yX0_putCircuit cX0_putCircuit 5 none 3 := ⟨⟨List.mem_of_getElem? (i := 14) (by decide +kernel), List.mem_of_getElem? (i := 323) (by decide +kernel), by decide, by decide +kernel⟩, List.mem_of_getElem? (i := 321) (by decide +kernel), List.mem_of_getElem? (i := 322) (by decide +kernel)⟩
theorem vw_X6_load : VW yX6_load cX6_load 3 (some .int) 1 := ⟨⟨List.mem_of_getElem? (i := 5) (by decide +kernel), List.mem_of_getElem? (i := 327) (by decide +kernel), by decide, by decide +kernel⟩, List.mem_of_getElem? (i := 325) (by decide +kernel), List.mem_of_getElem? (i := 326) (by decide +kernel)⟩
theorem vw_X6_keeps : VW yX6_keeps cX6_keeps 2 none 0 := ⟨⟨List.mem_of_getElem? (i := 5) (by decide +kernel), List.mem_of_getElem? (i := 332) (by decide +kernel), by decide, by decide +kernel⟩, List.mem_of_getElem? (i := 330) (by decide +kernel), List.mem_of_getElem? (i := 331) (by decide +kernel)⟩
theorem vw_X6_reads : VW yX6_reads cX6_reads 3 (some .boolean) 1 := ⟨⟨List.mem_of_getElem? (i := 5) (by decide +kernel), List.mem_of_getElem? (i := 336) (by decide +kernel), by decide, by decide +kernel⟩, List.mem_of_getElem? (i := 334) (by decide +kernel), List.mem_of_getElem? (i := 335) (by decide +kernel)⟩
theorem vw_X6_here : VW yX6_here cX6_here 1 (some .int) 0 := ⟨⟨List.mem_of_getElem? (i := 5) (by decide +kernel), List.mem_of_getElem? (i := 340) (by decide +kernel), by decide, by decide +kernel⟩, List.mem_of_getElem? (i := 338) (by decide +kernel), List.mem_of_getElem? (i := 339) (by decide +kernel)⟩
theorem vw_X6_readsBranch : VW yX6_readsBranch cX6_readsBranch 5 (some .boolean) 1 := ⟨⟨List.mem_of_getElem? (i := 5) (by decide +kernel), List.mem_of_getElem? (i := 344) (by decide +kernel), by decide, by decide +kernel⟩, List.mem_of_getElem? (i := 342) (by decide +kernel), List.mem_of_getElem? (i := 343) (by decide +kernel)⟩
theorem vw_X6_isEnd : VW yX6_isEnd cX6_isEnd 1 (some .boolean) 0 := ⟨⟨List.mem_of_getElem? (i := 5) (by decide +kernel), List.mem_of_getElem? (i := 348) (by decide +kernel), by decide, by decide +kernel⟩, List.mem_of_getElem? (i := 346) (by decide +kernel), List.mem_of_getElem? (i := 347) (by decide +kernel)⟩
theorem vw_X6_readsCondition : VW yX6_readsCondition cX6_readsCondition 5 (some .boolean) 2 := ⟨⟨List.mem_of_getElem? (i := 5) (by decide +kernel), List.mem_of_getElem? (i := 352) (by decide +kernel), by decide, by decide +kernel⟩, List.mem_of_getElem? (i := 350) (by decide +kernel), List.mem_of_getElem? (i := 351) (by decide +kernel)⟩
theorem vw_X6_subject : VW yX6_subject cX6_subject 2 (some .int) 1 := ⟨⟨List.mem_of_getElem? (i := 5) (by decide +kernel), List.mem_of_getElem? (i := 356) (by decide +kernel), by decide, by decide +kernel⟩, List.mem_of_getElem? (i := 354) (by decide +kernel), List.mem_of_getElem? (i := 355) (by decide +kernel)⟩
theorem vw_X6_exchanges : VW yX6_exchanges cX6_exchanges 3 none 0 := ⟨⟨List.mem_of_getElem? (i := 5) (by decide +kernel), List.mem_of_getElem? (i := 360) (by decide +kernel), by decide, by decide +kernel⟩, List.mem_of_getElem? (i := 358) (by decide +kernel), List.mem_of_getElem? (i := 359) (by decide +kernel)⟩
theorem vw_X5_press : VW yX5_press cX5_press 3 (some .int) 2 := ⟨⟨List.mem_of_getElem? (i := 2) (by decide +kernel), List.mem_of_getElem? (i := 364) (by decide +kernel), by decide, by decide +kernel⟩, List.mem_of_getElem? (i := 362) (by decide +kernel), List.mem_of_getElem? (i := 363) (by decide +kernel)⟩
theorem vw_X5_isKey : SW yX5_isKey cX5_isKey 1 (some .boolean) 1 := ⟨⟨List.mem_of_getElem? (i := 2) (by decide +kernel), List.mem_of_getElem? (i := 367) (by decide +kernel), by decide, by decide +kernel⟩, List.mem_of_getElem? (i := 366) (by decide +kernel)⟩
theorem vw_X0_turnKey : VW yX0_turnKey cX0_turnKey 2 (some .int) 1 := ⟨⟨List.mem_of_getElem? (i := 14) (by decide +kernel), List.mem_of_getElem? (i := 372) (by decide +kernel), by decide, by decide +kernel⟩, List.mem_of_getElem? (i := 370) (by decide +kernel), List.mem_of_getElem? (i := 371) (by decide +kernel)⟩
theorem vw_X6_press : VW yX6_press cX6_press 3 (some .int) 2 := ⟨⟨List.mem_of_getElem? (i := 5) (by decide +kernel), List.mem_of_getElem? (i := 376) (by decide +kernel), by decide, by decide +kernel⟩, List.mem_of_getElem? (i := 374) (by decide +kernel), List.mem_of_getElem? (i := 375) (by decide +kernel)⟩
theorem vw_X5_setFault : VW yX5_setFault cX5_setFault 4 (some .int) 2 := ⟨⟨List.mem_of_getElem? (i := 2) (by decide +kernel), List.mem_of_getElem? (i := 380) (by decide +kernel), by decide, by decide +kernel⟩, List.mem_of_getElem? (i := 378) (by decide +kernel), List.mem_of_getElem? (i := 379) (by decide +kernel)⟩
theorem vw_X0_faultOf : VW yX0_faultOf cX0_faultOf 2 (some .int) 1 := ⟨⟨List.mem_of_getElem? (i := 14) (by decide +kernel), List.mem_of_getElem? (i := 384) (by decide +kernel), by decide, by decide +kernel⟩, List.mem_of_getElem? (i := 382) (by decide +kernel), List.mem_of_getElem? (i := 383) (by decide +kernel)⟩
theorem vw_X0_putFault : VW yX0_putFault cX0_putFault 4 none 2 := ⟨⟨List.mem_of_getElem? (i := 14) (by decide +kernel), List.mem_of_getElem? (i := 388) (by decide +kernel), by decide, by decide +kernel⟩, List.mem_of_getElem? (i := 386) (by decide +kernel), List.mem_of_getElem? (i := 387) (by decide +kernel)⟩
theorem vw_X6_setFault : VW yX6_setFault cX6_setFault 4 (some .int) 2 := ⟨⟨List.mem_of_getElem? (i := 5) (by decide +kernel), List.mem_of_getElem? (i := 392) (by decide +kernel), by decide, by decide +kernel⟩, List.mem_of_getElem? (i := 390) (by decide +kernel), List.mem_of_getElem? (i := 391) (by decide +kernel)⟩
theorem vw_X5_stick : VW yX5_stick cX5_stick 4 (some .int) 2 := ⟨⟨List.mem_of_getElem? (i := 2) (by decide +kernel), List.mem_of_getElem? (i := 396) (by decide +kernel), by decide, by decide +kernel⟩, List.mem_of_getElem? (i := 394) (by decide +kernel), List.mem_of_getElem? (i := 395) (by decide +kernel)⟩
theorem vw_X5_bitOf : SW yX5_bitOf cX5_bitOf 2 (some .int) 2 := ⟨⟨List.mem_of_getElem? (i := 2) (by decide +kernel), List.mem_of_getElem? (i := 399) (by decide +kernel), by decide, by decide +kernel⟩, List.mem_of_getElem? (i := 398) (by decide +kernel)⟩
theorem vw_X6_stick : VW yX6_stick cX6_stick 4 (some .int) 2 := ⟨⟨List.mem_of_getElem? (i := 5) (by decide +kernel), List.mem_of_getElem? (i := 403) (by decide +kernel), by decide, by decide +kernel⟩, List.mem_of_getElem? (i := 401) (by decide +kernel), List.mem_of_getElem? (i := 402) (by decide +kernel)⟩
theorem vw_X5_step : VW yX5_step cX5_step 3 (some .int) 0 := ⟨⟨List.mem_of_getElem? (i := 2) (by decide +kernel), List.mem_of_getElem? (i := 407) (by decide +kernel), by decide, by decide +kernel⟩, List.mem_of_getElem? (i := 405) (by decide +kernel), List.mem_of_getElem? (i := 406) (by decide +kernel)⟩
theorem vw_X0_nextSlot : VW yX0_nextSlot cX0_nextSlot 8 (some .int) 1 := ⟨⟨List.mem_of_getElem? (i := 14) (by decide +kernel), List.mem_of_getElem? (i := 411) (by decide +kernel), by decide, by decide +kernel⟩, List.mem_of_getElem? (i := 409) (by decide +kernel), List.mem_of_getElem? (i := 410) (by decide +kernel)⟩
theorem vw_X0_kindOf : VW yX0_kindOf cX0_kindOf 2 (some .int) 1 := ⟨⟨List.mem_of_getElem? (i := 14) (by decide +kernel), List.mem_of_getElem? (i := 415) (by decide +kernel), by decide, by decide +kernel⟩, List.mem_of_getElem? (i := 413) (by decide +kernel), List.mem_of_getElem? (i := 414) (by decide +kernel)⟩
theorem vw_X0_isBounceEnd : SW yX0_isBounceEnd cX0_isBounceEnd 1 (some .boolean) 1 := ⟨⟨List.mem_of_getElem? (i := 14) (by decide +kernel), List.mem_of_getElem? (i := 418) (by decide +kernel), by decide, by decide +kernel⟩, List.mem_of_getElem? (i := 417) (by decide +kernel)⟩
theorem vw_X0_relayOf : SW yX0_relayOf cX0_relayOf 1 (some .int) 1 := ⟨⟨List.mem_of_getElem? (i := 14) (by decide +kernel), List.mem_of_getElem? (i := 421) (by decide +kernel), by decide, by decide +kernel⟩, List.mem_of_getElem? (i := 420) (by decide +kernel)⟩
theorem vw_X0_happen : VW yX0_happen cX0_happen 3 none 1 := ⟨⟨List.mem_of_getElem? (i := 14) (by decide +kernel), List.mem_of_getElem? (i := 425) (by decide +kernel), by decide, by decide +kernel⟩, List.mem_of_getElem? (i := 423) (by decide +kernel), List.mem_of_getElem? (i := 424) (by decide +kernel)⟩
theorem vw_X0_moveArmature : VW yX0_moveArmature cX0_moveArmature 3 none 1 := ⟨⟨List.mem_of_getElem? (i := 14) (by decide +kernel), List.mem_of_getElem? (i := 429) (by decide +kernel), by decide, by decide +kernel⟩, List.mem_of_getElem? (i := 427) (by decide +kernel), List.mem_of_getElem? (i := 428) (by decide +kernel)⟩
theorem vw_X6_step : VW yX6_step cX6_step 2 (some .int) 0 := ⟨⟨List.mem_of_getElem? (i := 5) (by decide +kernel), List.mem_of_getElem? (i := 434) (by decide +kernel), by decide, by decide +kernel⟩, List.mem_of_getElem? (i := 432) (by decide +kernel), List.mem_of_getElem? (i := 433) (by decide +kernel)⟩
theorem vw_X6_next : VW yX6_next cX6_next 4 (some .int) 1 := ⟨⟨List.mem_of_getElem? (i := 5) (by decide +kernel), List.mem_of_getElem? (i := 438) (by decide +kernel), by decide, by decide +kernel⟩, List.mem_of_getElem? (i := 436) (by decide +kernel), List.mem_of_getElem? (i := 437) (by decide +kernel)⟩
theorem vw_X6_waits : VW yX6_waits cX6_waits 3 (some .boolean) 1 := ⟨⟨List.mem_of_getElem? (i := 5) (by decide +kernel), List.mem_of_getElem? (i := 442) (by decide +kernel), by decide, by decide +kernel⟩, List.mem_of_getElem? (i := 440) (by decide +kernel), List.mem_of_getElem? (i := 441) (by decide +kernel)⟩
theorem vw_X6_isAhead : VW yX6_isAhead cX6_isAhead 4 (some .boolean) 3 := ⟨⟨List.mem_of_getElem? (i := 5) (by decide +kernel), List.mem_of_getElem? (i := 446) (by decide +kernel), by decide, by decide +kernel⟩, List.mem_of_getElem? (i := 444) (by decide +kernel), List.mem_of_getElem? (i := 445) (by decide +kernel)⟩
theorem vw_X6_timeOf : VW yX6_timeOf cX6_timeOf 2 (some .int) 1 := ⟨⟨List.mem_of_getElem? (i := 5) (by decide +kernel), List.mem_of_getElem? (i := 450) (by decide +kernel), by decide, by decide +kernel⟩, List.mem_of_getElem? (i := 448) (by decide +kernel), List.mem_of_getElem? (i := 449) (by decide +kernel)⟩
theorem vw_X6_happens : VW yX6_happens cX6_happens 4 none 1 := ⟨⟨List.mem_of_getElem? (i := 5) (by decide +kernel), List.mem_of_getElem? (i := 454) (by decide +kernel), by decide, by decide +kernel⟩, List.mem_of_getElem? (i := 452) (by decide +kernel), List.mem_of_getElem? (i := 453) (by decide +kernel)⟩
theorem vw_X5_settle : VW yX5_settle cX5_settle 2 (some .int) 1 := ⟨⟨List.mem_of_getElem? (i := 2) (by decide +kernel), List.mem_of_getElem? (i := 458) (by decide +kernel), by decide, by decide +kernel⟩, List.mem_of_getElem? (i := 456) (by decide +kernel), List.mem_of_getElem? (i := 457) (by decide +kernel)⟩
theorem vw_X0_run : VW yX0_run cX0_run 6 (some .int) 3 := ⟨⟨List.mem_of_getElem? (i := 14) (by decide +kernel), List.mem_of_getElem? (i := 463) (by decide +kernel), by decide, by decide +kernel⟩, List.mem_of_getElem? (i := 461) (by decide +kernel), List.mem_of_getElem? (i := 462) (by decide +kernel)⟩
theorem vw_X6_settle : VW yX6_settle cX6_settle 2 (some .int) 1 := ⟨⟨List.mem_of_getElem? (i := 5) (by decide +kernel), List.mem_of_getElem? (i := 469) (by decide +kernel), by decide, by decide +kernel⟩, List.mem_of_getElem? (i := 467) (by decide +kernel), List.mem_of_getElem? (i := 468) (by decide +kernel)⟩
theorem vw_X6_settles : VW yX6_settles cX6_settles 5 (some .int) 2 := ⟨⟨List.mem_of_getElem? (i := 5) (by decide +kernel), List.mem_of_getElem? (i := 473) (by decide +kernel), by decide, by decide +kernel⟩, List.mem_of_getElem? (i := 471) (by decide +kernel), List.mem_of_getElem? (i := 472) (by decide +kernel)⟩
theorem vw_X5_pass : VW yX5_pass cX5_pass 4 (some .int) 1 := ⟨⟨List.mem_of_getElem? (i := 2) (by decide +kernel), List.mem_of_getElem? (i := 477) (by decide +kernel), by decide, by decide +kernel⟩, List.mem_of_getElem? (i := 475) (by decide +kernel), List.mem_of_getElem? (i := 476) (by decide +kernel)⟩
theorem vw_X6_pass : VW yX6_pass cX6_pass 5 (some .int) 1 := ⟨⟨List.mem_of_getElem? (i := 5) (by decide +kernel), List.mem_of_getElem? (i := 483) (by decide +kernel), by decide, by decide +kernel⟩, List.mem_of_getElem? (i := 481) (by decide +kernel), List.mem_of_getElem? (i := 482) (by decide +kernel)⟩
theorem vw_X5_count : VW yX5_count cX5_count 2 (some .int) 1 := ⟨⟨List.mem_of_getElem? (i := 2) (by decide +kernel), List.mem_of_getElem? (i := 488) (by decide +kernel), by decide, by decide +kernel⟩, List.mem_of_getElem? (i := 486) (by decide +kernel), List.mem_of_getElem? (i := 487) (by decide +kernel)⟩
theorem vw_X0_waiting : VW yX0_waiting cX0_waiting 3 (some .int) 0 := ⟨⟨List.mem_of_getElem? (i := 14) (by decide +kernel), List.mem_of_getElem? (i := 492) (by decide +kernel), by decide, by decide +kernel⟩, List.mem_of_getElem? (i := 490) (by decide +kernel), List.mem_of_getElem? (i := 491) (by decide +kernel)⟩
theorem vw_X6_count : VW yX6_count cX6_count 4 (some .int) 1 := ⟨⟨List.mem_of_getElem? (i := 5) (by decide +kernel), List.mem_of_getElem? (i := 497) (by decide +kernel), by decide, by decide +kernel⟩, List.mem_of_getElem? (i := 495) (by decide +kernel), List.mem_of_getElem? (i := 496) (by decide +kernel)⟩
theorem vw_X6_set : VW yX6_set cX6_set 4 (some .int) 1 := ⟨⟨List.mem_of_getElem? (i := 5) (by decide +kernel), List.mem_of_getElem? (i := 501) (by decide +kernel), by decide, by decide +kernel⟩, List.mem_of_getElem? (i := 499) (by decide +kernel), List.mem_of_getElem? (i := 500) (by decide +kernel)⟩
theorem vw_X5_relay : VW yX5_relay cX5_relay 3 (some .int) 2 := ⟨⟨List.mem_of_getElem? (i := 2) (by decide +kernel), List.mem_of_getElem? (i := 505) (by decide +kernel), by decide, by decide +kernel⟩, List.mem_of_getElem? (i := 503) (by decide +kernel), List.mem_of_getElem? (i := 504) (by decide +kernel)⟩
theorem vw_X0_concerns : VW yX0_concerns cX0_concerns 5 (some .boolean) 2 := ⟨⟨List.mem_of_getElem? (i := 14) (by decide +kernel), List.mem_of_getElem? (i := 510) (by decide +kernel), by decide, by decide +kernel⟩, List.mem_of_getElem? (i := 508) (by decide +kernel), List.mem_of_getElem? (i := 509) (by decide +kernel)⟩
theorem vw_X6_relay : VW yX6_relay cX6_relay 3 (some .int) 2 := ⟨⟨List.mem_of_getElem? (i := 5) (by decide +kernel), List.mem_of_getElem? (i := 516) (by decide +kernel), by decide, by decide +kernel⟩, List.mem_of_getElem? (i := 514) (by decide +kernel), List.mem_of_getElem? (i := 515) (by decide +kernel)⟩
theorem vw_X6_ofItself : VW yX6_ofItself cX6_ofItself 4 (some .int) 1 := ⟨⟨List.mem_of_getElem? (i := 5) (by decide +kernel), List.mem_of_getElem? (i := 520) (by decide +kernel), by decide, by decide +kernel⟩, List.mem_of_getElem? (i := 518) (by decide +kernel), List.mem_of_getElem? (i := 519) (by decide +kernel)⟩
theorem vw_X5_condition : VW yX5_condition cX5_condition 4 (some .int) 3 := ⟨⟨List.mem_of_getElem? (i := 2) (by decide +kernel), List.mem_of_getElem? (i := 524) (by decide +kernel), by decide, by decide +kernel⟩, List.mem_of_getElem? (i := 522) (by decide +kernel), List.mem_of_getElem? (i := 523) (by decide +kernel)⟩
theorem vw_X6_condition : VW yX6_condition cX6_condition 4 (some .int) 3 := ⟨⟨List.mem_of_getElem? (i := 5) (by decide +kernel), List.mem_of_getElem? (i := 530) (by decide +kernel), by decide, by decide +kernel⟩, List.mem_of_getElem? (i := 528) (by decide +kernel), List.mem_of_getElem? (i := 529) (by decide +kernel)⟩
theorem vw_X5_event : VW yX5_event cX5_event 4 (some .int) 2 := ⟨⟨List.mem_of_getElem? (i := 2) (by decide +kernel), List.mem_of_getElem? (i := 534) (by decide +kernel), by decide, by decide +kernel⟩, List.mem_of_getElem? (i := 532) (by decide +kernel), List.mem_of_getElem? (i := 533) (by decide +kernel)⟩
theorem vw_X0_slotAt : VW yX0_slotAt cX0_slotAt 3 (some .int) 1 := ⟨⟨List.mem_of_getElem? (i := 14) (by decide +kernel), List.mem_of_getElem? (i := 538) (by decide +kernel), by decide, by decide +kernel⟩, List.mem_of_getElem? (i := 536) (by decide +kernel), List.mem_of_getElem? (i := 537) (by decide +kernel)⟩
theorem vw_X0_eventsBefore : VW yX0_eventsBefore cX0_eventsBefore 5 (some .int) 1 := ⟨⟨List.mem_of_getElem? (i := 14) (by decide +kernel), List.mem_of_getElem? (i := 542) (by decide +kernel), by decide, by decide +kernel⟩, List.mem_of_getElem? (i := 540) (by decide +kernel), List.mem_of_getElem? (i := 541) (by decide +kernel)⟩
theorem vw_X6_event : VW yX6_event cX6_event 6 (some .int) 2 := ⟨⟨List.mem_of_getElem? (i := 5) (by decide +kernel), List.mem_of_getElem? (i := 546) (by decide +kernel), by decide, by decide +kernel⟩, List.mem_of_getElem? (i := 544) (by decide +kernel), List.mem_of_getElem? (i := 545) (by decide +kernel)⟩
theorem vw_X5_outcome : VW yX5_outcome cX5_outcome 3 (some .int) 2 := ⟨⟨List.mem_of_getElem? (i := 2) (by decide +kernel), List.mem_of_getElem? (i := 550) (by decide +kernel), by decide, by decide +kernel⟩, List.mem_of_getElem? (i := 548) (by decide +kernel), List.mem_of_getElem? (i := 549) (by decide +kernel)⟩
theorem vw_X5_endingOf : VW yX5_endingOf cX5_endingOf 4 (some .int) 3 := ⟨⟨List.mem_of_getElem? (i := 2) (by decide +kernel), List.mem_of_getElem? (i := 554) (by decide +kernel), by decide, by decide +kernel⟩, List.mem_of_getElem? (i := 552) (by decide +kernel), List.mem_of_getElem? (i := 553) (by decide +kernel)⟩
theorem vw_X0_isQuiet : VW yX0_isQuiet cX0_isQuiet 1 (some .boolean) 0 := ⟨⟨List.mem_of_getElem? (i := 14) (by decide +kernel), List.mem_of_getElem? (i := 558) (by decide +kernel), by decide, by decide +kernel⟩, List.mem_of_getElem? (i := 556) (by decide +kernel), List.mem_of_getElem? (i := 557) (by decide +kernel)⟩
theorem vw_X6_outcome : VW yX6_outcome cX6_outcome 4 (some .int) 2 := ⟨⟨List.mem_of_getElem? (i := 5) (by decide +kernel), List.mem_of_getElem? (i := 562) (by decide +kernel), by decide, by decide +kernel⟩, List.mem_of_getElem? (i := 560) (by decide +kernel), List.mem_of_getElem? (i := 561) (by decide +kernel)⟩
theorem vw_X6_ends : VW yX6_ends cX6_ends 4 (some .int) 2 := ⟨⟨List.mem_of_getElem? (i := 5) (by decide +kernel), List.mem_of_getElem? (i := 566) (by decide +kernel), by decide, by decide +kernel⟩, List.mem_of_getElem? (i := 564) (by decide +kernel), List.mem_of_getElem? (i := 565) (by decide +kernel)⟩
theorem vw_X6_restores : VW yX6_restores cX6_restores 2 none 0 := ⟨⟨List.mem_of_getElem? (i := 5) (by decide +kernel), List.mem_of_getElem? (i := 570) (by decide +kernel), by decide, by decide +kernel⟩, List.mem_of_getElem? (i := 568) (by decide +kernel), List.mem_of_getElem? (i := 569) (by decide +kernel)⟩
theorem vw_X5_isRace : VW yX5_isRace cX5_isRace 1 (some .int) 0 := ⟨⟨List.mem_of_getElem? (i := 2) (by decide +kernel), List.mem_of_getElem? (i := 574) (by decide +kernel), by decide, by decide +kernel⟩, List.mem_of_getElem? (i := 572) (by decide +kernel), List.mem_of_getElem? (i := 573) (by decide +kernel)⟩
theorem vw_X5_raceIn : VW yX5_raceIn cX5_raceIn 3 (some .int) 1 := ⟨⟨List.mem_of_getElem? (i := 2) (by decide +kernel), List.mem_of_getElem? (i := 578) (by decide +kernel), by decide, by decide +kernel⟩, List.mem_of_getElem? (i := 576) (by decide +kernel), List.mem_of_getElem? (i := 577) (by decide +kernel)⟩
theorem vw_X6_isRace : VW yX6_isRace cX6_isRace 1 (some .int) 0 := ⟨⟨List.mem_of_getElem? (i := 5) (by decide +kernel), List.mem_of_getElem? (i := 582) (by decide +kernel), by decide, by decide +kernel⟩, List.mem_of_getElem? (i := 580) (by decide +kernel), List.mem_of_getElem? (i := 581) (by decide +kernel)⟩
theorem vw_X6_races : VW yX6_races cX6_races 4 (some .int) 0 := ⟨⟨List.mem_of_getElem? (i := 5) (by decide +kernel), List.mem_of_getElem? (i := 586) (by decide +kernel), by decide, by decide +kernel⟩, List.mem_of_getElem? (i := 584) (by decide +kernel), List.mem_of_getElem? (i := 585) (by decide +kernel)⟩
theorem vw_X5_raceBy : VW yX5_raceBy cX5_raceBy 2 (some .int) 1 := ⟨⟨List.mem_of_getElem? (i := 2) (by decide +kernel), List.mem_of_getElem? (i := 590) (by decide +kernel), by decide, by decide +kernel⟩, List.mem_of_getElem? (i := 588) (by decide +kernel), List.mem_of_getElem? (i := 589) (by decide +kernel)⟩
theorem vw_X6_raceBy : VW yX6_raceBy cX6_raceBy 3 (some .int) 1 := ⟨⟨List.mem_of_getElem? (i := 5) (by decide +kernel), List.mem_of_getElem? (i := 594) (by decide +kernel), by decide, by decide +kernel⟩, List.mem_of_getElem? (i := 592) (by decide +kernel), List.mem_of_getElem? (i := 593) (by decide +kernel)⟩
theorem vw_X5_hazards : VW yX5_hazards cX5_hazards 4 (some .int) 1 := ⟨⟨List.mem_of_getElem? (i := 2) (by decide +kernel), List.mem_of_getElem? (i := 598) (by decide +kernel), by decide, by decide +kernel⟩, List.mem_of_getElem? (i := 596) (by decide +kernel), List.mem_of_getElem? (i := 597) (by decide +kernel)⟩
theorem vw_X6_hazards : VW yX6_hazards cX6_hazards 6 (some .int) 1 := ⟨⟨List.mem_of_getElem? (i := 5) (by decide +kernel), List.mem_of_getElem? (i := 602) (by decide +kernel), by decide, by decide +kernel⟩, List.mem_of_getElem? (i := 600) (by decide +kernel), List.mem_of_getElem? (i := 601) (by decide +kernel)⟩
theorem vw_X5_stableStates : VW yX5_stableStates cX5_stableStates 4 (some .int) 0 := ⟨⟨List.mem_of_getElem? (i := 2) (by decide +kernel), List.mem_of_getElem? (i := 606) (by decide +kernel), by decide, by decide +kernel⟩, List.mem_of_getElem? (i := 604) (by decide +kernel), List.mem_of_getElem? (i := 605) (by decide +kernel)⟩
theorem vw_X0_isStable : VW yX0_isStable cX0_isStable 3 (some .boolean) 0 := ⟨⟨List.mem_of_getElem? (i := 14) (by decide +kernel), List.mem_of_getElem? (i := 610) (by decide +kernel), by decide, by decide +kernel⟩, List.mem_of_getElem? (i := 608) (by decide +kernel), List.mem_of_getElem? (i := 609) (by decide +kernel)⟩
theorem vw_X6_stableStates : VW yX6_stableStates cX6_stableStates 3 (some .int) 0 := ⟨⟨List.mem_of_getElem? (i := 5) (by decide +kernel), List.mem_of_getElem? (i := 614) (by decide +kernel), by decide, by decide +kernel⟩, List.mem_of_getElem? (i := 612) (by decide +kernel), List.mem_of_getElem? (i := 613) (by decide +kernel)⟩
theorem vw_X6_isStable : VW yX6_isStable cX6_isStable 6 (some .boolean) 1 := ⟨⟨List.mem_of_getElem? (i := 5) (by decide +kernel), List.mem_of_getElem? (i := 618) (by decide +kernel), by decide, by decide +kernel⟩, List.mem_of_getElem? (i := 616) (by decide +kernel), List.mem_of_getElem? (i := 617) (by decide +kernel)⟩
theorem vw_X5_explain : VW yX5_explain cX5_explain 5 (some .int) 1 := ⟨⟨List.mem_of_getElem? (i := 2) (by decide +kernel), List.mem_of_getElem? (i := 622) (by decide +kernel), by decide, by decide +kernel⟩, List.mem_of_getElem? (i := 620) (by decide +kernel), List.mem_of_getElem? (i := 621) (by decide +kernel)⟩
theorem vw_X6_explain : VW yX6_explain cX6_explain 4 (some .int) 1 := ⟨⟨List.mem_of_getElem? (i := 5) (by decide +kernel), List.mem_of_getElem? (i := 626) (by decide +kernel), by decide, by decide +kernel⟩, List.mem_of_getElem? (i := 624) (by decide +kernel), List.mem_of_getElem? (i := 625) (by decide +kernel)⟩
theorem vw_X5_undo : VW yX5_undo cX5_undo 1 (some .int) 0 := ⟨⟨List.mem_of_getElem? (i := 2) (by decide +kernel), List.mem_of_getElem? (i := 630) (by decide +kernel), by decide, by decide +kernel⟩, List.mem_of_getElem? (i := 628) (by decide +kernel), List.mem_of_getElem? (i := 629) (by decide +kernel)⟩
theorem vw_X3_restore : VW yX3_restore cX3_restore 3 (some .boolean) 1 := ⟨⟨List.mem_of_getElem? (i := 18) (by decide +kernel), List.mem_of_getElem? (i := 634) (by decide +kernel), by decide, by decide +kernel⟩, List.mem_of_getElem? (i := 632) (by decide +kernel), List.mem_of_getElem? (i := 633) (by decide +kernel)⟩
theorem vw_X6_undo : VW yX6_undo cX6_undo 2 (some .int) 0 := ⟨⟨List.mem_of_getElem? (i := 5) (by decide +kernel), List.mem_of_getElem? (i := 638) (by decide +kernel), by decide, by decide +kernel⟩, List.mem_of_getElem? (i := 636) (by decide +kernel), List.mem_of_getElem? (i := 637) (by decide +kernel)⟩
