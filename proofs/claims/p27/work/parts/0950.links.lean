theorem clk_L_13 : Cond.classLink RL 13 RX5 ∈ wsL_law := List.mem_of_getElem? (i := 0) (by decide +kernel)
theorem lk_L_76 : Cond.methodLink RL 76 yX5_init ∈ wsL_law := List.mem_of_getElem? (i := 3) (by decide +kernel)
theorem lk_X5_3 : Cond.methodLink RX5 3 objectInit ∈ wsL_law := List.mem_of_getElem? (i := 6) (by decide +kernel)
theorem clk_X5_9 : Cond.classLink RX5 9 RX0 ∈ wsL_law := List.mem_of_getElem? (i := 9) (by decide +kernel)
theorem fk_X5_12 : FLK RX5 12 4 0 true (.object "RelayBank$Bank") := ⟨RX5, TX5, 6, tyX5, rfl, inlX5, by decide, List.mem_of_getElem? (i := 12) (by decide +kernel), tyX5_ok, nmX5, rfl, tyX5_ok 0 (by decide), rfl⟩
theorem clk_X5_16 : Cond.classLink RX5 16 RX3 ∈ wsL_law := List.mem_of_getElem? (i := 13) (by decide +kernel)
theorem fk_X5_19 : FLK RX5 19 4 1 true (.object "RelayBank$Past") := ⟨RX5, TX5, 6, tyX5, rfl, inlX5, by decide, List.mem_of_getElem? (i := 16) (by decide +kernel), tyX5_ok, nmX5, rfl, tyX5_ok 1 (by decide), rfl⟩
theorem clk_X5_23 : Cond.classLink RX5 23 RX4 ∈ wsL_law := List.mem_of_getElem? (i := 17) (by decide +kernel)
theorem fk_X5_26 : FLK RX5 26 4 2 true (.object "RelayBank$Text") := ⟨RX5, TX5, 6, tyX5, rfl, inlX5, by decide, List.mem_of_getElem? (i := 20) (by decide +kernel), tyX5_ok, nmX5, rfl, tyX5_ok 2 (by decide), rfl⟩
theorem clk_X5_30 : Cond.classLink RX5 30 RX2 ∈ wsL_law := List.mem_of_getElem? (i := 21) (by decide +kernel)
theorem fk_X5_33 : FLK RX5 33 4 3 true (.object "RelayBank$CircuitReader") := ⟨RX5, TX5, 6, tyX5, rfl, inlX5, by decide, List.mem_of_getElem? (i := 24) (by decide +kernel), tyX5_ok, nmX5, rfl, tyX5_ok 3 (by decide), rfl⟩
theorem fk_X5_37 : FLK RX5 37 4 4 true (.object "RelayBank$Bank") := ⟨RX5, TX5, 6, tyX5, rfl, inlX5, by decide, List.mem_of_getElem? (i := 25) (by decide +kernel), tyX5_ok, nmX5, rfl, tyX5_ok 4 (by decide), rfl⟩
theorem fk_X5_40 : FLK RX5 40 4 5 true (.object "RelayBank$Bank") := ⟨RX5, TX5, 6, tyX5, rfl, inlX5, by decide, List.mem_of_getElem? (i := 26) (by decide +kernel), tyX5_ok, nmX5, rfl, tyX5_ok 5 (by decide), rfl⟩
theorem lk_X5_11 : Cond.methodLink RX5 11 yX0_init ∈ wsL_law := List.mem_of_getElem? (i := 27) (by decide +kernel)
theorem lk_X0_3 : Cond.methodLink RX0 3 objectInit ∈ wsL_law := List.mem_of_getElem? (i := 30) (by decide +kernel)
theorem fk_X0_9 : FLK RX0 9 0 0 true (.array .int) := ⟨RX0, TX0, 15, tyX0, rfl, inlX0, by decide, List.mem_of_getElem? (i := 32) (by decide +kernel), tyX0_ok, nmX0, rfl, tyX0_ok 0 (by decide), rfl⟩
theorem fk_X0_15 : FLK RX0 15 0 1 true (.array .int) := ⟨RX0, TX0, 15, tyX0, rfl, inlX0, by decide, List.mem_of_getElem? (i := 33) (by decide +kernel), tyX0_ok, nmX0, rfl, tyX0_ok 1 (by decide), rfl⟩
theorem fk_X0_18 : FLK RX0 18 0 2 true (.array .int) := ⟨RX0, TX0, 15, tyX0, rfl, inlX0, by decide, List.mem_of_getElem? (i := 34) (by decide +kernel), tyX0_ok, nmX0, rfl, tyX0_ok 2 (by decide), rfl⟩
theorem fk_X0_21 : FLK RX0 21 0 3 true (.array .int) := ⟨RX0, TX0, 15, tyX0, rfl, inlX0, by decide, List.mem_of_getElem? (i := 35) (by decide +kernel), tyX0_ok, nmX0, rfl, tyX0_ok 3 (by decide), rfl⟩
theorem fk_X0_24 : FLK RX0 24 0 4 true (.array .int) := ⟨RX0, TX0, 15, tyX0, rfl, inlX0, by decide, List.mem_of_getElem? (i := 36) (by decide +kernel), tyX0_ok, nmX0, rfl, tyX0_ok 4 (by decide), rfl⟩
theorem fk_X0_27 : FLK RX0 27 0 5 true (.array .int) := ⟨RX0, TX0, 15, tyX0, rfl, inlX0, by decide, List.mem_of_getElem? (i := 37) (by decide +kernel), tyX0_ok, nmX0, rfl, tyX0_ok 5 (by decide), rfl⟩
theorem ck_X0_30 : Cond.constant RX0 30 (2147483647) ∈ wsL_law := List.mem_of_getElem? (i := 38) (by decide +kernel)
theorem lk_X5_18 : Cond.methodLink RX5 18 yX3_init ∈ wsL_law := List.mem_of_getElem? (i := 39) (by decide +kernel)
theorem lk_X3_3 : Cond.methodLink RX3 3 objectInit ∈ wsL_law := List.mem_of_getElem? (i := 42) (by decide +kernel)
theorem clk_X3_9 : Cond.classLink RX3 9 RX0 ∈ wsL_law := List.mem_of_getElem? (i := 43) (by decide +kernel)
theorem fk_X3_11 : FLK RX3 11 2 0 true (.array (.object "RelayBank$Bank")) := ⟨RX3, TX3, 3, tyX3, rfl, inlX3, by decide, List.mem_of_getElem? (i := 44) (by decide +kernel), tyX3_ok, nmX3, rfl, tyX3_ok 0 (by decide), rfl⟩
theorem lk_X3_17 : Cond.methodLink RX3 17 yX0_init ∈ wsL_law := List.mem_of_getElem? (i := 45) (by decide +kernel)
theorem lk_X4_3 : Cond.methodLink RX4 3 objectInit ∈ wsL_law := List.mem_of_getElem? (i := 48) (by decide +kernel)
theorem fk_X4_9 : FLK RX4 9 3 0 true (.array .char) := ⟨RX4, TX4, 2, tyX4, rfl, inlX4, by decide, List.mem_of_getElem? (i := 50) (by decide +kernel), tyX4_ok, nmX4, rfl, tyX4_ok 0 (by decide), rfl⟩
theorem lk_X2_3 : Cond.methodLink RX2 3 objectInit ∈ wsL_law := List.mem_of_getElem? (i := 53) (by decide +kernel)
theorem fk_X2_9 : FLK RX2 9 1 0 true (.array .int) := ⟨RX2, TX2, 4, tyX2, rfl, inlX2, by decide, List.mem_of_getElem? (i := 54) (by decide +kernel), tyX2_ok, nmX2, rfl, tyX2_ok 0 (by decide), rfl⟩
theorem lk_L_77 : Cond.methodLink RL 77 yL_cell ∈ wsL_law := List.mem_of_getElem? (i := 55) (by decide +kernel)
theorem lk_L_81 : Cond.methodLink RL 81 yL_tale ∈ wsL_law := List.mem_of_getElem? (i := 59) (by decide +kernel)
theorem ckl_L_8 : Cond.constantLong RL 8 (3) ∈ wsL_law := List.mem_of_getElem? (i := 62) (by decide +kernel)
theorem ckl_L_10 : Cond.constantLong RL 10 (31) ∈ wsL_law := List.mem_of_getElem? (i := 63) (by decide +kernel)
theorem ckl_L_18 : Cond.constantLong RL 18 (37) ∈ wsL_law := List.mem_of_getElem? (i := 64) (by decide +kernel)
theorem ckl_L_24 : Cond.constantLong RL 24 (41) ∈ wsL_law := List.mem_of_getElem? (i := 65) (by decide +kernel)
theorem ckl_L_30 : Cond.constantLong RL 30 (43) ∈ wsL_law := List.mem_of_getElem? (i := 66) (by decide +kernel)
theorem ckl_L_35 : Cond.constantLong RL 35 (5) ∈ wsL_law := List.mem_of_getElem? (i := 67) (by decide +kernel)
theorem ckl_L_37 : Cond.constantLong RL 37 (7) ∈ wsL_law := List.mem_of_getElem? (i := 68) (by decide +kernel)
theorem lk_L_12 : Cond.methodLink RL 12 yX5_count ∈ wsL_law := List.mem_of_getElem? (i := 69) (by decide +kernel)
theorem lk_X5_156 : Cond.methodLink RX5 156 yX0_waiting ∈ wsL_law := List.mem_of_getElem? (i := 73) (by decide +kernel)
theorem lk_X5_166 : Cond.methodLink RX5 166 yX0_closedContacts ∈ wsL_law := List.mem_of_getElem? (i := 77) (by decide +kernel)
theorem fk_X0_50 : FLK RX0 50 0 10 false .int := ⟨RX0, TX0, 15, tyX0, rfl, inlX0, by decide, List.mem_of_getElem? (i := 81) (by decide +kernel), tyX0_ok, nmX0, rfl, tyX0_ok 10 (by decide), rfl⟩
theorem fk_X0_53 : FLK RX0 53 0 11 false .int := ⟨RX0, TX0, 15, tyX0, rfl, inlX0, by decide, List.mem_of_getElem? (i := 82) (by decide +kernel), tyX0_ok, nmX0, rfl, tyX0_ok 11 (by decide), rfl⟩
theorem fk_X0_59 : FLK RX0 59 0 13 false .int := ⟨RX0, TX0, 15, tyX0, rfl, inlX0, by decide, List.mem_of_getElem? (i := 83) (by decide +kernel), tyX0_ok, nmX0, rfl, tyX0_ok 13 (by decide), rfl⟩
theorem fk_X0_62 : FLK RX0 62 0 14 false .int := ⟨RX0, TX0, 15, tyX0, rfl, inlX0, by decide, List.mem_of_getElem? (i := 84) (by decide +kernel), tyX0_ok, nmX0, rfl, tyX0_ok 14 (by decide), rfl⟩
theorem lk_L_20 : Cond.methodLink RL 20 yX5_relay ∈ wsL_law := List.mem_of_getElem? (i := 85) (by decide +kernel)
theorem lk_X5_59 : Cond.methodLink RX5 59 yX0_has ∈ wsL_law := List.mem_of_getElem? (i := 89) (by decide +kernel)
theorem fk_X0_37 : FLK RX0 37 0 6 false .int := ⟨RX0, TX0, 15, tyX0, rfl, inlX0, by decide, List.mem_of_getElem? (i := 93) (by decide +kernel), tyX0_ok, nmX0, rfl, tyX0_ok 6 (by decide), rfl⟩
theorem lk_X5_176 : Cond.methodLink RX5 176 yX5_at ∈ wsL_law := List.mem_of_getElem? (i := 96) (by decide +kernel)
theorem lk_X5_67 : Cond.methodLink RX5 67 yX0_branchesOf ∈ wsL_law := List.mem_of_getElem? (i := 99) (by decide +kernel)
theorem lk_X5_117 : Cond.methodLink RX5 117 yX0_faultOf ∈ wsL_law := List.mem_of_getElem? (i := 103) (by decide +kernel)
theorem lk_X5_127 : Cond.methodLink RX5 127 yX5_bitOf ∈ wsL_law := List.mem_of_getElem? (i := 109) (by decide +kernel)
theorem lk_X5_186 : Cond.methodLink RX5 186 yX0_concerns ∈ wsL_law := List.mem_of_getElem? (i := 112) (by decide +kernel)
theorem lk_X0_81 : Cond.methodLink RX0 81 yX0_branchesOf ∈ wsL_law := List.mem_of_getElem? (i := 116) (by decide +kernel)
theorem lk_X0_85 : Cond.methodLink RX0 85 yX0_branchAt ∈ wsL_law := List.mem_of_getElem? (i := 117) (by decide +kernel)
theorem lk_X0_103 : Cond.methodLink RX0 103 yX1_howOf ∈ wsL_law := List.mem_of_getElem? (i := 121) (by decide +kernel)
theorem lk_X1_9 : Cond.methodLink RX1 9 yX1_bit ∈ wsL_law := List.mem_of_getElem? (i := 125) (by decide +kernel)
theorem lk_X5_189 : Cond.methodLink RX5 189 yX0_failing ∈ wsL_law := List.mem_of_getElem? (i := 128) (by decide +kernel)
theorem fk_X0_44 : FLK RX0 44 0 8 false .int := ⟨RX0, TX0, 15, tyX0, rfl, inlX0, by decide, List.mem_of_getElem? (i := 132) (by decide +kernel), tyX0_ok, nmX0, rfl, tyX0_ok 8 (by decide), rfl⟩
theorem ck_X0_113 : Cond.constant RX0 113 (65535) ∈ wsL_law := List.mem_of_getElem? (i := 133) (by decide +kernel)
theorem lk_X0_110 : Cond.methodLink RX0 110 yX0_closedContacts ∈ wsL_law := List.mem_of_getElem? (i := 134) (by decide +kernel)
theorem lk_X5_192 : Cond.methodLink RX5 192 yX0_conducts ∈ wsL_law := List.mem_of_getElem? (i := 135) (by decide +kernel)
theorem lk_L_26 : Cond.methodLink RL 26 yX5_condition ∈ wsL_law := List.mem_of_getElem? (i := 139) (by decide +kernel)
theorem lk_X5_71 : Cond.methodLink RX5 71 yX5_isWithin ∈ wsL_law := List.mem_of_getElem? (i := 143) (by decide +kernel)
theorem lk_X5_195 : Cond.methodLink RX5 195 yX0_branchAt ∈ wsL_law := List.mem_of_getElem? (i := 144) (by decide +kernel)
theorem lk_X5_198 : Cond.methodLink RX5 198 yX1_howOf ∈ wsL_law := List.mem_of_getElem? (i := 145) (by decide +kernel)
theorem lk_L_32 : Cond.methodLink RL 32 yX5_event ∈ wsL_law := List.mem_of_getElem? (i := 146) (by decide +kernel)
theorem lk_X5_203 : Cond.methodLink RX5 203 yX0_slotAt ∈ wsL_law := List.mem_of_getElem? (i := 150) (by decide +kernel)
theorem lk_X0_135 : Cond.methodLink RX0 135 yX0_eventsBefore ∈ wsL_law := List.mem_of_getElem? (i := 154) (by decide +kernel)
theorem lk_X5_141 : Cond.methodLink RX5 141 yX0_relayOf ∈ wsL_law := List.mem_of_getElem? (i := 158) (by decide +kernel)
theorem lk_X5_134 : Cond.methodLink RX5 134 yX0_kindOf ∈ wsL_law := List.mem_of_getElem? (i := 161) (by decide +kernel)
theorem fk_X0_47 : FLK RX0 47 0 9 false .int := ⟨RX0, TX0, 15, tyX0, rfl, inlX0, by decide, List.mem_of_getElem? (i := 165) (by decide +kernel), tyX0_ok, nmX0, rfl, tyX0_ok 9 (by decide), rfl⟩
theorem lk_X0_124 : Cond.methodLink RX0 124 yX0_isBounceEnd ∈ wsL_law := List.mem_of_getElem? (i := 166) (by decide +kernel)
theorem lk_X0_128 : Cond.methodLink RX0 128 yX0_relayOf ∈ wsL_law := List.mem_of_getElem? (i := 169) (by decide +kernel)
theorem lk_L_85 : Cond.methodLink RL 85 yL_does ∈ wsL_law := List.mem_of_getElem? (i := 170) (by decide +kernel)
theorem lk_L_39 : Cond.methodLink RL 39 yL_low ∈ wsL_law := List.mem_of_getElem? (i := 173) (by decide +kernel)
theorem ck_L_7 : Cond.constant RL 7 (2147483647) ∈ wsL_law := List.mem_of_getElem? (i := 176) (by decide +kernel)
theorem lk_L_44 : Cond.methodLink RL 44 yX5_addRelay ∈ wsL_law := List.mem_of_getElem? (i := 177) (by decide +kernel)
theorem lk_X5_43 : Cond.methodLink RX5 43 yX5_areDelays ∈ wsL_law := List.mem_of_getElem? (i := 181) (by decide +kernel)
theorem lk_X5_51 : Cond.methodLink RX5 51 yX3_save ∈ wsL_law := List.mem_of_getElem? (i := 184) (by decide +kernel)
theorem fk_X3_28 : FLK RX3 28 2 2 false .int := ⟨RX3, TX3, 3, tyX3, rfl, inlX3, by decide, List.mem_of_getElem? (i := 188) (by decide +kernel), tyX3_ok, nmX3, rfl, tyX3_ok 2 (by decide), rfl⟩
theorem fk_X3_18 : FLK RX3 18 2 1 false .int := ⟨RX3, TX3, 3, tyX3, rfl, inlX3, by decide, List.mem_of_getElem? (i := 189) (by decide +kernel), tyX3_ok, nmX3, rfl, tyX3_ok 1 (by decide), rfl⟩
theorem lk_X3_22 : Cond.methodLink RX3 22 yJ9_floorMod_7cf53 ∈ wsL_law := List.mem_of_getElem? (i := 190) (by decide +kernel)
theorem lk_X3_31 : Cond.methodLink RX3 31 yX3_bankAt ∈ wsL_law := List.mem_of_getElem? (i := 194) (by decide +kernel)
theorem lk_X3_35 : Cond.methodLink RX3 35 yX0_copy ∈ wsL_law := List.mem_of_getElem? (i := 198) (by decide +kernel)
theorem lk_X0_31 : Cond.methodLink RX0 31 arraycopyName ∈ wsL_law := List.mem_of_getElem? (i := 202) (by decide +kernel)
theorem fk_X0_41 : FLK RX0 41 0 7 false .int := ⟨RX0, TX0, 15, tyX0, rfl, inlX0, by decide, List.mem_of_getElem? (i := 206) (by decide +kernel), tyX0_ok, nmX0, rfl, tyX0_ok 7 (by decide), rfl⟩
theorem fk_X0_56 : FLK RX0 56 0 12 false .int := ⟨RX0, TX0, 15, tyX0, rfl, inlX0, by decide, List.mem_of_getElem? (i := 207) (by decide +kernel), tyX0_ok, nmX0, rfl, tyX0_ok 12 (by decide), rfl⟩
theorem lk_X5_55 : Cond.methodLink RX5 55 yX0_add ∈ wsL_law := List.mem_of_getElem? (i := 208) (by decide +kernel)
theorem lk_X0_69 : Cond.methodLink RX0 69 yX0_putDelays ∈ wsL_law := List.mem_of_getElem? (i := 212) (by decide +kernel)
theorem lk_L_47 : Cond.methodLink RL 47 yX5_setDelays ∈ wsL_law := List.mem_of_getElem? (i := 218) (by decide +kernel)
theorem lk_X5_63 : Cond.methodLink RX5 63 yX0_putDelays ∈ wsL_law := List.mem_of_getElem? (i := 222) (by decide +kernel)
theorem lk_L_51 : Cond.methodLink RL 51 yX5_setCondition ∈ wsL_law := List.mem_of_getElem? (i := 223) (by decide +kernel)
theorem lk_X5_74 : Cond.methodLink RX5 74 yX0_putCondition ∈ wsL_law := List.mem_of_getElem? (i := 227) (by decide +kernel)
theorem lk_X0_89 : Cond.methodLink RX0 89 yX1_with ∈ wsL_law := List.mem_of_getElem? (i := 231) (by decide +kernel)
theorem lk_X0_95 : Cond.methodLink RX0 95 yX0_putBranch ∈ wsL_law := List.mem_of_getElem? (i := 234) (by decide +kernel)
theorem lk_X0_99 : Cond.methodLink RX0 99 yX0_lookAtCoils ∈ wsL_law := List.mem_of_getElem? (i := 238) (by decide +kernel)
theorem lk_X0_114 : Cond.methodLink RX0 114 yX0_failing ∈ wsL_law := List.mem_of_getElem? (i := 242) (by decide +kernel)
theorem lk_X0_117 : Cond.methodLink RX0 117 yX0_conducts ∈ wsL_law := List.mem_of_getElem? (i := 243) (by decide +kernel)
theorem lk_X0_120 : Cond.methodLink RX0 120 yX0_turnCoil ∈ wsL_law := List.mem_of_getElem? (i := 244) (by decide +kernel)
theorem lk_L_54 : Cond.methodLink RL 54 yX5_removeBranch ∈ wsL_law := List.mem_of_getElem? (i := 248) (by decide +kernel)
theorem lk_X5_78 : Cond.methodLink RX5 78 yX0_dropBranch ∈ wsL_law := List.mem_of_getElem? (i := 252) (by decide +kernel)
theorem lk_L_57 : Cond.methodLink RL 57 yX5_press ∈ wsL_law := List.mem_of_getElem? (i := 256) (by decide +kernel)
theorem lk_X5_104 : Cond.methodLink RX5 104 yX5_isKey ∈ wsL_law := List.mem_of_getElem? (i := 260) (by decide +kernel)
theorem lk_X5_110 : Cond.methodLink RX5 110 yX5_isIn ∈ wsL_law := List.mem_of_getElem? (i := 263) (by decide +kernel)
theorem lk_X5_114 : Cond.methodLink RX5 114 yX0_turnKey ∈ wsL_law := List.mem_of_getElem? (i := 264) (by decide +kernel)
theorem lk_L_60 : Cond.methodLink RL 60 yX5_setFault ∈ wsL_law := List.mem_of_getElem? (i := 268) (by decide +kernel)
theorem lk_X5_120 : Cond.methodLink RX5 120 yX0_putFault ∈ wsL_law := List.mem_of_getElem? (i := 272) (by decide +kernel)
theorem lk_L_63 : Cond.methodLink RL 63 yX5_stick ∈ wsL_law := List.mem_of_getElem? (i := 276) (by decide +kernel)
theorem lk_L_66 : Cond.methodLink RL 66 yX5_settle ∈ wsL_law := List.mem_of_getElem? (i := 280) (by decide +kernel)
theorem ck_X5_144 : Cond.constant RX5 144 (2147483647) ∈ wsL_law := List.mem_of_getElem? (i := 284) (by decide +kernel)
theorem lk_X5_145 : Cond.methodLink RX5 145 yX0_run ∈ wsL_law := List.mem_of_getElem? (i := 285) (by decide +kernel)
theorem lk_X0_131 : Cond.methodLink RX0 131 yX0_nextSlot ∈ wsL_law := List.mem_of_getElem? (i := 289) (by decide +kernel)
theorem lk_X0_141 : Cond.methodLink RX0 141 yX0_happen ∈ wsL_law := List.mem_of_getElem? (i := 293) (by decide +kernel)
theorem lk_X0_138 : Cond.methodLink RX0 138 yX0_moveArmature ∈ wsL_law := List.mem_of_getElem? (i := 297) (by decide +kernel)
theorem lk_L_69 : Cond.methodLink RL 69 yX5_pass ∈ wsL_law := List.mem_of_getElem? (i := 301) (by decide +kernel)
theorem ck_X5_152 : Cond.constant RX5 152 (100000) ∈ wsL_law := List.mem_of_getElem? (i := 305) (by decide +kernel)
theorem lk_X5_153 : Cond.methodLink RX5 153 yX0_copy ∈ wsL_law := List.mem_of_getElem? (i := 306) (by decide +kernel)
theorem lk_L_72 : Cond.methodLink RL 72 yX5_step ∈ wsL_law := List.mem_of_getElem? (i := 307) (by decide +kernel)
theorem lk_X5_130 : Cond.methodLink RX5 130 yX0_nextSlot ∈ wsL_law := List.mem_of_getElem? (i := 311) (by decide +kernel)
theorem lk_X5_137 : Cond.methodLink RX5 137 yX0_happen ∈ wsL_law := List.mem_of_getElem? (i := 312) (by decide +kernel)
theorem lk_L_89 : Cond.methodLink RL 89 yX5_undo ∈ wsL_law := List.mem_of_getElem? (i := 313) (by decide +kernel)
theorem lk_X5_224 : Cond.methodLink RX5 224 yX3_restore ∈ wsL_law := List.mem_of_getElem? (i := 317) (by decide +kernel)
theorem lk_L_92 : Cond.methodLink RL 92 yX5_isRace ∈ wsL_law := List.mem_of_getElem? (i := 321) (by decide +kernel)
theorem lk_X5_213 : Cond.methodLink RX5 213 yX5_raceIn ∈ wsL_law := List.mem_of_getElem? (i := 325) (by decide +kernel)
theorem lk_X5_209 : Cond.methodLink RX5 209 yX5_endingOf ∈ wsL_law := List.mem_of_getElem? (i := 329) (by decide +kernel)
theorem lk_X5_217 : Cond.methodLink RX5 217 yX0_isQuiet ∈ wsL_law := List.mem_of_getElem? (i := 333) (by decide +kernel)
theorem lk_L_95 : Cond.methodLink RL 95 yX5_outcome ∈ wsL_law := List.mem_of_getElem? (i := 337) (by decide +kernel)
theorem nk_X0_65 : (RX0, 65, yX5_isWithin) ∈ nestG := List.mem_of_getElem? (i := 0) rfl
theorem nk_X0_73 : (RX0, 73, yX5_at) ∈ nestG := List.mem_of_getElem? (i := 1) rfl
theorem nk_X0_77 : (RX0, 77, yX5_put) ∈ nestG := List.mem_of_getElem? (i := 2) rfl
theorem nk_X0_106 : (RX0, 106, yX5_isIn) ∈ nestG := List.mem_of_getElem? (i := 3) rfl
theorem nk_X5_25 : (RX5, 25, yX4_init) ∈ nestG := List.mem_of_getElem? (i := 4) rfl
theorem nk_X5_32 : (RX5, 32, yX2_init) ∈ nestG := List.mem_of_getElem? (i := 5) rfl
theorem fn_X5_173 : FLN RX5 173 0 0 true (.array .int) := ⟨RX0, TX0, 15, tyX0, rfl, inlX0, by decide, List.mem_of_getElem? (i := 0) rfl, tyX0_ok, nmX0, rfl, tyX0_ok 0 (by decide), rfl⟩
theorem fn_X5_180 : FLN RX5 180 0 1 true (.array .int) := ⟨RX0, TX0, 15, tyX0, rfl, inlX0, by decide, List.mem_of_getElem? (i := 1) rfl, tyX0_ok, nmX0, rfl, tyX0_ok 1 (by decide), rfl⟩
theorem fn_X5_183 : FLN RX5 183 0 2 true (.array .int) := ⟨RX0, TX0, 15, tyX0, rfl, inlX0, by decide, List.mem_of_getElem? (i := 2) rfl, tyX0_ok, nmX0, rfl, tyX0_ok 2 (by decide), rfl⟩
theorem fn_X5_206 : FLN RX5 206 0 5 true (.array .int) := ⟨RX0, TX0, 15, tyX0, rfl, inlX0, by decide, List.mem_of_getElem? (i := 3) rfl, tyX0_ok, nmX0, rfl, tyX0_ok 5 (by decide), rfl⟩
theorem fn_X5_47 : FLN RX5 47 0 6 false .int := ⟨RX0, TX0, 15, tyX0, rfl, inlX0, by decide, List.mem_of_getElem? (i := 4) rfl, tyX0_ok, nmX0, rfl, tyX0_ok 6 (by decide), rfl⟩
theorem fn_X5_149 : FLN RX5 149 0 7 false .int := ⟨RX0, TX0, 15, tyX0, rfl, inlX0, by decide, List.mem_of_getElem? (i := 5) rfl, tyX0_ok, nmX0, rfl, tyX0_ok 7 (by decide), rfl⟩
theorem fn_X5_107 : FLN RX5 107 0 8 false .int := ⟨RX0, TX0, 15, tyX0, rfl, inlX0, by decide, List.mem_of_getElem? (i := 6) rfl, tyX0_ok, nmX0, rfl, tyX0_ok 8 (by decide), rfl⟩
theorem fn_X5_160 : FLN RX5 160 0 9 false .int := ⟨RX0, TX0, 15, tyX0, rfl, inlX0, by decide, List.mem_of_getElem? (i := 7) rfl, tyX0_ok, nmX0, rfl, tyX0_ok 9 (by decide), rfl⟩
theorem fn_X5_163 : FLN RX5 163 0 10 false .int := ⟨RX0, TX0, 15, tyX0, rfl, inlX0, by decide, List.mem_of_getElem? (i := 8) rfl, tyX0_ok, nmX0, rfl, tyX0_ok 10 (by decide), rfl⟩
theorem fn_X5_169 : FLN RX5 169 0 11 false .int := ⟨RX0, TX0, 15, tyX0, rfl, inlX0, by decide, List.mem_of_getElem? (i := 9) rfl, tyX0_ok, nmX0, rfl, tyX0_ok 11 (by decide), rfl⟩
theorem fn_X5_124 : FLN RX5 124 0 12 false .int := ⟨RX0, TX0, 15, tyX0, rfl, inlX0, by decide, List.mem_of_getElem? (i := 10) rfl, tyX0_ok, nmX0, rfl, tyX0_ok 12 (by decide), rfl⟩
theorem fn_X5_172 : FLN RX5 172 2 2 false .int := ⟨RX3, TX3, 3, tyX3, rfl, inlX3, by decide, List.mem_of_getElem? (i := 11) rfl, tyX3_ok, nmX3, rfl, tyX3_ok 2 (by decide), rfl⟩
theorem fn_X5_82 : FLN RX5 82 3 1 false .int := ⟨RX4, TX4, 2, tyX4, rfl, inlX4, by decide, List.mem_of_getElem? (i := 12) rfl, tyX4_ok, nmX4, rfl, tyX4_ok 1 (by decide), rfl⟩
theorem iw_X5_init : IW yX5_init cX5_init 1 0 := ⟨⟨List.mem_of_getElem? (i := 2) (by decide +kernel), List.mem_of_getElem? (i := 5) (by decide +kernel), by decide, by decide +kernel⟩, List.mem_of_getElem? (i := 4) (by decide +kernel), rfl⟩
theorem iw_X0_init : IW yX0_init cX0_init 2 0 := ⟨⟨List.mem_of_getElem? (i := 11) (by decide +kernel), List.mem_of_getElem? (i := 29) (by decide +kernel), by decide, by decide +kernel⟩, List.mem_of_getElem? (i := 28) (by decide +kernel), rfl⟩
theorem iw_X3_init : IW yX3_init cX3_init 2 0 := ⟨⟨List.mem_of_getElem? (i := 15) (by decide +kernel), List.mem_of_getElem? (i := 41) (by decide +kernel), by decide, by decide +kernel⟩, List.mem_of_getElem? (i := 40) (by decide +kernel), rfl⟩
theorem iw_X4_init : IW yX4_init cX4_init 1 0 := ⟨⟨List.mem_of_getElem? (i := 19) (by decide +kernel), List.mem_of_getElem? (i := 47) (by decide +kernel), by decide, by decide +kernel⟩, List.mem_of_getElem? (i := 46) (by decide +kernel), rfl⟩
theorem iw_X2_init : IW yX2_init cX2_init 1 0 := ⟨⟨List.mem_of_getElem? (i := 23) (by decide +kernel), List.mem_of_getElem? (i := 52) (by decide +kernel), by decide, by decide +kernel⟩, List.mem_of_getElem? (i := 51) (by decide +kernel), rfl⟩
theorem vw_L_cell : SW yL_cell cL_cell 2 (some .int) 2 := ⟨⟨List.mem_of_getElem? (i := 57) (by decide +kernel), List.mem_of_getElem? (i := 58) (by decide +kernel), by decide, by decide +kernel⟩, List.mem_of_getElem? (i := 56) (by decide +kernel)⟩
theorem vw_L_tale : SW yL_tale cL_tale 6 (some .long) 1 := ⟨⟨List.mem_of_getElem? (i := 57) (by decide +kernel), List.mem_of_getElem? (i := 61) (by decide +kernel), by decide, by decide +kernel⟩, List.mem_of_getElem? (i := 60) (by decide +kernel)⟩
theorem vw_X5_count : VW yX5_count cX5_count 2 (some .int) 1 := ⟨⟨List.mem_of_getElem? (i := 2) (by decide +kernel), List.mem_of_getElem? (i := 72) (by decide +kernel), by decide, by decide +kernel⟩, List.mem_of_getElem? (i := 70) (by decide +kernel), List.mem_of_getElem? (i := 71) (by decide +kernel)⟩
theorem vw_X0_waiting : VW yX0_waiting cX0_waiting 3 (some .int) 0 := ⟨⟨List.mem_of_getElem? (i := 11) (by decide +kernel), List.mem_of_getElem? (i := 76) (by decide +kernel), by decide, by decide +kernel⟩, List.mem_of_getElem? (i := 74) (by decide +kernel), List.mem_of_getElem? (i := 75) (by decide +kernel)⟩
theorem vw_X0_closedContacts : VW yX0_closedContacts cX0_closedContacts 1 (some .int) 0 := ⟨⟨List.mem_of_getElem? (i := 11) (by decide +kernel), List.mem_of_getElem? (i := 80) (by decide +kernel), by decide, by decide +kernel⟩, List.mem_of_getElem? (i := 78) (by decide +kernel), List.mem_of_getElem? (i := 79) (by decide +kernel)⟩
theorem vw_X5_relay : VW yX5_relay cX5_relay 3 (some .int) 2 := ⟨⟨List.mem_of_getElem? (i := 2) (by decide +kernel), List.mem_of_getElem? (i := 88) (by decide +kernel), by decide, by decide +kernel⟩, List.mem_of_getElem? (i := 86) (by decide +kernel), List.mem_of_getElem? (i := 87) (by decide +kernel)⟩
theorem vw_X0_has : VW yX0_has cX0_has 2 (some .boolean) 1 := ⟨⟨List.mem_of_getElem? (i := 11) (by decide +kernel), List.mem_of_getElem? (i := 92) (by decide +kernel), by decide, by decide +kernel⟩, List.mem_of_getElem? (i := 90) (by decide +kernel), List.mem_of_getElem? (i := 91) (by decide +kernel)⟩
theorem vw_X5_isWithin : SW yX5_isWithin cX5_isWithin 3 (some .boolean) 3 := ⟨⟨List.mem_of_getElem? (i := 2) (by decide +kernel), List.mem_of_getElem? (i := 95) (by decide +kernel), by decide, by decide +kernel⟩, List.mem_of_getElem? (i := 94) (by decide +kernel)⟩
theorem vw_X5_at : SW yX5_at cX5_at 2 (some .int) 2 := ⟨⟨List.mem_of_getElem? (i := 2) (by decide +kernel), List.mem_of_getElem? (i := 98) (by decide +kernel), by decide, by decide +kernel⟩, List.mem_of_getElem? (i := 97) (by decide +kernel)⟩
theorem vw_X0_branchesOf : VW yX0_branchesOf cX0_branchesOf 2 (some .int) 1 := ⟨⟨List.mem_of_getElem? (i := 11) (by decide +kernel), List.mem_of_getElem? (i := 102) (by decide +kernel), by decide, by decide +kernel⟩, List.mem_of_getElem? (i := 100) (by decide +kernel), List.mem_of_getElem? (i := 101) (by decide +kernel)⟩
theorem vw_X0_faultOf : VW yX0_faultOf cX0_faultOf 2 (some .int) 1 := ⟨⟨List.mem_of_getElem? (i := 11) (by decide +kernel), List.mem_of_getElem? (i := 106) (by decide +kernel), by decide, by decide +kernel⟩, List.mem_of_getElem? (i := 104) (by decide +kernel), List.mem_of_getElem? (i := 105) (by decide +kernel)⟩
theorem vw_X5_isIn : SW yX5_isIn cX5_isIn 2 (some .boolean) 2 := ⟨⟨List.mem_of_getElem? (i := 2) (by decide +kernel), List.mem_of_getElem? (i := 108) (by decide +kernel), by decide, by decide +kernel⟩, List.mem_of_getElem? (i := 107) (by decide +kernel)⟩
theorem vw_X5_bitOf : SW yX5_bitOf cX5_bitOf 2 (some .int) 2 := ⟨⟨List.mem_of_getElem? (i := 2) (by decide +kernel), List.mem_of_getElem? (i := 111) (by decide +kernel), by decide, by decide +kernel⟩, List.mem_of_getElem? (i := 110) (by decide +kernel)⟩
theorem vw_X0_concerns : VW yX0_concerns cX0_concerns 5 (some .boolean) 2 := ⟨⟨List.mem_of_getElem? (i := 11) (by decide +kernel), List.mem_of_getElem? (i := 115) (by decide +kernel), by decide, by decide +kernel⟩, List.mem_of_getElem? (i := 113) (by decide +kernel), List.mem_of_getElem? (i := 114) (by decide +kernel)⟩
theorem vw_X0_branchAt : VW yX0_branchAt cX0_branchAt 3 (some .int) 2 := ⟨⟨List.mem_of_getElem? (i := 11) (by decide +kernel), List.mem_of_getElem? (i := 120) (by decide +kernel), by decide, by decide +kernel⟩, List.mem_of_getElem? (i := 118) (by decide +kernel), List.mem_of_getElem? (i := 119) (by decide +kernel)⟩
theorem vw_X1_howOf : SW yX1_howOf cX1_howOf 2 (some .int) 2 := ⟨⟨List.mem_of_getElem? (i := 123) (by decide +kernel), List.mem_of_getElem? (i := 124) (by decide +kernel), by decide, by decide +kernel⟩, List.mem_of_getElem? (i := 122) (by decide +kernel)⟩
theorem vw_X1_bit : SW yX1_bit cX1_bit 2 (some .int) 2 := ⟨⟨List.mem_of_getElem? (i := 123) (by decide +kernel), List.mem_of_getElem? (i := 127) (by decide +kernel), by decide, by decide +kernel⟩, List.mem_of_getElem? (i := 126) (by decide +kernel)⟩
theorem vw_X0_failing : VW yX0_failing cX0_failing 2 (some .int) 0 := ⟨⟨List.mem_of_getElem? (i := 11) (by decide +kernel), List.mem_of_getElem? (i := 131) (by decide +kernel), by decide, by decide +kernel⟩, List.mem_of_getElem? (i := 129) (by decide +kernel), List.mem_of_getElem? (i := 130) (by decide +kernel)⟩
theorem vw_X0_conducts : VW yX0_conducts cX0_conducts 6 (some .boolean) 2 := ⟨⟨List.mem_of_getElem? (i := 11) (by decide +kernel), List.mem_of_getElem? (i := 138) (by decide +kernel), by decide, by decide +kernel⟩, List.mem_of_getElem? (i := 136) (by decide +kernel), List.mem_of_getElem? (i := 137) (by decide +kernel)⟩
theorem vw_X5_condition : VW yX5_condition cX5_condition 4 (some .int) 3 := ⟨⟨List.mem_of_getElem? (i := 2) (by decide +kernel), List.mem_of_getElem? (i := 142) (by decide +kernel), by decide, by decide +kernel⟩, List.mem_of_getElem? (i := 140) (by decide +kernel), List.mem_of_getElem? (i := 141) (by decide +kernel)⟩
theorem vw_X5_event : VW yX5_event cX5_event 4 (some .int) 2 := ⟨⟨List.mem_of_getElem? (i := 2) (by decide +kernel), List.mem_of_getElem? (i := 149) (by decide +kernel), by decide, by decide +kernel⟩, List.mem_of_getElem? (i := 147) (by decide +kernel), List.mem_of_getElem? (i := 148) (by decide +kernel)⟩
theorem vw_X0_slotAt : VW yX0_slotAt cX0_slotAt 3 (some .int) 1 := ⟨⟨List.mem_of_getElem? (i := 11) (by decide +kernel), List.mem_of_getElem? (i := 153) (by decide +kernel), by decide, by decide +kernel⟩, List.mem_of_getElem? (i := 151) (by decide +kernel), List.mem_of_getElem? (i := 152) (by decide +kernel)⟩
theorem vw_X0_eventsBefore : VW yX0_eventsBefore cX0_eventsBefore 5 (some .int) 1 := ⟨⟨List.mem_of_getElem? (i := 11) (by decide +kernel), List.mem_of_getElem? (i := 157) (by decide +kernel), by decide, by decide +kernel⟩, List.mem_of_getElem? (i := 155) (by decide +kernel), List.mem_of_getElem? (i := 156) (by decide +kernel)⟩
theorem vw_X0_relayOf : SW yX0_relayOf cX0_relayOf 1 (some .int) 1 := ⟨⟨List.mem_of_getElem? (i := 11) (by decide +kernel), List.mem_of_getElem? (i := 160) (by decide +kernel), by decide, by decide +kernel⟩, List.mem_of_getElem? (i := 159) (by decide +kernel)⟩
theorem vw_X0_kindOf : VW yX0_kindOf cX0_kindOf 2 (some .int) 1 := ⟨⟨List.mem_of_getElem? (i := 11) (by decide +kernel), List.mem_of_getElem? (i := 164) (by decide +kernel), by decide, by decide +kernel⟩, List.mem_of_getElem? (i := 162) (by decide +kernel), List.mem_of_getElem? (i := 163) (by decide +kernel)⟩
theorem vw_X0_isBounceEnd : SW yX0_isBounceEnd cX0_isBounceEnd 1 (some .boolean) 1 := ⟨⟨List.mem_of_getElem? (i := 11) (by decide +kernel), List.mem_of_getElem? (i := 168) (by decide +kernel), by decide, by decide +kernel⟩, List.mem_of_getElem? (i := 167) (by decide +kernel)⟩
theorem vw_L_does : SW yL_does cL_does 3 (some .int) 2 := ⟨⟨List.mem_of_getElem? (i := 57) (by decide +kernel), List.mem_of_getElem? (i := 172) (by decide +kernel), by decide, by decide +kernel⟩, List.mem_of_getElem? (i := 171) (by decide +kernel)⟩
theorem vw_L_low : SW yL_low cL_low 2 (some .int) 2 := ⟨⟨List.mem_of_getElem? (i := 57) (by decide +kernel), List.mem_of_getElem? (i := 175) (by decide +kernel), by decide, by decide +kernel⟩, List.mem_of_getElem? (i := 174) (by decide +kernel)⟩
theorem vw_X5_addRelay : VW yX5_addRelay cX5_addRelay 4 (some .int) 3 := ⟨⟨List.mem_of_getElem? (i := 2) (by decide +kernel), List.mem_of_getElem? (i := 180) (by decide +kernel), by decide, by decide +kernel⟩, List.mem_of_getElem? (i := 178) (by decide +kernel), List.mem_of_getElem? (i := 179) (by decide +kernel)⟩
theorem vw_X5_areDelays : SW yX5_areDelays cX5_areDelays 3 (some .boolean) 3 := ⟨⟨List.mem_of_getElem? (i := 2) (by decide +kernel), List.mem_of_getElem? (i := 183) (by decide +kernel), by decide, by decide +kernel⟩, List.mem_of_getElem? (i := 182) (by decide +kernel)⟩
theorem vw_X3_save : VW yX3_save cX3_save 3 none 1 := ⟨⟨List.mem_of_getElem? (i := 15) (by decide +kernel), List.mem_of_getElem? (i := 187) (by decide +kernel), by decide, by decide +kernel⟩, List.mem_of_getElem? (i := 185) (by decide +kernel), List.mem_of_getElem? (i := 186) (by decide +kernel)⟩
theorem vw_J9_floorMod_7cf53 : SW yJ9_floorMod_7cf53 cJ9_floorMod_7cf53 3 (some .int) 2 := ⟨⟨List.mem_of_getElem? (i := 192) (by decide +kernel), List.mem_of_getElem? (i := 193) (by decide +kernel), by decide, by decide +kernel⟩, List.mem_of_getElem? (i := 191) (by decide +kernel)⟩
theorem vw_X3_bankAt : VW yX3_bankAt cX3_bankAt 3 (some (.object "RelayBank$Bank")) 1 := ⟨⟨List.mem_of_getElem? (i := 15) (by decide +kernel), List.mem_of_getElem? (i := 197) (by decide +kernel), by decide, by decide +kernel⟩, List.mem_of_getElem? (i := 195) (by decide +kernel), List.mem_of_getElem? (i := 196) (by decide +kernel)⟩
theorem vw_X0_copy : VW yX0_copy cX0_copy 2 none 1 := ⟨⟨List.mem_of_getElem? (i := 11) (by decide +kernel), List.mem_of_getElem? (i := 201) (by decide +kernel), by decide, by decide +kernel⟩, List.mem_of_getElem? (i := 199) (by decide +kernel), List.mem_of_getElem? (i := 200) (by decide +kernel)⟩
theorem vw_X0_add : VW yX0_add cX0_add 5 (some .int) 3 := ⟨⟨List.mem_of_getElem? (i := 11) (by decide +kernel), List.mem_of_getElem? (i := 211) (by decide +kernel), by decide, by decide +kernel⟩, List.mem_of_getElem? (i := 209) (by decide +kernel), List.mem_of_getElem? (i := 210) (by decide +kernel)⟩
theorem vw_X0_putDelays : VW yX0_putDelays cX0_putDelays 6 (some .boolean) 4 := ⟨⟨List.mem_of_getElem? (i := 11) (by decide +kernel), List.mem_of_getElem? (i := 215) (by decide +kernel), by decide, by decide +kernel⟩, List.mem_of_getElem? (i := 213) (by decide +kernel), List.mem_of_getElem? (i := 214) (by decide +kernel)⟩
theorem vw_X5_put : SW yX5_put cX5_put 3 none 3 := ⟨⟨List.mem_of_getElem? (i := 2) (by decide +kernel), List.mem_of_getElem? (i := 217) (by decide +kernel), by decide, by decide +kernel⟩, List.mem_of_getElem? (i := 216) (by decide +kernel)⟩
theorem vw_X5_setDelays : VW yX5_setDelays cX5_setDelays 5 (some .int) 4 := ⟨⟨List.mem_of_getElem? (i := 2) (by decide +kernel), List.mem_of_getElem? (i := 221) (by decide +kernel), by decide, by decide +kernel⟩, List.mem_of_getElem? (i := 219) (by decide +kernel), List.mem_of_getElem? (i := 220) (by decide +kernel)⟩
theorem vw_X5_setCondition : VW yX5_setCondition cX5_setCondition 5 (some .int) 4 := ⟨⟨List.mem_of_getElem? (i := 2) (by decide +kernel), List.mem_of_getElem? (i := 226) (by decide +kernel), by decide, by decide +kernel⟩, List.mem_of_getElem? (i := 224) (by decide +kernel), List.mem_of_getElem? (i := 225) (by decide +kernel)⟩
theorem vw_X0_putCondition : VW yX0_putCondition cX0_putCondition 7 (some .int) 4 := ⟨⟨List.mem_of_getElem? (i := 11) (by decide +kernel), List.mem_of_getElem? (i := 230) (by decide +kernel), by decide, by decide +kernel⟩, List.mem_of_getElem? (i := 228) (by decide +kernel), List.mem_of_getElem? (i := 229) (by decide +kernel)⟩
theorem vw_X1_with : SW yX1_with cX1_with 4 (some .int) 3 := ⟨⟨List.mem_of_getElem? (i := 123) (by decide +kernel), List.mem_of_getElem? (i := 233) (by decide +kernel), by decide, by decide +kernel⟩, List.mem_of_getElem? (i := 232) (by decide +kernel)⟩
theorem vw_X0_putBranch : VW yX0_putBranch cX0_putBranch 4 none 3 := ⟨⟨List.mem_of_getElem? (i := 11) (by decide +kernel), List.mem_of_getElem? (i := 237) (by decide +kernel), by decide, by decide +kernel⟩, List.mem_of_getElem? (i := 235) (by decide +kernel), List.mem_of_getElem? (i := 236) (by decide +kernel)⟩
theorem vw_X0_lookAtCoils : VW yX0_lookAtCoils cX0_lookAtCoils 4 (some .int) 0 := ⟨⟨List.mem_of_getElem? (i := 11) (by decide +kernel), List.mem_of_getElem? (i := 241) (by decide +kernel), by decide, by decide +kernel⟩, List.mem_of_getElem? (i := 239) (by decide +kernel), List.mem_of_getElem? (i := 240) (by decide +kernel)⟩
theorem vw_X0_turnCoil : VW yX0_turnCoil cX0_turnCoil 3 none 1 := ⟨⟨List.mem_of_getElem? (i := 11) (by decide +kernel), List.mem_of_getElem? (i := 247) (by decide +kernel), by decide, by decide +kernel⟩, List.mem_of_getElem? (i := 245) (by decide +kernel), List.mem_of_getElem? (i := 246) (by decide +kernel)⟩
theorem vw_X5_removeBranch : VW yX5_removeBranch cX5_removeBranch 3 (some .int) 2 := ⟨⟨List.mem_of_getElem? (i := 2) (by decide +kernel), List.mem_of_getElem? (i := 251) (by decide +kernel), by decide, by decide +kernel⟩, List.mem_of_getElem? (i := 249) (by decide +kernel), List.mem_of_getElem? (i := 250) (by decide +kernel)⟩
theorem vw_X0_dropBranch : VW yX0_dropBranch cX0_dropBranch 5 (some .int) 2 := ⟨⟨List.mem_of_getElem? (i := 11) (by decide +kernel), List.mem_of_getElem? (i := 255) (by decide +kernel), by decide, by decide +kernel⟩, List.mem_of_getElem? (i := 253) (by decide +kernel), List.mem_of_getElem? (i := 254) (by decide +kernel)⟩
theorem vw_X5_press : VW yX5_press cX5_press 3 (some .int) 2 := ⟨⟨List.mem_of_getElem? (i := 2) (by decide +kernel), List.mem_of_getElem? (i := 259) (by decide +kernel), by decide, by decide +kernel⟩, List.mem_of_getElem? (i := 257) (by decide +kernel), List.mem_of_getElem? (i := 258) (by decide +kernel)⟩
theorem vw_X5_isKey : SW yX5_isKey cX5_isKey 1 (some .boolean) 1 := ⟨⟨List.mem_of_getElem? (i := 2) (by decide +kernel), List.mem_of_getElem? (i := 262) (by decide +kernel), by decide, by decide +kernel⟩, List.mem_of_getElem? (i := 261) (by decide +kernel)⟩
theorem vw_X0_turnKey : VW yX0_turnKey cX0_turnKey 2 (some .int) 1 := ⟨⟨List.mem_of_getElem? (i := 11) (by decide +kernel), List.mem_of_getElem? (i := 267) (by decide +kernel), by decide, by decide +kernel⟩, List.mem_of_getElem? (i := 265) (by decide +kernel), List.mem_of_getElem? (i := 266) (by decide +kernel)⟩
theorem vw_X5_setFault : VW yX5_setFault cX5_setFault 4 (some .int) 2 := ⟨⟨List.mem_of_getElem? (i := 2) (by decide +kernel), List.mem_of_getElem? (i := 271) (by decide +kernel), by decide, by decide +kernel⟩, List.mem_of_getElem? (i := 269) (by decide +kernel), List.mem_of_getElem? (i := 270) (by decide +kernel)⟩
theorem vw_X0_putFault : VW yX0_putFault cX0_putFault 4 none 2 := ⟨⟨List.mem_of_getElem? (i := 11) (by decide +kernel), List.mem_of_getElem? (i := 275) (by decide +kernel), by decide, by decide +kernel⟩, List.mem_of_getElem? (i := 273) (by decide +kernel), List.mem_of_getElem? (i := 274) (by decide +kernel)⟩
theorem vw_X5_stick : VW yX5_stick cX5_stick 4 (some .int) 2 := ⟨⟨List.mem_of_getElem? (i := 2) (by decide +kernel), List.mem_of_getElem? (i := 279) (by decide +kernel), by decide, by decide +kernel⟩, List.mem_of_getElem? (i := 277) (by decide +kernel), List.mem_of_getElem? (i := 278) (by decide +kernel)⟩
theorem vw_X5_settle : VW yX5_settle cX5_settle 2 (some .int) 1 := ⟨⟨List.mem_of_getElem? (i := 2) (by decide +kernel), List.mem_of_getElem? (i := 283) (by decide +kernel), by decide, by decide +kernel⟩, List.mem_of_getElem? (i := 281) (by decide +kernel), List.mem_of_getElem? (i := 282) (by decide +kernel)⟩
theorem vw_X0_run : VW yX0_run cX0_run 6 (some .int) 3 := ⟨⟨List.mem_of_getElem? (i := 11) (by decide +kernel), List.mem_of_getElem? (i := 288) (by decide +kernel), by decide, by decide +kernel⟩, List.mem_of_getElem? (i := 286) (by decide +kernel), List.mem_of_getElem? (i := 287) (by decide +kernel)⟩
theorem vw_X0_nextSlot : VW yX0_nextSlot cX0_nextSlot 8 (some .int) 1 := ⟨⟨List.mem_of_getElem? (i := 11) (by decide +kernel), List.mem_of_getElem? (i := 292) (by decide +kernel), by decide, by decide +kernel⟩, List.mem_of_getElem? (i := 290) (by decide +kernel), List.mem_of_getElem? (i := 291) (by decide +kernel)⟩
theorem vw_X0_happen : VW yX0_happen cX0_happen 3 none 1 := ⟨⟨List.mem_of_getElem? (i := 11) (by decide +kernel), List.mem_of_getElem? (i := 296) (by decide +kernel), by decide, by decide +kernel⟩, List.mem_of_getElem? (i := 294) (by decide +kernel), List.mem_of_getElem? (i := 295) (by decide +kernel)⟩
theorem vw_X0_moveArmature : VW yX0_moveArmature cX0_moveArmature 3 none 1 := ⟨⟨List.mem_of_getElem? (i := 11) (by decide +kernel), List.mem_of_getElem? (i := 300) (by decide +kernel), by decide, by decide +kernel⟩, List.mem_of_getElem? (i := 298) (by decide +kernel), List.mem_of_getElem? (i := 299) (by decide +kernel)⟩
theorem vw_X5_pass : VW yX5_pass cX5_pass 4 (some .int) 1 := ⟨⟨List.mem_of_getElem? (i := 2) (by decide +kernel), List.mem_of_getElem? (i := 304) (by decide +kernel), by decide, by decide +kernel⟩, List.mem_of_getElem? (i := 302) (by decide +kernel), List.mem_of_getElem? (i := 303) (by decide +kernel)⟩
theorem vw_X5_step : VW yX5_step cX5_step 3 (some .int) 0 := ⟨⟨List.mem_of_getElem? (i := 2) (by decide +kernel), List.mem_of_getElem? (i := 310) (by decide +kernel), by decide, by decide +kernel⟩, List.mem_of_getElem? (i := 308) (by decide +kernel), List.mem_of_getElem? (i := 309) (by decide +kernel)⟩
theorem vw_X5_undo : VW yX5_undo cX5_undo 1 (some .int) 0 := ⟨⟨List.mem_of_getElem? (i := 2) (by decide +kernel), List.mem_of_getElem? (i := 316) (by decide +kernel), by decide, by decide +kernel⟩, List.mem_of_getElem? (i := 314) (by decide +kernel), List.mem_of_getElem? (i := 315) (by decide +kernel)⟩
theorem vw_X3_restore : VW yX3_restore cX3_restore 3 (some .boolean) 1 := ⟨⟨List.mem_of_getElem? (i := 15) (by decide +kernel), List.mem_of_getElem? (i := 320) (by decide +kernel), by decide, by decide +kernel⟩, List.mem_of_getElem? (i := 318) (by decide +kernel), List.mem_of_getElem? (i := 319) (by decide +kernel)⟩
theorem vw_X5_isRace : VW yX5_isRace cX5_isRace 1 (some .int) 0 := ⟨⟨List.mem_of_getElem? (i := 2) (by decide +kernel), List.mem_of_getElem? (i := 324) (by decide +kernel), by decide, by decide +kernel⟩, List.mem_of_getElem? (i := 322) (by decide +kernel), List.mem_of_getElem? (i := 323) (by decide +kernel)⟩
theorem vw_X5_raceIn : VW yX5_raceIn cX5_raceIn 3 (some .int) 1 := ⟨⟨List.mem_of_getElem? (i := 2) (by decide +kernel), List.mem_of_getElem? (i := 328) (by decide +kernel), by decide, by decide +kernel⟩, List.mem_of_getElem? (i := 326) (by decide +kernel), List.mem_of_getElem? (i := 327) (by decide +kernel)⟩
theorem vw_X5_endingOf : VW yX5_endingOf cX5_endingOf 4 (some .int) 3 := ⟨⟨List.mem_of_getElem? (i := 2) (by decide +kernel), List.mem_of_getElem? (i := 332) (by decide +kernel), by decide, by decide +kernel⟩, List.mem_of_getElem? (i := 330) (by decide +kernel), List.mem_of_getElem? (i := 331) (by decide +kernel)⟩
theorem vw_X0_isQuiet : VW yX0_isQuiet cX0_isQuiet 1 (some .boolean) 0 := ⟨⟨List.mem_of_getElem? (i := 11) (by decide +kernel), List.mem_of_getElem? (i := 336) (by decide +kernel), by decide, by decide +kernel⟩, List.mem_of_getElem? (i := 334) (by decide +kernel), List.mem_of_getElem? (i := 335) (by decide +kernel)⟩
theorem vw_X5_outcome : VW yX5_outcome cX5_outcome 3 (some .int) 2 := ⟨⟨List.mem_of_getElem? (i := 2) (by decide +kernel), List.mem_of_getElem? (i := 340) (by decide +kernel), by decide, by decide +kernel⟩, List.mem_of_getElem? (i := 338) (by decide +kernel), List.mem_of_getElem? (i := 339) (by decide +kernel)⟩
