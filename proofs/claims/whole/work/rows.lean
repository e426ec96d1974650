section
-- ===== PART A: goes FIRST, ahead of the names: the tables' words, and 'selects' of the private methods out of them =====
/-- a private method of a class that the tables say can be made, by its rows of tables_1 -/
def lw_okq (q : MethodName × Nat) : Prop := (q.1.cls ≠ "java/lang/invoke/MethodHandle" ∧ q.1.cls ≠ "java/lang/invoke/VarHandle") ∧ Cond.instantiable q.1.cls q.2 ∈ tables_1 ∧ Cond.privateMethod q.1 ∈ tables_1 ∧ Cond.instanceMethod q.1 ∈ tables_1
theorem lw_p0 : lw_okq (⟨"RelayBank$Past", "bankAt", "(I)LRelayBank$Bank;"⟩, 3) := ⟨⟨by decide +kernel, by decide +kernel⟩, List.mem_of_getElem? (i := 84) (by decide +kernel), List.mem_of_getElem? (i := 177) (by decide +kernel), List.mem_of_getElem? (i := 178) (by decide +kernel)⟩
theorem lw_p1 : lw_okq (⟨"RelayBank$Bank", "putBranch", "(III)V"⟩, 15) := ⟨⟨by decide +kernel, by decide +kernel⟩, List.mem_of_getElem? (i := 19) (by decide +kernel), List.mem_of_getElem? (i := 235) (by decide +kernel), List.mem_of_getElem? (i := 236) (by decide +kernel)⟩
theorem lw_p2 : lw_okq (⟨"RelayBank$Bank", "lookAtCoils", "()I"⟩, 15) := ⟨⟨by decide +kernel, by decide +kernel⟩, List.mem_of_getElem? (i := 19) (by decide +kernel), List.mem_of_getElem? (i := 239) (by decide +kernel), List.mem_of_getElem? (i := 240) (by decide +kernel)⟩
theorem lw_p3 : lw_okq (⟨"RelayBank$Bank", "turnCoil", "(I)V"⟩, 15) := ⟨⟨by decide +kernel, by decide +kernel⟩, List.mem_of_getElem? (i := 19) (by decide +kernel), List.mem_of_getElem? (i := 259) (by decide +kernel), List.mem_of_getElem? (i := 260) (by decide +kernel)⟩
theorem lw_p4 : lw_okq (⟨"RelayBank$CircuitReader", "take", "(C)Z"⟩, 4) := ⟨⟨by decide +kernel, by decide +kernel⟩, List.mem_of_getElem? (i := 120) (by decide +kernel), List.mem_of_getElem? (i := 298) (by decide +kernel), List.mem_of_getElem? (i := 299) (by decide +kernel)⟩
theorem lw_p5 : lw_okq (⟨"RelayBank$CircuitReader", "goTo", "(I)Z"⟩, 4) := ⟨⟨by decide +kernel, by decide +kernel⟩, List.mem_of_getElem? (i := 120) (by decide +kernel), List.mem_of_getElem? (i := 302) (by decide +kernel), List.mem_of_getElem? (i := 303) (by decide +kernel)⟩
theorem lw_p6 : lw_okq (⟨"RelayBank$CircuitReader", "beginBranch", "(C)Z"⟩, 4) := ⟨⟨by decide +kernel, by decide +kernel⟩, List.mem_of_getElem? (i := 120) (by decide +kernel), List.mem_of_getElem? (i := 306) (by decide +kernel), List.mem_of_getElem? (i := 307) (by decide +kernel)⟩
theorem lw_p7 : lw_okq (⟨"RelayBank$CircuitReader", "beginCondition", "(C)Z"⟩, 4) := ⟨⟨by decide +kernel, by decide +kernel⟩, List.mem_of_getElem? (i := 120) (by decide +kernel), List.mem_of_getElem? (i := 311) (by decide +kernel), List.mem_of_getElem? (i := 312) (by decide +kernel)⟩
theorem lw_p8 : lw_okq (⟨"RelayBank$CircuitReader", "takeLetter", "(CI)Z"⟩, 4) := ⟨⟨by decide +kernel, by decide +kernel⟩, List.mem_of_getElem? (i := 120) (by decide +kernel), List.mem_of_getElem? (i := 315) (by decide +kernel), List.mem_of_getElem? (i := 316) (by decide +kernel)⟩
theorem lw_p9 : lw_okq (⟨"RelayBank$CircuitReader", "subjectOf", "(C)I"⟩, 4) := ⟨⟨by decide +kernel, by decide +kernel⟩, List.mem_of_getElem? (i := 120) (by decide +kernel), List.mem_of_getElem? (i := 319) (by decide +kernel), List.mem_of_getElem? (i := 320) (by decide +kernel)⟩
theorem lw_p10 : lw_okq (⟨"RelayBank$Bank", "moveArmature", "(I)V"⟩, 15) := ⟨⟨by decide +kernel, by decide +kernel⟩, List.mem_of_getElem? (i := 19) (by decide +kernel), List.mem_of_getElem? (i := 384) (by decide +kernel), List.mem_of_getElem? (i := 385) (by decide +kernel)⟩
theorem lw_p11 : lw_okq (⟨"RelayBank$Bank", "eventsBefore", "(I)I"⟩, 15) := ⟨⟨by decide +kernel, by decide +kernel⟩, List.mem_of_getElem? (i := 19) (by decide +kernel), List.mem_of_getElem? (i := 440) (by decide +kernel), List.mem_of_getElem? (i := 441) (by decide +kernel)⟩
theorem lw_p12 : lw_okq (⟨"RelayBank", "endingOf", "(LRelayBank$Bank;IZ)I"⟩, 6) := ⟨⟨by decide +kernel, by decide +kernel⟩, List.mem_of_getElem? (i := 11) (by decide +kernel), List.mem_of_getElem? (i := 448) (by decide +kernel), List.mem_of_getElem? (i := 449) (by decide +kernel)⟩
theorem lw_p13 : lw_okq (⟨"RelayBank", "raceIn", "(LRelayBank$Bank;)I"⟩, 6) := ⟨⟨by decide +kernel, by decide +kernel⟩, List.mem_of_getElem? (i := 11) (by decide +kernel), List.mem_of_getElem? (i := 460) (by decide +kernel), List.mem_of_getElem? (i := 461) (by decide +kernel)⟩
theorem lw_p14 : lw_okq (⟨"RelayBankModel", "notes", "()V"⟩, 9) := ⟨⟨by decide +kernel, by decide +kernel⟩, List.mem_of_getElem? (i := 492) (by decide +kernel), List.mem_of_getElem? (i := 538) (by decide +kernel), List.mem_of_getElem? (i := 539) (by decide +kernel)⟩
theorem lw_p15 : lw_okq (⟨"RelayBankModel", "puts", "(III)V"⟩, 9) := ⟨⟨by decide +kernel, by decide +kernel⟩, List.mem_of_getElem? (i := 492) (by decide +kernel), List.mem_of_getElem? (i := 542) (by decide +kernel), List.mem_of_getElem? (i := 543) (by decide +kernel)⟩
def lw_privs_1 : List (MethodName × Nat) := [(⟨"RelayBank$Past", "bankAt", "(I)LRelayBank$Bank;"⟩, 3), (⟨"RelayBank$Bank", "putBranch", "(III)V"⟩, 15), (⟨"RelayBank$Bank", "lookAtCoils", "()I"⟩, 15), (⟨"RelayBank$Bank", "turnCoil", "(I)V"⟩, 15), (⟨"RelayBank$CircuitReader", "take", "(C)Z"⟩, 4), (⟨"RelayBank$CircuitReader", "goTo", "(I)Z"⟩, 4), (⟨"RelayBank$CircuitReader", "beginBranch", "(C)Z"⟩, 4), (⟨"RelayBank$CircuitReader", "beginCondition", "(C)Z"⟩, 4), (⟨"RelayBank$CircuitReader", "takeLetter", "(CI)Z"⟩, 4), (⟨"RelayBank$CircuitReader", "subjectOf", "(C)I"⟩, 4), (⟨"RelayBank$Bank", "moveArmature", "(I)V"⟩, 15), (⟨"RelayBank$Bank", "eventsBefore", "(I)I"⟩, 15), (⟨"RelayBank", "endingOf", "(LRelayBank$Bank;IZ)I"⟩, 6), (⟨"RelayBank", "raceIn", "(LRelayBank$Bank;)I"⟩, 6), (⟨"RelayBankModel", "notes", "()V"⟩, 9), (⟨"RelayBankModel", "puts", "(III)V"⟩, 9)]
theorem lw_r1 : ∀ q ∈ lw_privs_1, lw_okq q := List.forall_mem_cons.mpr ⟨lw_p0, List.forall_mem_cons.mpr ⟨lw_p1, List.forall_mem_cons.mpr ⟨lw_p2, List.forall_mem_cons.mpr ⟨lw_p3, List.forall_mem_cons.mpr ⟨lw_p4, List.forall_mem_cons.mpr ⟨lw_p5, List.forall_mem_cons.mpr ⟨lw_p6, List.forall_mem_cons.mpr ⟨lw_p7, List.forall_mem_cons.mpr ⟨lw_p8, List.forall_mem_cons.mpr ⟨lw_p9, List.forall_mem_cons.mpr ⟨lw_p10, List.forall_mem_cons.mpr ⟨lw_p11, List.forall_mem_cons.mpr ⟨lw_p12, List.forall_mem_cons.mpr ⟨lw_p13, List.forall_mem_cons.mpr ⟨lw_p14, List.forall_mem_cons.mpr ⟨lw_p15, fun _ h => absurd h List.not_mem_nil⟩⟩⟩⟩⟩⟩⟩⟩⟩⟩⟩⟩⟩⟩⟩⟩
theorem lw_p16 : lw_okq (⟨"RelayBankModel", "isRelay", "(I)Z"⟩, 9) := ⟨⟨by decide +kernel, by decide +kernel⟩, List.mem_of_getElem? (i := 492) (by decide +kernel), List.mem_of_getElem? (i := 550) (by decide +kernel), List.mem_of_getElem? (i := 551) (by decide +kernel)⟩
theorem lw_p17 : lw_okq (⟨"RelayBankModel", "of", "(II)I"⟩, 9) := ⟨⟨by decide +kernel, by decide +kernel⟩, List.mem_of_getElem? (i := 492) (by decide +kernel), List.mem_of_getElem? (i := 554) (by decide +kernel), List.mem_of_getElem? (i := 555) (by decide +kernel)⟩
theorem lw_p18 : lw_okq (⟨"RelayBankModel", "isSubject", "(I)Z"⟩, 9) := ⟨⟨by decide +kernel, by decide +kernel⟩, List.mem_of_getElem? (i := 492) (by decide +kernel), List.mem_of_getElem? (i := 562) (by decide +kernel), List.mem_of_getElem? (i := 563) (by decide +kernel)⟩
theorem lw_p19 : lw_okq (⟨"RelayBankModel", "opensBranch", "(I)V"⟩, 9) := ⟨⟨by decide +kernel, by decide +kernel⟩, List.mem_of_getElem? (i := 492) (by decide +kernel), List.mem_of_getElem? (i := 566) (by decide +kernel), List.mem_of_getElem? (i := 567) (by decide +kernel)⟩
theorem lw_p20 : lw_okq (⟨"RelayBankModel", "how", "(III)I"⟩, 9) := ⟨⟨by decide +kernel, by decide +kernel⟩, List.mem_of_getElem? (i := 492) (by decide +kernel), List.mem_of_getElem? (i := 570) (by decide +kernel), List.mem_of_getElem? (i := 571) (by decide +kernel)⟩
theorem lw_p21 : lw_okq (⟨"RelayBankModel", "conditions", "(IIII)V"⟩, 9) := ⟨⟨by decide +kernel, by decide +kernel⟩, List.mem_of_getElem? (i := 492) (by decide +kernel), List.mem_of_getElem? (i := 574) (by decide +kernel), List.mem_of_getElem? (i := 575) (by decide +kernel)⟩
theorem lw_p22 : lw_okq (⟨"RelayBankModel", "looks", "()I"⟩, 9) := ⟨⟨by decide +kernel, by decide +kernel⟩, List.mem_of_getElem? (i := 492) (by decide +kernel), List.mem_of_getElem? (i := 578) (by decide +kernel), List.mem_of_getElem? (i := 579) (by decide +kernel)⟩
theorem lw_p23 : lw_okq (⟨"RelayBankModel", "closed", "()I"⟩, 9) := ⟨⟨by decide +kernel, by decide +kernel⟩, List.mem_of_getElem? (i := 492) (by decide +kernel), List.mem_of_getElem? (i := 582) (by decide +kernel), List.mem_of_getElem? (i := 583) (by decide +kernel)⟩
theorem lw_p24 : lw_okq (⟨"RelayBankModel", "conducts", "(II)Z"⟩, 9) := ⟨⟨by decide +kernel, by decide +kernel⟩, List.mem_of_getElem? (i := 492) (by decide +kernel), List.mem_of_getElem? (i := 586) (by decide +kernel), List.mem_of_getElem? (i := 587) (by decide +kernel)⟩
theorem lw_p25 : lw_okq (⟨"RelayBankModel", "keeps", "()V"⟩, 9) := ⟨⟨by decide +kernel, by decide +kernel⟩, List.mem_of_getElem? (i := 492) (by decide +kernel), List.mem_of_getElem? (i := 606) (by decide +kernel), List.mem_of_getElem? (i := 607) (by decide +kernel)⟩
theorem lw_p26 : lw_okq (⟨"RelayBankModel", "reads", "(I)Z"⟩, 9) := ⟨⟨by decide +kernel, by decide +kernel⟩, List.mem_of_getElem? (i := 492) (by decide +kernel), List.mem_of_getElem? (i := 610) (by decide +kernel), List.mem_of_getElem? (i := 611) (by decide +kernel)⟩
theorem lw_p27 : lw_okq (⟨"RelayBankModel", "here", "()I"⟩, 9) := ⟨⟨by decide +kernel, by decide +kernel⟩, List.mem_of_getElem? (i := 492) (by decide +kernel), List.mem_of_getElem? (i := 614) (by decide +kernel), List.mem_of_getElem? (i := 615) (by decide +kernel)⟩
theorem lw_p28 : lw_okq (⟨"RelayBankModel", "readsBranch", "(I)Z"⟩, 9) := ⟨⟨by decide +kernel, by decide +kernel⟩, List.mem_of_getElem? (i := 492) (by decide +kernel), List.mem_of_getElem? (i := 618) (by decide +kernel), List.mem_of_getElem? (i := 619) (by decide +kernel)⟩
theorem lw_p29 : lw_okq (⟨"RelayBankModel", "isEnd", "()Z"⟩, 9) := ⟨⟨by decide +kernel, by decide +kernel⟩, List.mem_of_getElem? (i := 492) (by decide +kernel), List.mem_of_getElem? (i := 622) (by decide +kernel), List.mem_of_getElem? (i := 623) (by decide +kernel)⟩
theorem lw_p30 : lw_okq (⟨"RelayBankModel", "readsCondition", "(II)Z"⟩, 9) := ⟨⟨by decide +kernel, by decide +kernel⟩, List.mem_of_getElem? (i := 492) (by decide +kernel), List.mem_of_getElem? (i := 626) (by decide +kernel), List.mem_of_getElem? (i := 627) (by decide +kernel)⟩
theorem lw_p31 : lw_okq (⟨"RelayBankModel", "subject", "(I)I"⟩, 9) := ⟨⟨by decide +kernel, by decide +kernel⟩, List.mem_of_getElem? (i := 492) (by decide +kernel), List.mem_of_getElem? (i := 630) (by decide +kernel), List.mem_of_getElem? (i := 631) (by decide +kernel)⟩
def lw_privs_2 : List (MethodName × Nat) := [(⟨"RelayBankModel", "isRelay", "(I)Z"⟩, 9), (⟨"RelayBankModel", "of", "(II)I"⟩, 9), (⟨"RelayBankModel", "isSubject", "(I)Z"⟩, 9), (⟨"RelayBankModel", "opensBranch", "(I)V"⟩, 9), (⟨"RelayBankModel", "how", "(III)I"⟩, 9), (⟨"RelayBankModel", "conditions", "(IIII)V"⟩, 9), (⟨"RelayBankModel", "looks", "()I"⟩, 9), (⟨"RelayBankModel", "closed", "()I"⟩, 9), (⟨"RelayBankModel", "conducts", "(II)Z"⟩, 9), (⟨"RelayBankModel", "keeps", "()V"⟩, 9), (⟨"RelayBankModel", "reads", "(I)Z"⟩, 9), (⟨"RelayBankModel", "here", "()I"⟩, 9), (⟨"RelayBankModel", "readsBranch", "(I)Z"⟩, 9), (⟨"RelayBankModel", "isEnd", "()Z"⟩, 9), (⟨"RelayBankModel", "readsCondition", "(II)Z"⟩, 9), (⟨"RelayBankModel", "subject", "(I)I"⟩, 9)]
theorem lw_r2 : ∀ q ∈ lw_privs_2, lw_okq q := List.forall_mem_cons.mpr ⟨lw_p16, List.forall_mem_cons.mpr ⟨lw_p17, List.forall_mem_cons.mpr ⟨lw_p18, List.forall_mem_cons.mpr ⟨lw_p19, List.forall_mem_cons.mpr ⟨lw_p20, List.forall_mem_cons.mpr ⟨lw_p21, List.forall_mem_cons.mpr ⟨lw_p22, List.forall_mem_cons.mpr ⟨lw_p23, List.forall_mem_cons.mpr ⟨lw_p24, List.forall_mem_cons.mpr ⟨lw_p25, List.forall_mem_cons.mpr ⟨lw_p26, List.forall_mem_cons.mpr ⟨lw_p27, List.forall_mem_cons.mpr ⟨lw_p28, List.forall_mem_cons.mpr ⟨lw_p29, List.forall_mem_cons.mpr ⟨lw_p30, List.forall_mem_cons.mpr ⟨lw_p31, fun _ h => absurd h List.not_mem_nil⟩⟩⟩⟩⟩⟩⟩⟩⟩⟩⟩⟩⟩⟩⟩⟩
theorem lw_p32 : lw_okq (⟨"RelayBankModel", "exchanges", "()V"⟩, 9) := ⟨⟨by decide +kernel, by decide +kernel⟩, List.mem_of_getElem? (i := 492) (by decide +kernel), List.mem_of_getElem? (i := 634) (by decide +kernel), List.mem_of_getElem? (i := 635) (by decide +kernel)⟩
theorem lw_p33 : lw_okq (⟨"RelayBankModel", "next", "(Z)I"⟩, 9) := ⟨⟨by decide +kernel, by decide +kernel⟩, List.mem_of_getElem? (i := 492) (by decide +kernel), List.mem_of_getElem? (i := 654) (by decide +kernel), List.mem_of_getElem? (i := 655) (by decide +kernel)⟩
theorem lw_p34 : lw_okq (⟨"RelayBankModel", "waits", "(I)Z"⟩, 9) := ⟨⟨by decide +kernel, by decide +kernel⟩, List.mem_of_getElem? (i := 492) (by decide +kernel), List.mem_of_getElem? (i := 658) (by decide +kernel), List.mem_of_getElem? (i := 659) (by decide +kernel)⟩
theorem lw_p35 : lw_okq (⟨"RelayBankModel", "isAhead", "(IIZ)Z"⟩, 9) := ⟨⟨by decide +kernel, by decide +kernel⟩, List.mem_of_getElem? (i := 492) (by decide +kernel), List.mem_of_getElem? (i := 662) (by decide +kernel), List.mem_of_getElem? (i := 663) (by decide +kernel)⟩
theorem lw_p36 : lw_okq (⟨"RelayBankModel", "timeOf", "(I)I"⟩, 9) := ⟨⟨by decide +kernel, by decide +kernel⟩, List.mem_of_getElem? (i := 492) (by decide +kernel), List.mem_of_getElem? (i := 666) (by decide +kernel), List.mem_of_getElem? (i := 667) (by decide +kernel)⟩
theorem lw_p37 : lw_okq (⟨"RelayBankModel", "happens", "(I)V"⟩, 9) := ⟨⟨by decide +kernel, by decide +kernel⟩, List.mem_of_getElem? (i := 492) (by decide +kernel), List.mem_of_getElem? (i := 670) (by decide +kernel), List.mem_of_getElem? (i := 671) (by decide +kernel)⟩
theorem lw_p38 : lw_okq (⟨"RelayBankModel", "settles", "(ZI)I"⟩, 9) := ⟨⟨by decide +kernel, by decide +kernel⟩, List.mem_of_getElem? (i := 492) (by decide +kernel), List.mem_of_getElem? (i := 678) (by decide +kernel), List.mem_of_getElem? (i := 679) (by decide +kernel)⟩
theorem lw_p39 : lw_okq (⟨"RelayBankModel", "set", "(I)I"⟩, 9) := ⟨⟨by decide +kernel, by decide +kernel⟩, List.mem_of_getElem? (i := 492) (by decide +kernel), List.mem_of_getElem? (i := 691) (by decide +kernel), List.mem_of_getElem? (i := 692) (by decide +kernel)⟩
theorem lw_p40 : lw_okq (⟨"RelayBankModel", "ofItself", "(I)I"⟩, 9) := ⟨⟨by decide +kernel, by decide +kernel⟩, List.mem_of_getElem? (i := 492) (by decide +kernel), List.mem_of_getElem? (i := 699) (by decide +kernel), List.mem_of_getElem? (i := 700) (by decide +kernel)⟩
theorem lw_p41 : lw_okq (⟨"RelayBankModel", "ends", "(ZI)I"⟩, 9) := ⟨⟨by decide +kernel, by decide +kernel⟩, List.mem_of_getElem? (i := 492) (by decide +kernel), List.mem_of_getElem? (i := 715) (by decide +kernel), List.mem_of_getElem? (i := 716) (by decide +kernel)⟩
theorem lw_p42 : lw_okq (⟨"RelayBankModel", "restores", "()V"⟩, 9) := ⟨⟨by decide +kernel, by decide +kernel⟩, List.mem_of_getElem? (i := 492) (by decide +kernel), List.mem_of_getElem? (i := 719) (by decide +kernel), List.mem_of_getElem? (i := 720) (by decide +kernel)⟩
theorem lw_p43 : lw_okq (⟨"RelayBankModel", "races", "()I"⟩, 9) := ⟨⟨by decide +kernel, by decide +kernel⟩, List.mem_of_getElem? (i := 492) (by decide +kernel), List.mem_of_getElem? (i := 727) (by decide +kernel), List.mem_of_getElem? (i := 728) (by decide +kernel)⟩
theorem lw_p44 : lw_okq (⟨"RelayBankModel", "isStable", "(I)Z"⟩, 9) := ⟨⟨by decide +kernel, by decide +kernel⟩, List.mem_of_getElem? (i := 492) (by decide +kernel), List.mem_of_getElem? (i := 743) (by decide +kernel), List.mem_of_getElem? (i := 744) (by decide +kernel)⟩
def lw_privs_3 : List (MethodName × Nat) := [(⟨"RelayBankModel", "exchanges", "()V"⟩, 9), (⟨"RelayBankModel", "next", "(Z)I"⟩, 9), (⟨"RelayBankModel", "waits", "(I)Z"⟩, 9), (⟨"RelayBankModel", "isAhead", "(IIZ)Z"⟩, 9), (⟨"RelayBankModel", "timeOf", "(I)I"⟩, 9), (⟨"RelayBankModel", "happens", "(I)V"⟩, 9), (⟨"RelayBankModel", "settles", "(ZI)I"⟩, 9), (⟨"RelayBankModel", "set", "(I)I"⟩, 9), (⟨"RelayBankModel", "ofItself", "(I)I"⟩, 9), (⟨"RelayBankModel", "ends", "(ZI)I"⟩, 9), (⟨"RelayBankModel", "restores", "()V"⟩, 9), (⟨"RelayBankModel", "races", "()I"⟩, 9), (⟨"RelayBankModel", "isStable", "(I)Z"⟩, 9)]
theorem lw_r3 : ∀ q ∈ lw_privs_3, lw_okq q := List.forall_mem_cons.mpr ⟨lw_p32, List.forall_mem_cons.mpr ⟨lw_p33, List.forall_mem_cons.mpr ⟨lw_p34, List.forall_mem_cons.mpr ⟨lw_p35, List.forall_mem_cons.mpr ⟨lw_p36, List.forall_mem_cons.mpr ⟨lw_p37, List.forall_mem_cons.mpr ⟨lw_p38, List.forall_mem_cons.mpr ⟨lw_p39, List.forall_mem_cons.mpr ⟨lw_p40, List.forall_mem_cons.mpr ⟨lw_p41, List.forall_mem_cons.mpr ⟨lw_p42, List.forall_mem_cons.mpr ⟨lw_p43, List.forall_mem_cons.mpr ⟨lw_p44, fun _ h => absurd h List.not_mem_nil⟩⟩⟩⟩⟩⟩⟩⟩⟩⟩⟩⟩⟩
def lw_privs : List (MethodName × Nat) := lw_privs_1 ++ (lw_privs_2 ++ (lw_privs_3))
def lw_tbl : List Cond := k2_sels lw_privs ++ tables_1
theorem lw_privs_ok : ∀ q ∈ lw_privs, lw_okq q := by
  show ∀ q ∈ lw_privs_1 ++ (lw_privs_2 ++ (lw_privs_3)), lw_okq q
  exact List.forall_mem_append.mpr ⟨lw_r1, List.forall_mem_append.mpr ⟨lw_r2, lw_r3⟩⟩
-- ===== end of PART A; then your names; then what follows =====
end
section
/-! ===== BEGIN words of one list among another's, by their places ===== -/
theorem goodIn_r {big : List Cond} (ws : List Cond) (ps : List Nat) (hp : ws = ps.filterMap (fun i => big[i]?)) (h : ws.all goodWord = true) : GoodIn big ws := by
  intro w hw
  have h1 := List.all_eq_true.mp h w hw
  rw [hp] at hw
  obtain ⟨i, -, hi⟩ := List.mem_filterMap.mp hw
  have hm : w ∈ big := by first | exact List.mem_of_getElem? hi | exact List.getElem?_mem hi
  exact ⟨hm, good_of_word h1⟩
theorem goodIn_app {big a b : List Cond} (ha : GoodIn big a) (hb : GoodIn big b) : GoodIn big (a ++ b) := fun w h => (List.mem_append.mp h).elim (ha w) (hb w)
theorem goodIn_ca {big a b : List Cond} {c : Cond} (ha : GoodIn big (c :: a)) (hb : GoodIn big b) : GoodIn big (c :: (a ++ b)) := fun w h => (List.mem_cons.mp h).elim (fun e => ha w (List.mem_cons.mpr (Or.inl e))) (fun h => (List.mem_append.mp h).elim (fun h => ha w (List.mem_cons.mpr (Or.inr h))) (hb w))
theorem goodIn_sub {big ws : List Cond} (hm : ∀ w ∈ ws, w ∈ big) (h : ws.all goodWord = true) : GoodIn big ws := fun w hw => ⟨hm w hw, good_of_word (List.all_eq_true.mp h w hw)⟩
/-! ===== END ===== -/

/-! ===== BEGIN printed: names, fields, word lists, decode rows ===== -/
def RX0 : String := "RelayBank$Bank"
def TX0 : u_T := fun k => match k with
  | 0 => ("RelayBank$Bank", "pickUps", "[I", true)
  | 1 => ("RelayBank$Bank", "releases", "[I", true)
  | 2 => ("RelayBank$Bank", "bounces", "[I", true)
  | 3 => ("RelayBank$Bank", "sizes", "[I", true)
  | 4 => ("RelayBank$Bank", "branches", "[I", true)
  | 5 => ("RelayBank$Bank", "dues", "[I", true)
  | 6 => ("RelayBank$Bank", "relays", "I", false)
  | 7 => ("RelayBank$Bank", "time", "I", false)
  | 8 => ("RelayBank$Bank", "keys", "I", false)
  | 9 => ("RelayBank$Bank", "fed", "I", false)
  | 10 => ("RelayBank$Bank", "attracted", "I", false)
  | 11 => ("RelayBank$Bank", "bouncing", "I", false)
  | 12 => ("RelayBank$Bank", "stuck", "I", false)
  | 13 => ("RelayBank$Bank", "alwaysOpen", "I", false)
  | _ => ("RelayBank$Bank", "alwaysClosed", "I", false)
def tyX0 : Nat → FieldType := fun k => match k with
  | 0 => .array .int
  | 1 => .array .int
  | 2 => .array .int
  | 3 => .array .int
  | 4 => .array .int
  | 5 => .array .int
  | 6 => .int
  | 7 => .int
  | 8 => .int
  | 9 => .int
  | 10 => .int
  | 11 => .int
  | 12 => .int
  | 13 => .int
  | _ => .int
abbrev wsX00 : List Cond := u_ws RX0 TX0 15
theorem nmX0 : ∀ a, a < 15 → ∀ b, b < 15 → a ≠ b → (TX0 a).2.1 ≠ (TX0 b).2.1 := by decide +kernel
theorem tyX0_ok : ∀ k, k < 15 → parseFieldDescriptor (TX0 k).2.2.1 = some (tyX0 k) := by decide +kernel
abbrev cX0_init : ByteArray := prog_2_method_1_code
def yX0_init : MethodName := ⟨RX0, "<init>", "()V"⟩
abbrev cX0_copy : ByteArray := prog_2_method_2_code
def yX0_copy : MethodName := ⟨RX0, "copy", "(LRelayBank$Bank;)V"⟩
abbrev cX0_has : ByteArray := prog_2_method_3_code
def yX0_has : MethodName := ⟨RX0, "has", "(I)Z"⟩
abbrev cX0_add : ByteArray := prog_2_method_4_code
def yX0_add : MethodName := ⟨RX0, "add", "(III)I"⟩
abbrev cX0_putDelays : ByteArray := prog_2_method_5_code
def yX0_putDelays : MethodName := ⟨RX0, "putDelays", "(IIII)Z"⟩
abbrev cX0_branchesOf : ByteArray := prog_2_method_6_code
def yX0_branchesOf : MethodName := ⟨RX0, "branchesOf", "(I)I"⟩
abbrev cX0_branchAt : ByteArray := prog_2_method_7_code
def yX0_branchAt : MethodName := ⟨RX0, "branchAt", "(II)I"⟩
abbrev cX0_putBranch : ByteArray := prog_2_method_8_code
def yX0_putBranch : MethodName := ⟨RX0, "putBranch", "(III)V"⟩
abbrev cX0_putCondition : ByteArray := prog_2_method_9_code
def yX0_putCondition : MethodName := ⟨RX0, "putCondition", "(IIII)I"⟩
abbrev cX0_dropBranch : ByteArray := prog_2_method_10_code
def yX0_dropBranch : MethodName := ⟨RX0, "dropBranch", "(II)I"⟩
abbrev cX0_putCircuit : ByteArray := prog_2_method_11_code
def yX0_putCircuit : MethodName := ⟨RX0, "putCircuit", "(I[II)V"⟩
abbrev cX0_concerns : ByteArray := prog_2_method_12_code
def yX0_concerns : MethodName := ⟨RX0, "concerns", "(II)Z"⟩
abbrev cX0_turnKey : ByteArray := prog_2_method_13_code
def yX0_turnKey : MethodName := ⟨RX0, "turnKey", "(I)I"⟩
abbrev cX0_faultOf : ByteArray := prog_2_method_14_code
def yX0_faultOf : MethodName := ⟨RX0, "faultOf", "(I)I"⟩
abbrev cX0_putFault : ByteArray := prog_2_method_15_code
def yX0_putFault : MethodName := ⟨RX0, "putFault", "(II)V"⟩
abbrev cX0_closedContacts : ByteArray := prog_2_method_16_code
def yX0_closedContacts : MethodName := ⟨RX0, "closedContacts", "()I"⟩
abbrev cX0_failing : ByteArray := prog_2_method_17_code
def yX0_failing : MethodName := ⟨RX0, "failing", "()I"⟩
abbrev cX0_conducts : ByteArray := prog_2_method_18_code
def yX0_conducts : MethodName := ⟨RX0, "conducts", "(II)Z"⟩
abbrev cX0_isStable : ByteArray := prog_2_method_19_code
def yX0_isStable : MethodName := ⟨RX0, "isStable", "()Z"⟩
abbrev cX0_lookAtCoils : ByteArray := prog_2_method_20_code
def yX0_lookAtCoils : MethodName := ⟨RX0, "lookAtCoils", "()I"⟩
abbrev cX0_turnCoil : ByteArray := prog_2_method_21_code
def yX0_turnCoil : MethodName := ⟨RX0, "turnCoil", "(I)V"⟩
abbrev cX0_relayOf : ByteArray := prog_2_method_22_code
def yX0_relayOf : MethodName := ⟨RX0, "relayOf", "(I)I"⟩
abbrev cX0_isBounceEnd : ByteArray := prog_2_method_23_code
def yX0_isBounceEnd : MethodName := ⟨RX0, "isBounceEnd", "(I)Z"⟩
abbrev cX0_kindOf : ByteArray := prog_2_method_24_code
def yX0_kindOf : MethodName := ⟨RX0, "kindOf", "(I)I"⟩
abbrev cX0_waiting : ByteArray := prog_2_method_25_code
def yX0_waiting : MethodName := ⟨RX0, "waiting", "()I"⟩
abbrev cX0_isQuiet : ByteArray := prog_2_method_26_code
def yX0_isQuiet : MethodName := ⟨RX0, "isQuiet", "()Z"⟩
abbrev cX0_nextSlot : ByteArray := prog_2_method_27_code
def yX0_nextSlot : MethodName := ⟨RX0, "nextSlot", "(Z)I"⟩
abbrev cX0_slotAt : ByteArray := prog_2_method_28_code
def yX0_slotAt : MethodName := ⟨RX0, "slotAt", "(I)I"⟩
abbrev cX0_eventsBefore : ByteArray := prog_2_method_29_code
def yX0_eventsBefore : MethodName := ⟨RX0, "eventsBefore", "(I)I"⟩
abbrev cX0_happen : ByteArray := prog_2_method_30_code
def yX0_happen : MethodName := ⟨RX0, "happen", "(I)V"⟩
abbrev cX0_moveArmature : ByteArray := prog_2_method_31_code
def yX0_moveArmature : MethodName := ⟨RX0, "moveArmature", "(I)V"⟩
abbrev cX0_run : ByteArray := prog_2_method_32_code
def yX0_run : MethodName := ⟨RX0, "run", "(IIZ)I"⟩
def RX1 : String := "RelayBank$Branch"
def TX1 : u_T := fun k => match k with
  | _ => ("", "", "", false)
def tyX1 : Nat → FieldType := fun k => match k with
  | _ => .int
abbrev wsX10 : List Cond := u_ws RX1 TX1 0
theorem nmX1 : ∀ a, a < 0 → ∀ b, b < 0 → a ≠ b → (TX1 a).2.1 ≠ (TX1 b).2.1 := by decide +kernel
theorem tyX1_ok : ∀ k, k < 0 → parseFieldDescriptor (TX1 k).2.2.1 = some (tyX1 k) := by decide +kernel
abbrev cX1_bit : ByteArray := prog_3_method_2_code
def yX1_bit : MethodName := ⟨RX1, "bit", "(II)I"⟩
abbrev cX1_howOf : ByteArray := prog_3_method_3_code
def yX1_howOf : MethodName := ⟨RX1, "howOf", "(II)I"⟩
abbrev cX1_with : ByteArray := prog_3_method_4_code
def yX1_with : MethodName := ⟨RX1, "with", "(III)I"⟩
def RX2 : String := "RelayBank$CircuitReader"
def TX2 : u_T := fun k => match k with
  | 0 => ("RelayBank$CircuitReader", "branches", "[I", true)
  | 1 => ("RelayBank$CircuitReader", "size", "I", false)
  | 2 => ("RelayBank$CircuitReader", "relays", "I", false)
  | _ => ("RelayBank$CircuitReader", "place", "I", false)
def tyX2 : Nat → FieldType := fun k => match k with
  | 0 => .array .int
  | 1 => .int
  | 2 => .int
  | _ => .int
abbrev wsX20 : List Cond := u_ws RX2 TX2 4
theorem nmX2 : ∀ a, a < 4 → ∀ b, b < 4 → a ≠ b → (TX2 a).2.1 ≠ (TX2 b).2.1 := by decide +kernel
theorem tyX2_ok : ∀ k, k < 4 → parseFieldDescriptor (TX2 k).2.2.1 = some (tyX2 k) := by decide +kernel
abbrev cX2_init : ByteArray := prog_4_method_1_code
def yX2_init : MethodName := ⟨RX2, "<init>", "()V"⟩
abbrev cX2_read : ByteArray := prog_4_method_2_code
def yX2_read : MethodName := ⟨RX2, "read", "(LRelayBank$Text;I)I"⟩
abbrev cX2_take : ByteArray := prog_4_method_3_code
def yX2_take : MethodName := ⟨RX2, "take", "(C)Z"⟩
abbrev cX2_goTo : ByteArray := prog_4_method_4_code
def yX2_goTo : MethodName := ⟨RX2, "goTo", "(I)Z"⟩
abbrev cX2_beginBranch : ByteArray := prog_4_method_5_code
def yX2_beginBranch : MethodName := ⟨RX2, "beginBranch", "(C)Z"⟩
abbrev cX2_beginCondition : ByteArray := prog_4_method_6_code
def yX2_beginCondition : MethodName := ⟨RX2, "beginCondition", "(C)Z"⟩
abbrev cX2_takeLetter : ByteArray := prog_4_method_7_code
def yX2_takeLetter : MethodName := ⟨RX2, "takeLetter", "(CI)Z"⟩
abbrev cX2_subjectOf : ByteArray := prog_4_method_8_code
def yX2_subjectOf : MethodName := ⟨RX2, "subjectOf", "(C)I"⟩
def RX3 : String := "RelayBank$Past"
def TX3 : u_T := fun k => match k with
  | 0 => ("RelayBank$Past", "banks", "[LRelayBank$Bank;", true)
  | 1 => ("RelayBank$Past", "oldest", "I", false)
  | _ => ("RelayBank$Past", "size", "I", false)
def tyX3 : Nat → FieldType := fun k => match k with
  | 0 => .array (.object "RelayBank$Bank")
  | 1 => .int
  | _ => .int
abbrev wsX30 : List Cond := u_ws RX3 TX3 3
theorem nmX3 : ∀ a, a < 3 → ∀ b, b < 3 → a ≠ b → (TX3 a).2.1 ≠ (TX3 b).2.1 := by decide +kernel
theorem tyX3_ok : ∀ k, k < 3 → parseFieldDescriptor (TX3 k).2.2.1 = some (tyX3 k) := by decide +kernel
abbrev cX3_init : ByteArray := prog_5_method_1_code
def yX3_init : MethodName := ⟨RX3, "<init>", "()V"⟩
abbrev cX3_bankAt : ByteArray := prog_5_method_2_code
def yX3_bankAt : MethodName := ⟨RX3, "bankAt", "(I)LRelayBank$Bank;"⟩
abbrev cX3_save : ByteArray := prog_5_method_3_code
def yX3_save : MethodName := ⟨RX3, "save", "(LRelayBank$Bank;)V"⟩
abbrev cX3_restore : ByteArray := prog_5_method_4_code
def yX3_restore : MethodName := ⟨RX3, "restore", "(LRelayBank$Bank;)Z"⟩
def RX4 : String := "RelayBank$Text"
def TX4 : u_T := fun k => match k with
  | 0 => ("RelayBank$Text", "characters", "[C", true)
  | _ => ("RelayBank$Text", "length", "I", false)
def tyX4 : Nat → FieldType := fun k => match k with
  | 0 => .array .char
  | _ => .int
abbrev wsX40 : List Cond := u_ws RX4 TX4 2
theorem nmX4 : ∀ a, a < 2 → ∀ b, b < 2 → a ≠ b → (TX4 a).2.1 ≠ (TX4 b).2.1 := by decide +kernel
theorem tyX4_ok : ∀ k, k < 2 → parseFieldDescriptor (TX4 k).2.2.1 = some (tyX4 k) := by decide +kernel
abbrev cX4_init : ByteArray := prog_6_method_1_code
def yX4_init : MethodName := ⟨RX4, "<init>", "()V"⟩
abbrev cX4_append : ByteArray := prog_6_method_2_code
def yX4_append : MethodName := ⟨RX4, "append", "(C)V"⟩
abbrev cX4_characterAt : ByteArray := prog_6_method_3_code
def yX4_characterAt : MethodName := ⟨RX4, "characterAt", "(I)C"⟩
def RX5 : String := "RelayBank"
def TX5 : u_T := fun k => match k with
  | 0 => ("RelayBank", "now", "LRelayBank$Bank;", true)
  | 1 => ("RelayBank", "past", "LRelayBank$Past;", true)
  | 2 => ("RelayBank", "text", "LRelayBank$Text;", true)
  | 3 => ("RelayBank", "reader", "LRelayBank$CircuitReader;", true)
  | 4 => ("RelayBank", "changed", "LRelayBank$Bank;", true)
  | _ => ("RelayBank", "trial", "LRelayBank$Bank;", true)
def tyX5 : Nat → FieldType := fun k => match k with
  | 0 => .object "RelayBank$Bank"
  | 1 => .object "RelayBank$Past"
  | 2 => .object "RelayBank$Text"
  | 3 => .object "RelayBank$CircuitReader"
  | 4 => .object "RelayBank$Bank"
  | _ => .object "RelayBank$Bank"
abbrev wsX50 : List Cond := u_ws RX5 TX5 6
theorem nmX5 : ∀ a, a < 6 → ∀ b, b < 6 → a ≠ b → (TX5 a).2.1 ≠ (TX5 b).2.1 := by decide +kernel
theorem tyX5_ok : ∀ k, k < 6 → parseFieldDescriptor (TX5 k).2.2.1 = some (tyX5 k) := by decide +kernel
abbrev cX5_init : ByteArray := prog_1_method_1_code
def yX5_init : MethodName := ⟨RX5, "<init>", "()V"⟩
abbrev cX5_addRelay : ByteArray := prog_1_method_2_code
def yX5_addRelay : MethodName := ⟨RX5, "addRelay", "(III)I"⟩
abbrev cX5_setDelays : ByteArray := prog_1_method_3_code
def yX5_setDelays : MethodName := ⟨RX5, "setDelays", "(IIII)I"⟩
abbrev cX5_setCondition : ByteArray := prog_1_method_4_code
def yX5_setCondition : MethodName := ⟨RX5, "setCondition", "(IIII)I"⟩
abbrev cX5_removeBranch : ByteArray := prog_1_method_5_code
def yX5_removeBranch : MethodName := ⟨RX5, "removeBranch", "(II)I"⟩
abbrev cX5_appendCharacter : ByteArray := prog_1_method_6_code
def yX5_appendCharacter : MethodName := ⟨RX5, "appendCharacter", "(I)I"⟩
abbrev cX5_clearText : ByteArray := prog_1_method_7_code
def yX5_clearText : MethodName := ⟨RX5, "clearText", "()I"⟩
abbrev cX5_load : ByteArray := prog_1_method_8_code
def yX5_load : MethodName := ⟨RX5, "load", "(I)I"⟩
abbrev cX5_press : ByteArray := prog_1_method_9_code
def yX5_press : MethodName := ⟨RX5, "press", "(II)I"⟩
abbrev cX5_setFault : ByteArray := prog_1_method_10_code
def yX5_setFault : MethodName := ⟨RX5, "setFault", "(II)I"⟩
abbrev cX5_stick : ByteArray := prog_1_method_11_code
def yX5_stick : MethodName := ⟨RX5, "stick", "(II)I"⟩
abbrev cX5_step : ByteArray := prog_1_method_12_code
def yX5_step : MethodName := ⟨RX5, "step", "()I"⟩
abbrev cX5_settle : ByteArray := prog_1_method_13_code
def yX5_settle : MethodName := ⟨RX5, "settle", "(I)I"⟩
abbrev cX5_pass : ByteArray := prog_1_method_14_code
def yX5_pass : MethodName := ⟨RX5, "pass", "(I)I"⟩
abbrev cX5_count : ByteArray := prog_1_method_15_code
def yX5_count : MethodName := ⟨RX5, "count", "(I)I"⟩
abbrev cX5_relay : ByteArray := prog_1_method_16_code
def yX5_relay : MethodName := ⟨RX5, "relay", "(II)I"⟩
abbrev cX5_condition : ByteArray := prog_1_method_17_code
def yX5_condition : MethodName := ⟨RX5, "condition", "(III)I"⟩
abbrev cX5_event : ByteArray := prog_1_method_18_code
def yX5_event : MethodName := ⟨RX5, "event", "(II)I"⟩
abbrev cX5_outcome : ByteArray := prog_1_method_19_code
def yX5_outcome : MethodName := ⟨RX5, "outcome", "(II)I"⟩
abbrev cX5_isRace : ByteArray := prog_1_method_20_code
def yX5_isRace : MethodName := ⟨RX5, "isRace", "()I"⟩
abbrev cX5_raceBy : ByteArray := prog_1_method_21_code
def yX5_raceBy : MethodName := ⟨RX5, "raceBy", "(I)I"⟩
abbrev cX5_hazards : ByteArray := prog_1_method_22_code
def yX5_hazards : MethodName := ⟨RX5, "hazards", "(I)I"⟩
abbrev cX5_stableStates : ByteArray := prog_1_method_23_code
def yX5_stableStates : MethodName := ⟨RX5, "stableStates", "()I"⟩
abbrev cX5_explain : ByteArray := prog_1_method_24_code
def yX5_explain : MethodName := ⟨RX5, "explain", "(I)I"⟩
abbrev cX5_undo : ByteArray := prog_1_method_25_code
def yX5_undo : MethodName := ⟨RX5, "undo", "()I"⟩
abbrev cX5_endingOf : ByteArray := prog_1_method_26_code
def yX5_endingOf : MethodName := ⟨RX5, "endingOf", "(LRelayBank$Bank;IZ)I"⟩
abbrev cX5_raceIn : ByteArray := prog_1_method_27_code
def yX5_raceIn : MethodName := ⟨RX5, "raceIn", "(LRelayBank$Bank;)I"⟩
abbrev cX5_isKey : ByteArray := prog_1_method_28_code
def yX5_isKey : MethodName := ⟨RX5, "isKey", "(I)Z"⟩
abbrev cX5_areDelays : ByteArray := prog_1_method_29_code
def yX5_areDelays : MethodName := ⟨RX5, "areDelays", "(III)Z"⟩
abbrev cX5_isWithin : ByteArray := prog_1_method_30_code
def yX5_isWithin : MethodName := ⟨RX5, "isWithin", "(III)Z"⟩
abbrev cX5_bitOf : ByteArray := prog_1_method_31_code
def yX5_bitOf : MethodName := ⟨RX5, "bitOf", "(II)I"⟩
abbrev cX5_isIn : ByteArray := prog_1_method_32_code
def yX5_isIn : MethodName := ⟨RX5, "isIn", "(II)Z"⟩
abbrev cX5_at : ByteArray := prog_1_method_33_code
def yX5_at : MethodName := ⟨RX5, "at", "([II)I"⟩
abbrev cX5_put : ByteArray := prog_1_method_34_code
def yX5_put : MethodName := ⟨RX5, "put", "([III)V"⟩
def RX6 : String := "RelayBankModel"
def TX6 : u_T := fun k => match k with
  | 0 => ("RelayBankModel", "s", "[I", true)
  | 1 => ("RelayBankModel", "past", "[I", true)
  | 2 => ("RelayBankModel", "pasts", "I", false)
  | 3 => ("RelayBankModel", "kept", "[I", true)
  | 4 => ("RelayBankModel", "held", "[I", true)
  | 5 => ("RelayBankModel", "text", "[B", true)
  | 6 => ("RelayBankModel", "typed", "I", false)
  | 7 => ("RelayBankModel", "changes", "I", false)
  | _ => ("RelayBankModel", "at", "I", false)
def tyX6 : Nat → FieldType := fun k => match k with
  | 0 => .array .int
  | 1 => .array .int
  | 2 => .int
  | 3 => .array .int
  | 4 => .array .int
  | 5 => .array .byte
  | 6 => .int
  | 7 => .int
  | _ => .int
abbrev wsX60 : List Cond := u_ws RX6 TX6 9
theorem nmX6 : ∀ a, a < 9 → ∀ b, b < 9 → a ≠ b → (TX6 a).2.1 ≠ (TX6 b).2.1 := by decide +kernel
theorem tyX6_ok : ∀ k, k < 9 → parseFieldDescriptor (TX6 k).2.2.1 = some (tyX6 k) := by decide +kernel
abbrev cX6_init : ByteArray := prog_8_method_1_code
def yX6_init : MethodName := ⟨RX6, "<init>", "()V"⟩
abbrev cX6_in : ByteArray := prog_8_method_3_code
def yX6_in : MethodName := ⟨RX6, "in", "(III)Z"⟩
abbrev cX6_notes : ByteArray := prog_8_method_4_code
def yX6_notes : MethodName := ⟨RX6, "notes", "()V"⟩
abbrev cX6_undo : ByteArray := prog_8_method_5_code
def yX6_undo : MethodName := ⟨RX6, "undo", "()I"⟩
abbrev cX6_keeps : ByteArray := prog_8_method_6_code
def yX6_keeps : MethodName := ⟨RX6, "keeps", "()V"⟩
abbrev cX6_restores : ByteArray := prog_8_method_7_code
def yX6_restores : MethodName := ⟨RX6, "restores", "()V"⟩
abbrev cX6_isRelay : ByteArray := prog_8_method_8_code
def yX6_isRelay : MethodName := ⟨RX6, "isRelay", "(I)Z"⟩
abbrev cX6_of : ByteArray := prog_8_method_9_code
def yX6_of : MethodName := ⟨RX6, "of", "(II)I"⟩
abbrev cX6_puts : ByteArray := prog_8_method_10_code
def yX6_puts : MethodName := ⟨RX6, "puts", "(III)V"⟩
abbrev cX6_set : ByteArray := prog_8_method_11_code
def yX6_set : MethodName := ⟨RX6, "set", "(I)I"⟩
abbrev cX6_closed : ByteArray := prog_8_method_12_code
def yX6_closed : MethodName := ⟨RX6, "closed", "()I"⟩
abbrev cX6_conducts : ByteArray := prog_8_method_13_code
def yX6_conducts : MethodName := ⟨RX6, "conducts", "(II)Z"⟩
abbrev cX6_looks : ByteArray := prog_8_method_14_code
def yX6_looks : MethodName := ⟨RX6, "looks", "()I"⟩
abbrev cX6_timeOf : ByteArray := prog_8_method_15_code
def yX6_timeOf : MethodName := ⟨RX6, "timeOf", "(I)I"⟩
abbrev cX6_waits : ByteArray := prog_8_method_16_code
def yX6_waits : MethodName := ⟨RX6, "waits", "(I)Z"⟩
abbrev cX6_isAhead : ByteArray := prog_8_method_17_code
def yX6_isAhead : MethodName := ⟨RX6, "isAhead", "(IIZ)Z"⟩
abbrev cX6_next : ByteArray := prog_8_method_18_code
def yX6_next : MethodName := ⟨RX6, "next", "(Z)I"⟩
abbrev cX6_happens : ByteArray := prog_8_method_19_code
def yX6_happens : MethodName := ⟨RX6, "happens", "(I)V"⟩
abbrev cX6_settles : ByteArray := prog_8_method_20_code
def yX6_settles : MethodName := ⟨RX6, "settles", "(ZI)I"⟩
abbrev cX6_addRelay : ByteArray := prog_8_method_21_code
def yX6_addRelay : MethodName := ⟨RX6, "addRelay", "(III)I"⟩
abbrev cX6_setDelays : ByteArray := prog_8_method_22_code
def yX6_setDelays : MethodName := ⟨RX6, "setDelays", "(IIII)I"⟩
abbrev cX6_isSubject : ByteArray := prog_8_method_23_code
def yX6_isSubject : MethodName := ⟨RX6, "isSubject", "(I)Z"⟩
abbrev cX6_how : ByteArray := prog_8_method_24_code
def yX6_how : MethodName := ⟨RX6, "how", "(III)I"⟩
abbrev cX6_conditions : ByteArray := prog_8_method_25_code
def yX6_conditions : MethodName := ⟨RX6, "conditions", "(IIII)V"⟩
abbrev cX6_opensBranch : ByteArray := prog_8_method_26_code
def yX6_opensBranch : MethodName := ⟨RX6, "opensBranch", "(I)V"⟩
abbrev cX6_setCondition : ByteArray := prog_8_method_27_code
def yX6_setCondition : MethodName := ⟨RX6, "setCondition", "(IIII)I"⟩
abbrev cX6_removeBranch : ByteArray := prog_8_method_28_code
def yX6_removeBranch : MethodName := ⟨RX6, "removeBranch", "(II)I"⟩
abbrev cX6_appendCharacter : ByteArray := prog_8_method_29_code
def yX6_appendCharacter : MethodName := ⟨RX6, "appendCharacter", "(I)I"⟩
abbrev cX6_clearText : ByteArray := prog_8_method_30_code
def yX6_clearText : MethodName := ⟨RX6, "clearText", "()I"⟩
abbrev cX6_here : ByteArray := prog_8_method_31_code
def yX6_here : MethodName := ⟨RX6, "here", "()I"⟩
abbrev cX6_subject : ByteArray := prog_8_method_32_code
def yX6_subject : MethodName := ⟨RX6, "subject", "(I)I"⟩
abbrev cX6_readsCondition : ByteArray := prog_8_method_33_code
def yX6_readsCondition : MethodName := ⟨RX6, "readsCondition", "(II)Z"⟩
abbrev cX6_isEnd : ByteArray := prog_8_method_34_code
def yX6_isEnd : MethodName := ⟨RX6, "isEnd", "()Z"⟩
abbrev cX6_readsBranch : ByteArray := prog_8_method_35_code
def yX6_readsBranch : MethodName := ⟨RX6, "readsBranch", "(I)Z"⟩
abbrev cX6_reads : ByteArray := prog_8_method_36_code
def yX6_reads : MethodName := ⟨RX6, "reads", "(I)Z"⟩
abbrev cX6_exchanges : ByteArray := prog_8_method_37_code
def yX6_exchanges : MethodName := ⟨RX6, "exchanges", "()V"⟩
abbrev cX6_load : ByteArray := prog_8_method_38_code
def yX6_load : MethodName := ⟨RX6, "load", "(I)I"⟩
abbrev cX6_press : ByteArray := prog_8_method_39_code
def yX6_press : MethodName := ⟨RX6, "press", "(II)I"⟩
abbrev cX6_setFault : ByteArray := prog_8_method_40_code
def yX6_setFault : MethodName := ⟨RX6, "setFault", "(II)I"⟩
abbrev cX6_stick : ByteArray := prog_8_method_41_code
def yX6_stick : MethodName := ⟨RX6, "stick", "(II)I"⟩
abbrev cX6_step : ByteArray := prog_8_method_42_code
def yX6_step : MethodName := ⟨RX6, "step", "()I"⟩
abbrev cX6_settle : ByteArray := prog_8_method_43_code
def yX6_settle : MethodName := ⟨RX6, "settle", "(I)I"⟩
abbrev cX6_pass : ByteArray := prog_8_method_44_code
def yX6_pass : MethodName := ⟨RX6, "pass", "(I)I"⟩
abbrev cX6_count : ByteArray := prog_8_method_45_code
def yX6_count : MethodName := ⟨RX6, "count", "(I)I"⟩
abbrev cX6_ofItself : ByteArray := prog_8_method_46_code
def yX6_ofItself : MethodName := ⟨RX6, "ofItself", "(I)I"⟩
abbrev cX6_relay : ByteArray := prog_8_method_47_code
def yX6_relay : MethodName := ⟨RX6, "relay", "(II)I"⟩
abbrev cX6_condition : ByteArray := prog_8_method_48_code
def yX6_condition : MethodName := ⟨RX6, "condition", "(III)I"⟩
abbrev cX6_event : ByteArray := prog_8_method_49_code
def yX6_event : MethodName := ⟨RX6, "event", "(II)I"⟩
abbrev cX6_ends : ByteArray := prog_8_method_50_code
def yX6_ends : MethodName := ⟨RX6, "ends", "(ZI)I"⟩
abbrev cX6_outcome : ByteArray := prog_8_method_51_code
def yX6_outcome : MethodName := ⟨RX6, "outcome", "(II)I"⟩
abbrev cX6_races : ByteArray := prog_8_method_52_code
def yX6_races : MethodName := ⟨RX6, "races", "()I"⟩
abbrev cX6_isRace : ByteArray := prog_8_method_53_code
def yX6_isRace : MethodName := ⟨RX6, "isRace", "()I"⟩
abbrev cX6_raceBy : ByteArray := prog_8_method_54_code
def yX6_raceBy : MethodName := ⟨RX6, "raceBy", "(I)I"⟩
abbrev cX6_hazards : ByteArray := prog_8_method_55_code
def yX6_hazards : MethodName := ⟨RX6, "hazards", "(I)I"⟩
abbrev cX6_stableStates : ByteArray := prog_8_method_56_code
def yX6_stableStates : MethodName := ⟨RX6, "stableStates", "()I"⟩
abbrev cX6_isStable : ByteArray := prog_8_method_57_code
def yX6_isStable : MethodName := ⟨RX6, "isStable", "(I)Z"⟩
abbrev cX6_explain : ByteArray := prog_8_method_58_code
def yX6_explain : MethodName := ⟨RX6, "explain", "(I)I"⟩
def RJ9 : String := "java/lang/Math"
def TJ9 : u_T := fun k => match k with
  | _ => ("", "", "", false)
def tyJ9 : Nat → FieldType := fun k => match k with
  | _ => .int
abbrev wsJ90 : List Cond := u_ws RJ9 TJ9 0
theorem nmJ9 : ∀ a, a < 0 → ∀ b, b < 0 → a ≠ b → (TJ9 a).2.1 ≠ (TJ9 b).2.1 := by decide +kernel
theorem tyJ9_ok : ∀ k, k < 0 → parseFieldDescriptor (TJ9 k).2.2.1 = some (tyJ9 k) := by decide +kernel
abbrev cJ9_floorMod_7cf53 : ByteArray := prog_9_method_50_code
def yJ9_floorMod_7cf53 : MethodName := ⟨RJ9, "floorMod", "(II)I"⟩
def RJ10 : String := "java/lang/System"
def TJ10 : u_T := fun k => match k with
  | _ => ("", "", "", false)
def tyJ10 : Nat → FieldType := fun k => match k with
  | _ => .int
abbrev wsJ100 : List Cond := u_ws RJ10 TJ10 0
theorem nmJ10 : ∀ a, a < 0 → ∀ b, b < 0 → a ≠ b → (TJ10 a).2.1 ≠ (TJ10 b).2.1 := by decide +kernel
theorem tyJ10_ok : ∀ k, k < 0 → parseFieldDescriptor (TJ10 k).2.2.1 = some (tyJ10 k) := by decide +kernel
def RL : String := "RelayBankLaw"
abbrev cL_law : ByteArray := code
def yL_law : MethodName := ⟨RL, "law", "([I)Z"⟩
def wsL_law_r1 : List Cond := [Cond.classLink RL 7 RX5, Cond.instantiable RX5 6, Cond.initialized RX5, Cond.classLink RL 10 RX6, Cond.instantiable RX6 9, Cond.initialized RX6, Cond.methodLink RL 9 yX5_init, Cond.instanceMethod yX5_init, Cond.code yX5_init cX5_init 1 none, Cond.methodLink RX5 3 objectInit, Cond.instanceMethod objectInit, Cond.code objectInit ⟨#[0xb1]⟩ 1 none, Cond.classLink RX5 9 RX0, Cond.instantiable RX0 15, Cond.initialized RX0, Cond.fieldLink RX5 12 "RelayBank" "now" "LRelayBank$Bank;", Cond.classLink RX5 16 RX3, Cond.instantiable RX3 3, Cond.initialized RX3, Cond.fieldLink RX5 19 "RelayBank" "past" "LRelayBank$Past;", Cond.classLink RX5 23 RX4, Cond.instantiable RX4 2, Cond.initialized RX4, Cond.fieldLink RX5 26 "RelayBank" "text" "LRelayBank$Text;"]
def wsL_law_r2 : List Cond := [Cond.classLink RX5 30 RX2, Cond.instantiable RX2 4, Cond.initialized RX2, Cond.fieldLink RX5 33 "RelayBank" "reader" "LRelayBank$CircuitReader;", Cond.fieldLink RX5 37 "RelayBank" "changed" "LRelayBank$Bank;", Cond.fieldLink RX5 40 "RelayBank" "trial" "LRelayBank$Bank;", Cond.methodLink RX5 11 yX0_init, Cond.instanceMethod yX0_init, Cond.code yX0_init cX0_init 2 none, Cond.methodLink RX0 3 objectInit, Cond.arrayClass .int, Cond.fieldLink RX0 9 "RelayBank$Bank" "pickUps" "[I", Cond.fieldLink RX0 15 "RelayBank$Bank" "releases" "[I", Cond.fieldLink RX0 18 "RelayBank$Bank" "bounces" "[I", Cond.fieldLink RX0 21 "RelayBank$Bank" "sizes" "[I", Cond.fieldLink RX0 24 "RelayBank$Bank" "branches" "[I", Cond.fieldLink RX0 27 "RelayBank$Bank" "dues" "[I", Cond.constant RX0 30 (2147483647), Cond.methodLink RX5 18 yX3_init, Cond.instanceMethod yX3_init, Cond.code yX3_init cX3_init 2 none, Cond.methodLink RX3 3 objectInit, Cond.classLink RX3 9 RX0, Cond.fieldLink RX3 11 "RelayBank$Past" "banks" "[LRelayBank$Bank;"]
def wsL_law_r3 : List Cond := [Cond.methodLink RX3 17 yX0_init, Cond.instanceMethod yX4_init, Cond.code yX4_init cX4_init 1 none, Cond.methodLink RX4 3 objectInit, Cond.arrayClass .char, Cond.fieldLink RX4 9 "RelayBank$Text" "characters" "[C", Cond.instanceMethod yX2_init, Cond.code yX2_init cX2_init 1 none, Cond.methodLink RX2 3 objectInit, Cond.fieldLink RX2 9 "RelayBank$CircuitReader" "branches" "[I", Cond.methodLink RL 12 yX6_init, Cond.instanceMethod yX6_init, Cond.code yX6_init cX6_init 1 none, Cond.methodLink RX6 1 objectInit, Cond.fieldLink RX6 7 "RelayBankModel" "s" "[I", Cond.fieldLink RX6 13 "RelayBankModel" "past" "[I", Cond.fieldLink RX6 16 "RelayBankModel" "kept" "[I", Cond.fieldLink RX6 19 "RelayBankModel" "held" "[I", Cond.arrayClass .byte, Cond.fieldLink RX6 22 "RelayBankModel" "text" "[B", Cond.fieldLink RX6 26 "RelayBankModel" "typed" "I", Cond.methodLink RL 13 yX5_addRelay, Cond.instanceMethod yX5_addRelay, Cond.selects RX5 yX5_addRelay yX5_addRelay]
def wsL_law_r4 : List Cond := [Cond.code yX5_addRelay cX5_addRelay 4 (some .int), Cond.methodLink RX5 43 yX5_areDelays, Cond.static yX5_areDelays, Cond.code yX5_areDelays cX5_areDelays 3 (some .boolean), Cond.methodLink RX5 71 yX5_isWithin, Cond.static yX5_isWithin, Cond.code yX5_isWithin cX5_isWithin 3 (some .boolean), Cond.methodLink RX5 51 yX3_save, Cond.instanceMethod yX3_save, Cond.selects RX3 yX3_save yX3_save, Cond.code yX3_save cX3_save 3 none, Cond.fieldLink RX3 28 "RelayBank$Past" "size" "I", Cond.fieldLink RX3 18 "RelayBank$Past" "oldest" "I", Cond.methodLink RX3 22 yJ9_floorMod_7cf53, Cond.static yJ9_floorMod_7cf53, Cond.initialized RJ9, Cond.code yJ9_floorMod_7cf53 cJ9_floorMod_7cf53 3 (some .int), Cond.methodLink RX3 31 yX3_bankAt, Cond.instanceMethod yX3_bankAt, Cond.selects RX3 yX3_bankAt yX3_bankAt, Cond.code yX3_bankAt cX3_bankAt 3 (some (.object "RelayBank$Bank")), Cond.methodLink RX3 35 yX0_copy, Cond.instanceMethod yX0_copy, Cond.selects RX0 yX0_copy yX0_copy]
def wsL_law_r5 : List Cond := [Cond.code yX0_copy cX0_copy 2 none, Cond.methodLink RX0 31 arraycopyName, Cond.native arraycopyName, Cond.static arraycopyName, Cond.initialized "java/lang/System", Cond.fieldLink RX0 37 "RelayBank$Bank" "relays" "I", Cond.fieldLink RX0 41 "RelayBank$Bank" "time" "I", Cond.fieldLink RX0 44 "RelayBank$Bank" "keys" "I", Cond.fieldLink RX0 47 "RelayBank$Bank" "fed" "I", Cond.fieldLink RX0 50 "RelayBank$Bank" "attracted" "I", Cond.fieldLink RX0 53 "RelayBank$Bank" "bouncing" "I", Cond.fieldLink RX0 56 "RelayBank$Bank" "stuck" "I", Cond.fieldLink RX0 59 "RelayBank$Bank" "alwaysOpen" "I", Cond.fieldLink RX0 62 "RelayBank$Bank" "alwaysClosed" "I", Cond.methodLink RX5 55 yX0_add, Cond.instanceMethod yX0_add, Cond.selects RX0 yX0_add yX0_add, Cond.code yX0_add cX0_add 5 (some .int), Cond.methodLink RX0 69 yX0_putDelays, Cond.instanceMethod yX0_putDelays, Cond.selects RX0 yX0_putDelays yX0_putDelays, Cond.code yX0_putDelays cX0_putDelays 6 (some .boolean), Cond.static yX5_at, Cond.code yX5_at cX5_at 2 (some .int)]
def wsL_law_r6 : List Cond := [Cond.static yX5_put, Cond.code yX5_put cX5_put 3 none, Cond.methodLink RL 17 yX6_addRelay, Cond.instanceMethod yX6_addRelay, Cond.selects RX6 yX6_addRelay yX6_addRelay, Cond.code yX6_addRelay cX6_addRelay 6 (some .int), Cond.methodLink RX6 33 yX6_in, Cond.static yX6_in, Cond.code yX6_in cX6_in 3 (some .boolean), Cond.methodLink RX6 79 yX6_notes, Cond.instanceMethod yX6_notes, Cond.selects RX6 yX6_notes yX6_notes, Cond.code yX6_notes cX6_notes 2 none, Cond.fieldLink RX6 30 "RelayBankModel" "pasts" "I", Cond.methodLink RX6 49 yX6_puts, Cond.instanceMethod yX6_puts, Cond.selects RX6 yX6_puts yX6_puts, Cond.code yX6_puts cX6_puts 4 none, Cond.methodLink RL 18 yX5_setDelays, Cond.instanceMethod yX5_setDelays, Cond.selects RX5 yX5_setDelays yX5_setDelays, Cond.code yX5_setDelays cX5_setDelays 5 (some .int), Cond.methodLink RX5 59 yX0_has, Cond.instanceMethod yX0_has]
def wsL_law_r7 : List Cond := [Cond.selects RX0 yX0_has yX0_has, Cond.code yX0_has cX0_has 2 (some .boolean), Cond.methodLink RX5 63 yX0_putDelays, Cond.methodLink RL 22 yX6_setDelays, Cond.instanceMethod yX6_setDelays, Cond.selects RX6 yX6_setDelays yX6_setDelays, Cond.code yX6_setDelays cX6_setDelays 6 (some .int), Cond.methodLink RX6 82 yX6_isRelay, Cond.instanceMethod yX6_isRelay, Cond.selects RX6 yX6_isRelay yX6_isRelay, Cond.code yX6_isRelay cX6_isRelay 2 (some .boolean), Cond.methodLink RX6 37 yX6_of, Cond.instanceMethod yX6_of, Cond.selects RX6 yX6_of yX6_of, Cond.code yX6_of cX6_of 3 (some .int), Cond.methodLink RL 23 yX5_setCondition, Cond.instanceMethod yX5_setCondition, Cond.selects RX5 yX5_setCondition yX5_setCondition, Cond.code yX5_setCondition cX5_setCondition 5 (some .int), Cond.methodLink RX5 67 yX0_branchesOf, Cond.instanceMethod yX0_branchesOf, Cond.selects RX0 yX0_branchesOf yX0_branchesOf, Cond.code yX0_branchesOf cX0_branchesOf 2 (some .int), Cond.methodLink RX5 74 yX0_putCondition]
def wsL_law_r8 : List Cond := [Cond.instanceMethod yX0_putCondition, Cond.selects RX0 yX0_putCondition yX0_putCondition, Cond.code yX0_putCondition cX0_putCondition 7 (some .int), Cond.methodLink RX0 81 yX0_branchesOf, Cond.methodLink RX0 85 yX0_branchAt, Cond.instanceMethod yX0_branchAt, Cond.selects RX0 yX0_branchAt yX0_branchAt, Cond.code yX0_branchAt cX0_branchAt 3 (some .int), Cond.methodLink RX0 89 yX1_with, Cond.static yX1_with, Cond.initialized RX1, Cond.code yX1_with cX1_with 4 (some .int), Cond.methodLink RX1 9 yX1_bit, Cond.static yX1_bit, Cond.code yX1_bit cX1_bit 2 (some .int), Cond.methodLink RX0 95 yX0_putBranch, Cond.instanceMethod yX0_putBranch, Cond.selects RX0 yX0_putBranch yX0_putBranch, Cond.code yX0_putBranch cX0_putBranch 4 none, Cond.methodLink RX0 99 yX0_lookAtCoils, Cond.instanceMethod yX0_lookAtCoils, Cond.selects RX0 yX0_lookAtCoils yX0_lookAtCoils, Cond.code yX0_lookAtCoils cX0_lookAtCoils 4 (some .int), Cond.methodLink RX0 114 yX0_failing]
def wsL_law_r9 : List Cond := [Cond.instanceMethod yX0_failing, Cond.selects RX0 yX0_failing yX0_failing, Cond.code yX0_failing cX0_failing 2 (some .int), Cond.constant RX0 113 (65535), Cond.methodLink RX0 110 yX0_closedContacts, Cond.instanceMethod yX0_closedContacts, Cond.selects RX0 yX0_closedContacts yX0_closedContacts, Cond.code yX0_closedContacts cX0_closedContacts 1 (some .int), Cond.methodLink RX0 117 yX0_conducts, Cond.instanceMethod yX0_conducts, Cond.selects RX0 yX0_conducts yX0_conducts, Cond.code yX0_conducts cX0_conducts 6 (some .boolean), Cond.static yX5_isIn, Cond.code yX5_isIn cX5_isIn 2 (some .boolean), Cond.methodLink RX0 120 yX0_turnCoil, Cond.instanceMethod yX0_turnCoil, Cond.selects RX0 yX0_turnCoil yX0_turnCoil, Cond.code yX0_turnCoil cX0_turnCoil 3 none, Cond.methodLink RX0 103 yX1_howOf, Cond.static yX1_howOf, Cond.code yX1_howOf cX1_howOf 2 (some .int), Cond.methodLink RL 26 yX6_setCondition, Cond.instanceMethod yX6_setCondition, Cond.selects RX6 yX6_setCondition yX6_setCondition]
def wsL_law_r10 : List Cond := [Cond.code yX6_setCondition cX6_setCondition 6 (some .int), Cond.fieldLink RX6 65 "RelayBankModel" "changes" "I", Cond.methodLink RX6 85 yX6_isSubject, Cond.instanceMethod yX6_isSubject, Cond.selects RX6 yX6_isSubject yX6_isSubject, Cond.code yX6_isSubject cX6_isSubject 2 (some .boolean), Cond.methodLink RX6 88 yX6_opensBranch, Cond.instanceMethod yX6_opensBranch, Cond.selects RX6 yX6_opensBranch yX6_opensBranch, Cond.code yX6_opensBranch cX6_opensBranch 3 none, Cond.methodLink RX6 91 yX6_how, Cond.instanceMethod yX6_how, Cond.selects RX6 yX6_how yX6_how, Cond.code yX6_how cX6_how 6 (some .int), Cond.methodLink RX6 95 yX6_conditions, Cond.instanceMethod yX6_conditions, Cond.selects RX6 yX6_conditions yX6_conditions, Cond.code yX6_conditions cX6_conditions 8 none, Cond.methodLink RX6 68 yX6_looks, Cond.instanceMethod yX6_looks, Cond.selects RX6 yX6_looks yX6_looks, Cond.code yX6_looks cX6_looks 6 (some .int), Cond.methodLink RX6 41 yX6_closed, Cond.instanceMethod yX6_closed]
def wsL_law_r11 : List Cond := [Cond.selects RX6 yX6_closed yX6_closed, Cond.code yX6_closed cX6_closed 4 (some .int), Cond.methodLink RX6 45 yX6_conducts, Cond.instanceMethod yX6_conducts, Cond.selects RX6 yX6_conducts yX6_conducts, Cond.code yX6_conducts cX6_conducts 7 (some .boolean), Cond.methodLink RL 27 yX5_removeBranch, Cond.instanceMethod yX5_removeBranch, Cond.selects RX5 yX5_removeBranch yX5_removeBranch, Cond.code yX5_removeBranch cX5_removeBranch 3 (some .int), Cond.methodLink RX5 78 yX0_dropBranch, Cond.instanceMethod yX0_dropBranch, Cond.selects RX0 yX0_dropBranch yX0_dropBranch, Cond.code yX0_dropBranch cX0_dropBranch 5 (some .int), Cond.methodLink RL 31 yX6_removeBranch, Cond.instanceMethod yX6_removeBranch, Cond.selects RX6 yX6_removeBranch yX6_removeBranch, Cond.code yX6_removeBranch cX6_removeBranch 4 (some .int), Cond.methodLink RL 32 yX5_appendCharacter, Cond.instanceMethod yX5_appendCharacter, Cond.selects RX5 yX5_appendCharacter yX5_appendCharacter, Cond.code yX5_appendCharacter cX5_appendCharacter 2 (some .int), Cond.methodLink RX5 85 yX4_append, Cond.instanceMethod yX4_append]
def wsL_law_r12 : List Cond := [Cond.selects RX4 yX4_append yX4_append, Cond.code yX4_append cX4_append 2 none, Cond.fieldLink RX4 15 "RelayBank$Text" "length" "I", Cond.methodLink RL 36 yX6_appendCharacter, Cond.instanceMethod yX6_appendCharacter, Cond.selects RX6 yX6_appendCharacter yX6_appendCharacter, Cond.code yX6_appendCharacter cX6_appendCharacter 2 (some .int), Cond.methodLink RL 37 yX5_clearText, Cond.instanceMethod yX5_clearText, Cond.selects RX5 yX5_clearText yX5_clearText, Cond.code yX5_clearText cX5_clearText 2 (some .int), Cond.methodLink RL 41 yX6_clearText, Cond.instanceMethod yX6_clearText, Cond.selects RX6 yX6_clearText yX6_clearText, Cond.code yX6_clearText cX6_clearText 2 (some .int), Cond.methodLink RL 42 yX5_load, Cond.instanceMethod yX5_load, Cond.selects RX5 yX5_load yX5_load, Cond.code yX5_load cX5_load 3 (some .int), Cond.methodLink RX5 89 yX2_read, Cond.instanceMethod yX2_read, Cond.selects RX2 yX2_read yX2_read, Cond.code yX2_read cX2_read 5 (some .int), Cond.fieldLink RX2 15 "RelayBank$CircuitReader" "relays" "I"]
def wsL_law_r13 : List Cond := [Cond.fieldLink RX2 19 "RelayBank$CircuitReader" "size" "I", Cond.fieldLink RX2 22 "RelayBank$CircuitReader" "place" "I", Cond.methodLink RX2 30 yX4_characterAt, Cond.instanceMethod yX4_characterAt, Cond.selects RX4 yX4_characterAt yX4_characterAt, Cond.code yX4_characterAt cX4_characterAt 2 (some .char), Cond.methodLink RX2 34 yX2_take, Cond.instanceMethod yX2_take, Cond.selects RX2 yX2_take yX2_take, Cond.code yX2_take cX2_take 2 (some .boolean), Cond.methodLink RX2 38 yX2_goTo, Cond.instanceMethod yX2_goTo, Cond.selects RX2 yX2_goTo yX2_goTo, Cond.code yX2_goTo cX2_goTo 2 (some .boolean), Cond.methodLink RX2 42 yX2_beginBranch, Cond.instanceMethod yX2_beginBranch, Cond.selects RX2 yX2_beginBranch yX2_beginBranch, Cond.code yX2_beginBranch cX2_beginBranch 2 (some .boolean), Cond.methodLink RX2 45 yX2_beginCondition, Cond.instanceMethod yX2_beginCondition, Cond.selects RX2 yX2_beginCondition yX2_beginCondition, Cond.code yX2_beginCondition cX2_beginCondition 2 (some .boolean), Cond.methodLink RX2 48 yX2_takeLetter, Cond.instanceMethod yX2_takeLetter]
def wsL_law_r14 : List Cond := [Cond.selects RX2 yX2_takeLetter yX2_takeLetter, Cond.code yX2_takeLetter cX2_takeLetter 5 (some .boolean), Cond.methodLink RX2 56 yX2_subjectOf, Cond.instanceMethod yX2_subjectOf, Cond.selects RX2 yX2_subjectOf yX2_subjectOf, Cond.code yX2_subjectOf cX2_subjectOf 2 (some .int), Cond.methodLink RX2 64 yX1_howOf, Cond.methodLink RX2 70 yX1_with, Cond.methodLink RX5 100 yX0_putCircuit, Cond.instanceMethod yX0_putCircuit, Cond.selects RX0 yX0_putCircuit yX0_putCircuit, Cond.code yX0_putCircuit cX0_putCircuit 5 none, Cond.methodLink RL 45 yX6_load, Cond.instanceMethod yX6_load, Cond.selects RX6 yX6_load yX6_load, Cond.code yX6_load cX6_load 3 (some .int), Cond.fieldLink RX6 99 "RelayBankModel" "at" "I", Cond.methodLink RX6 118 yX6_keeps, Cond.instanceMethod yX6_keeps, Cond.selects RX6 yX6_keeps yX6_keeps, Cond.code yX6_keeps cX6_keeps 2 none, Cond.methodLink RX6 121 yX6_reads, Cond.instanceMethod yX6_reads, Cond.selects RX6 yX6_reads yX6_reads]
def wsL_law_r15 : List Cond := [Cond.code yX6_reads cX6_reads 3 (some .boolean), Cond.methodLink RX6 102 yX6_here, Cond.instanceMethod yX6_here, Cond.selects RX6 yX6_here yX6_here, Cond.code yX6_here cX6_here 1 (some .int), Cond.methodLink RX6 115 yX6_readsBranch, Cond.instanceMethod yX6_readsBranch, Cond.selects RX6 yX6_readsBranch yX6_readsBranch, Cond.code yX6_readsBranch cX6_readsBranch 5 (some .boolean), Cond.methodLink RX6 108 yX6_isEnd, Cond.instanceMethod yX6_isEnd, Cond.selects RX6 yX6_isEnd yX6_isEnd, Cond.code yX6_isEnd cX6_isEnd 1 (some .boolean), Cond.methodLink RX6 112 yX6_readsCondition, Cond.instanceMethod yX6_readsCondition, Cond.selects RX6 yX6_readsCondition yX6_readsCondition, Cond.code yX6_readsCondition cX6_readsCondition 5 (some .boolean), Cond.methodLink RX6 105 yX6_subject, Cond.instanceMethod yX6_subject, Cond.selects RX6 yX6_subject yX6_subject, Cond.code yX6_subject cX6_subject 2 (some .int), Cond.methodLink RX6 124 yX6_exchanges, Cond.instanceMethod yX6_exchanges, Cond.selects RX6 yX6_exchanges yX6_exchanges]
def wsL_law_r16 : List Cond := [Cond.code yX6_exchanges cX6_exchanges 3 none, Cond.methodLink RL 46 yX5_press, Cond.instanceMethod yX5_press, Cond.selects RX5 yX5_press yX5_press, Cond.code yX5_press cX5_press 3 (some .int), Cond.methodLink RX5 104 yX5_isKey, Cond.static yX5_isKey, Cond.code yX5_isKey cX5_isKey 1 (some .boolean), Cond.methodLink RX5 110 yX5_isIn, Cond.methodLink RX5 114 yX0_turnKey, Cond.instanceMethod yX0_turnKey, Cond.selects RX0 yX0_turnKey yX0_turnKey, Cond.code yX0_turnKey cX0_turnKey 2 (some .int), Cond.methodLink RL 49 yX6_press, Cond.instanceMethod yX6_press, Cond.selects RX6 yX6_press yX6_press, Cond.code yX6_press cX6_press 3 (some .int), Cond.methodLink RL 50 yX5_setFault, Cond.instanceMethod yX5_setFault, Cond.selects RX5 yX5_setFault yX5_setFault, Cond.code yX5_setFault cX5_setFault 4 (some .int), Cond.methodLink RX5 117 yX0_faultOf, Cond.instanceMethod yX0_faultOf, Cond.selects RX0 yX0_faultOf yX0_faultOf]
def wsL_law_r17 : List Cond := [Cond.code yX0_faultOf cX0_faultOf 2 (some .int), Cond.methodLink RX5 120 yX0_putFault, Cond.instanceMethod yX0_putFault, Cond.selects RX0 yX0_putFault yX0_putFault, Cond.code yX0_putFault cX0_putFault 4 none, Cond.methodLink RL 53 yX6_setFault, Cond.instanceMethod yX6_setFault, Cond.selects RX6 yX6_setFault yX6_setFault, Cond.code yX6_setFault cX6_setFault 4 (some .int), Cond.methodLink RL 54 yX5_stick, Cond.instanceMethod yX5_stick, Cond.selects RX5 yX5_stick yX5_stick, Cond.code yX5_stick cX5_stick 4 (some .int), Cond.methodLink RX5 127 yX5_bitOf, Cond.static yX5_bitOf, Cond.code yX5_bitOf cX5_bitOf 2 (some .int), Cond.methodLink RL 57 yX6_stick, Cond.instanceMethod yX6_stick, Cond.selects RX6 yX6_stick yX6_stick, Cond.code yX6_stick cX6_stick 4 (some .int), Cond.methodLink RL 58 yX5_step, Cond.instanceMethod yX5_step, Cond.selects RX5 yX5_step yX5_step, Cond.code yX5_step cX5_step 3 (some .int)]
def wsL_law_r18 : List Cond := [Cond.methodLink RX5 130 yX0_nextSlot, Cond.instanceMethod yX0_nextSlot, Cond.selects RX0 yX0_nextSlot yX0_nextSlot, Cond.code yX0_nextSlot cX0_nextSlot 8 (some .int), Cond.methodLink RX5 134 yX0_kindOf, Cond.instanceMethod yX0_kindOf, Cond.selects RX0 yX0_kindOf yX0_kindOf, Cond.code yX0_kindOf cX0_kindOf 2 (some .int), Cond.methodLink RX0 124 yX0_isBounceEnd, Cond.static yX0_isBounceEnd, Cond.code yX0_isBounceEnd cX0_isBounceEnd 1 (some .boolean), Cond.methodLink RX0 128 yX0_relayOf, Cond.static yX0_relayOf, Cond.code yX0_relayOf cX0_relayOf 1 (some .int), Cond.methodLink RX5 137 yX0_happen, Cond.instanceMethod yX0_happen, Cond.selects RX0 yX0_happen yX0_happen, Cond.code yX0_happen cX0_happen 3 none, Cond.methodLink RX0 138 yX0_moveArmature, Cond.instanceMethod yX0_moveArmature, Cond.selects RX0 yX0_moveArmature yX0_moveArmature, Cond.code yX0_moveArmature cX0_moveArmature 3 none, Cond.methodLink RX5 141 yX0_relayOf, Cond.methodLink RL 61 yX6_step]
def wsL_law_r19 : List Cond := [Cond.instanceMethod yX6_step, Cond.selects RX6 yX6_step yX6_step, Cond.code yX6_step cX6_step 2 (some .int), Cond.methodLink RX6 71 yX6_next, Cond.instanceMethod yX6_next, Cond.selects RX6 yX6_next yX6_next, Cond.code yX6_next cX6_next 4 (some .int), Cond.methodLink RX6 57 yX6_waits, Cond.instanceMethod yX6_waits, Cond.selects RX6 yX6_waits yX6_waits, Cond.code yX6_waits cX6_waits 3 (some .boolean), Cond.methodLink RX6 61 yX6_isAhead, Cond.instanceMethod yX6_isAhead, Cond.selects RX6 yX6_isAhead yX6_isAhead, Cond.code yX6_isAhead cX6_isAhead 4 (some .boolean), Cond.methodLink RX6 53 yX6_timeOf, Cond.instanceMethod yX6_timeOf, Cond.selects RX6 yX6_timeOf yX6_timeOf, Cond.code yX6_timeOf cX6_timeOf 2 (some .int), Cond.methodLink RX6 75 yX6_happens, Cond.instanceMethod yX6_happens, Cond.selects RX6 yX6_happens yX6_happens, Cond.code yX6_happens cX6_happens 4 none, Cond.methodLink RL 62 yX5_settle]
def wsL_law_r20 : List Cond := [Cond.instanceMethod yX5_settle, Cond.selects RX5 yX5_settle yX5_settle, Cond.code yX5_settle cX5_settle 2 (some .int), Cond.constant RX5 144 (2147483647), Cond.methodLink RX5 145 yX0_run, Cond.instanceMethod yX0_run, Cond.selects RX0 yX0_run yX0_run, Cond.code yX0_run cX0_run 6 (some .int), Cond.methodLink RX0 131 yX0_nextSlot, Cond.methodLink RX0 141 yX0_happen, Cond.methodLink RL 65 yX6_settle, Cond.instanceMethod yX6_settle, Cond.selects RX6 yX6_settle yX6_settle, Cond.code yX6_settle cX6_settle 2 (some .int), Cond.methodLink RX6 127 yX6_settles, Cond.instanceMethod yX6_settles, Cond.selects RX6 yX6_settles yX6_settles, Cond.code yX6_settles cX6_settles 5 (some .int), Cond.methodLink RL 66 yX5_pass, Cond.instanceMethod yX5_pass, Cond.selects RX5 yX5_pass yX5_pass, Cond.code yX5_pass cX5_pass 4 (some .int), Cond.constant RX5 152 (100000), Cond.methodLink RX5 153 yX0_copy]
def wsL_law_r21 : List Cond := [Cond.methodLink RL 69 yX6_pass, Cond.instanceMethod yX6_pass, Cond.selects RX6 yX6_pass yX6_pass, Cond.code yX6_pass cX6_pass 5 (some .int), Cond.constant RX6 131 (100000), Cond.methodLink RL 70 yX5_count, Cond.instanceMethod yX5_count, Cond.selects RX5 yX5_count yX5_count, Cond.code yX5_count cX5_count 2 (some .int), Cond.methodLink RX5 156 yX0_waiting, Cond.instanceMethod yX0_waiting, Cond.selects RX0 yX0_waiting yX0_waiting, Cond.code yX0_waiting cX0_waiting 3 (some .int), Cond.methodLink RX5 166 yX0_closedContacts, Cond.methodLink RL 73 yX6_count, Cond.instanceMethod yX6_count, Cond.selects RX6 yX6_count yX6_count, Cond.code yX6_count cX6_count 4 (some .int), Cond.methodLink RX6 132 yX6_set, Cond.instanceMethod yX6_set, Cond.selects RX6 yX6_set yX6_set, Cond.code yX6_set cX6_set 4 (some .int), Cond.methodLink RL 74 yX5_relay, Cond.instanceMethod yX5_relay]
def wsL_law_r22 : List Cond := [Cond.selects RX5 yX5_relay yX5_relay, Cond.code yX5_relay cX5_relay 3 (some .int), Cond.methodLink RX5 176 yX5_at, Cond.methodLink RX5 186 yX0_concerns, Cond.instanceMethod yX0_concerns, Cond.selects RX0 yX0_concerns yX0_concerns, Cond.code yX0_concerns cX0_concerns 5 (some .boolean), Cond.methodLink RX5 189 yX0_failing, Cond.methodLink RX5 192 yX0_conducts, Cond.methodLink RL 77 yX6_relay, Cond.instanceMethod yX6_relay, Cond.selects RX6 yX6_relay yX6_relay, Cond.code yX6_relay cX6_relay 3 (some .int), Cond.methodLink RX6 135 yX6_ofItself, Cond.instanceMethod yX6_ofItself, Cond.selects RX6 yX6_ofItself yX6_ofItself, Cond.code yX6_ofItself cX6_ofItself 4 (some .int), Cond.methodLink RL 78 yX5_condition, Cond.instanceMethod yX5_condition, Cond.selects RX5 yX5_condition yX5_condition, Cond.code yX5_condition cX5_condition 4 (some .int), Cond.methodLink RX5 195 yX0_branchAt, Cond.methodLink RX5 198 yX1_howOf, Cond.methodLink RL 81 yX6_condition]
def wsL_law_r23 : List Cond := [Cond.instanceMethod yX6_condition, Cond.selects RX6 yX6_condition yX6_condition, Cond.code yX6_condition cX6_condition 4 (some .int), Cond.methodLink RL 82 yX5_event, Cond.instanceMethod yX5_event, Cond.selects RX5 yX5_event yX5_event, Cond.code yX5_event cX5_event 4 (some .int), Cond.methodLink RX5 203 yX0_slotAt, Cond.instanceMethod yX0_slotAt, Cond.selects RX0 yX0_slotAt yX0_slotAt, Cond.code yX0_slotAt cX0_slotAt 3 (some .int), Cond.methodLink RX0 135 yX0_eventsBefore, Cond.instanceMethod yX0_eventsBefore, Cond.selects RX0 yX0_eventsBefore yX0_eventsBefore, Cond.code yX0_eventsBefore cX0_eventsBefore 5 (some .int), Cond.methodLink RL 85 yX6_event, Cond.instanceMethod yX6_event, Cond.selects RX6 yX6_event yX6_event, Cond.code yX6_event cX6_event 6 (some .int), Cond.methodLink RL 86 yX5_outcome, Cond.instanceMethod yX5_outcome, Cond.selects RX5 yX5_outcome yX5_outcome, Cond.code yX5_outcome cX5_outcome 3 (some .int), Cond.methodLink RX5 209 yX5_endingOf]
def wsL_law_r24 : List Cond := [Cond.instanceMethod yX5_endingOf, Cond.selects RX5 yX5_endingOf yX5_endingOf, Cond.code yX5_endingOf cX5_endingOf 4 (some .int), Cond.methodLink RX5 217 yX0_isQuiet, Cond.instanceMethod yX0_isQuiet, Cond.selects RX0 yX0_isQuiet yX0_isQuiet, Cond.code yX0_isQuiet cX0_isQuiet 1 (some .boolean), Cond.methodLink RL 89 yX6_outcome, Cond.instanceMethod yX6_outcome, Cond.selects RX6 yX6_outcome yX6_outcome, Cond.code yX6_outcome cX6_outcome 4 (some .int), Cond.methodLink RX6 138 yX6_ends, Cond.instanceMethod yX6_ends, Cond.selects RX6 yX6_ends yX6_ends, Cond.code yX6_ends cX6_ends 4 (some .int), Cond.methodLink RX6 141 yX6_restores, Cond.instanceMethod yX6_restores, Cond.selects RX6 yX6_restores yX6_restores, Cond.code yX6_restores cX6_restores 2 none, Cond.methodLink RL 90 yX5_isRace, Cond.instanceMethod yX5_isRace, Cond.selects RX5 yX5_isRace yX5_isRace, Cond.code yX5_isRace cX5_isRace 1 (some .int), Cond.methodLink RX5 213 yX5_raceIn]
def wsL_law_r25 : List Cond := [Cond.instanceMethod yX5_raceIn, Cond.selects RX5 yX5_raceIn yX5_raceIn, Cond.code yX5_raceIn cX5_raceIn 3 (some .int), Cond.methodLink RL 93 yX6_isRace, Cond.instanceMethod yX6_isRace, Cond.selects RX6 yX6_isRace yX6_isRace, Cond.code yX6_isRace cX6_isRace 1 (some .int), Cond.methodLink RX6 144 yX6_races, Cond.instanceMethod yX6_races, Cond.selects RX6 yX6_races yX6_races, Cond.code yX6_races cX6_races 4 (some .int), Cond.methodLink RL 94 yX5_raceBy, Cond.instanceMethod yX5_raceBy, Cond.selects RX5 yX5_raceBy yX5_raceBy, Cond.code yX5_raceBy cX5_raceBy 2 (some .int), Cond.methodLink RL 97 yX6_raceBy, Cond.instanceMethod yX6_raceBy, Cond.selects RX6 yX6_raceBy yX6_raceBy, Cond.code yX6_raceBy cX6_raceBy 3 (some .int), Cond.methodLink RL 98 yX5_hazards, Cond.instanceMethod yX5_hazards, Cond.selects RX5 yX5_hazards yX5_hazards, Cond.code yX5_hazards cX5_hazards 4 (some .int), Cond.methodLink RL 101 yX6_hazards]
def wsL_law_r26 : List Cond := [Cond.instanceMethod yX6_hazards, Cond.selects RX6 yX6_hazards yX6_hazards, Cond.code yX6_hazards cX6_hazards 6 (some .int), Cond.methodLink RL 102 yX5_stableStates, Cond.instanceMethod yX5_stableStates, Cond.selects RX5 yX5_stableStates yX5_stableStates, Cond.code yX5_stableStates cX5_stableStates 4 (some .int), Cond.methodLink RX5 221 yX0_isStable, Cond.instanceMethod yX0_isStable, Cond.selects RX0 yX0_isStable yX0_isStable, Cond.code yX0_isStable cX0_isStable 3 (some .boolean), Cond.methodLink RL 105 yX6_stableStates, Cond.instanceMethod yX6_stableStates, Cond.selects RX6 yX6_stableStates yX6_stableStates, Cond.code yX6_stableStates cX6_stableStates 3 (some .int), Cond.methodLink RX6 147 yX6_isStable, Cond.instanceMethod yX6_isStable, Cond.selects RX6 yX6_isStable yX6_isStable, Cond.code yX6_isStable cX6_isStable 6 (some .boolean), Cond.methodLink RL 106 yX5_explain, Cond.instanceMethod yX5_explain, Cond.selects RX5 yX5_explain yX5_explain, Cond.code yX5_explain cX5_explain 5 (some .int), Cond.methodLink RL 109 yX6_explain]
def wsL_law_r27 : List Cond := [Cond.instanceMethod yX6_explain, Cond.selects RX6 yX6_explain yX6_explain, Cond.code yX6_explain cX6_explain 4 (some .int), Cond.methodLink RL 110 yX5_undo, Cond.instanceMethod yX5_undo, Cond.selects RX5 yX5_undo yX5_undo, Cond.code yX5_undo cX5_undo 1 (some .int), Cond.methodLink RX5 224 yX3_restore, Cond.instanceMethod yX3_restore, Cond.selects RX3 yX3_restore yX3_restore, Cond.code yX3_restore cX3_restore 3 (some .boolean), Cond.methodLink RL 113 yX6_undo, Cond.instanceMethod yX6_undo, Cond.selects RX6 yX6_undo yX6_undo, Cond.code yX6_undo cX6_undo 2 (some .int)]
def wsL_law : List Cond := (wsL_law_r1 ++ (wsL_law_r2 ++ (wsL_law_r3 ++ (wsL_law_r4 ++ (wsL_law_r5 ++ (wsL_law_r6 ++ (wsL_law_r7 ++ (wsL_law_r8 ++ (wsL_law_r9 ++ (wsL_law_r10 ++ (wsL_law_r11 ++ (wsL_law_r12 ++ (wsL_law_r13 ++ (wsL_law_r14 ++ (wsL_law_r15 ++ (wsL_law_r16 ++ (wsL_law_r17 ++ (wsL_law_r18 ++ (wsL_law_r19 ++ (wsL_law_r20 ++ (wsL_law_r21 ++ (wsL_law_r22 ++ (wsL_law_r23 ++ (wsL_law_r24 ++ (wsL_law_r25 ++ (wsL_law_r26 ++ wsL_law_r27)))))))))))))))))))))))))) ++ wsX50 ++ wsX60 ++ wsX00 ++ wsX30 ++ wsX40 ++ wsX20 ++ ([] : List Cond)
theorem inlX0 : ∀ w ∈ wsX00, w ∈ wsL_law := fun _ h => List.mem_append_left _ (List.mem_append_left _ (List.mem_append_left _ (List.mem_append_left _ (List.mem_append_right _ h))))
theorem inlX2 : ∀ w ∈ wsX20, w ∈ wsL_law := fun _ h => List.mem_append_left _ (List.mem_append_right _ h)
theorem inlX3 : ∀ w ∈ wsX30, w ∈ wsL_law := fun _ h => List.mem_append_left _ (List.mem_append_left _ (List.mem_append_left _ (List.mem_append_right _ h)))
theorem inlX4 : ∀ w ∈ wsX40, w ∈ wsL_law := fun _ h => List.mem_append_left _ (List.mem_append_left _ (List.mem_append_right _ h))
theorem inlX5 : ∀ w ∈ wsX50, w ∈ wsL_law := fun _ h => List.mem_append_left _ (List.mem_append_left _ (List.mem_append_left _ (List.mem_append_left _ (List.mem_append_left _ (List.mem_append_left _ (List.mem_append_right _ h))))))
theorem inlX6 : ∀ w ∈ wsX60, w ∈ wsL_law := fun _ h => List.mem_append_left _ (List.mem_append_left _ (List.mem_append_left _ (List.mem_append_left _ (List.mem_append_left _ (List.mem_append_right _ h)))))
abbrev vwCl : List vw_C := [(RX0, TX0, 15), (RX2, TX2, 4), (RX3, TX3, 3), (RX4, TX4, 2), (RX5, TX5, 6), (RX6, TX6, 9)]
end
section
theorem mem_ps {big : List Cond} (ws : List Cond) (ps : List Nat) (h : ws.map some = ps.map (fun i => big[i]?)) : ∀ w ∈ ws, w ∈ big := by
  intro w hw
  have h1 : some w ∈ ps.map (fun i => big[i]?) := by rw [← h]; exact List.mem_map.mpr ⟨w, hw, rfl⟩
  obtain ⟨i, -, hi⟩ := List.mem_map.mp h1
  exact List.mem_of_getElem? hi
set_option maxRecDepth 20000 in
theorem wsL_law_i1 : ∀ w ∈ wsL_law_r1, w ∈ lw_tbl := mem_ps _ [55, 56, 46, 536, 537, 51, 57, 58, 59, 60, 61, 62, 63, 64, 47, 185, 128, 129, 48, 186, 148, 149, 49, 187] (by decide +kernel)
set_option maxRecDepth 20000 in
theorem wsL_law_g1 : wsL_law_r1.all goodWord = true := by decide +kernel
set_option maxRecDepth 20000 in
theorem wsL_law_i2 : ∀ w ∈ wsL_law_r2, w ∈ lw_tbl := mem_ps _ [164, 165, 50, 188, 189, 190, 65, 66, 67, 68, 127, 70, 72, 74, 76, 77, 78, 69, 130, 131, 132, 133, 134, 137] (by decide +kernel)
set_option maxRecDepth 20000 in
theorem wsL_law_g2 : wsL_law_r2.all goodWord = true := by decide +kernel
set_option maxRecDepth 20000 in
theorem wsL_law_i3 : ∀ w ∈ wsL_law_r3, w ∈ lw_tbl := mem_ps _ [136, 151, 152, 153, 163, 154, 167, 168, 169, 170, 538, 539, 540, 541, 542, 543, 545, 546, 570, 547, 548, 204, 205, 206] (by decide +kernel)
set_option maxRecDepth 20000 in
theorem wsL_law_g3 : wsL_law_r3.all goodWord = true := by decide +kernel
set_option maxRecDepth 20000 in
theorem wsL_law_i4 : ∀ w ∈ wsL_law_r4, w ∈ lw_tbl := mem_ps _ [207, 208, 209, 210, 211, 212, 213, 214, 215, 216, 217, 139, 138, 218, 219, 52, 220, 221, 223, 0, 224, 225, 226, 227] (by decide +kernel)
set_option maxRecDepth 20000 in
theorem wsL_law_g4 : wsL_law_r4.all goodWord = true := by decide +kernel
set_option maxRecDepth 20000 in
theorem wsL_law_i5 : ∀ w ∈ wsL_law_r5, w ∈ lw_tbl := mem_ps _ [228, 229, 231, 230, 53, 81, 82, 84, 86, 88, 90, 92, 94, 95, 232, 233, 234, 235, 236, 237, 238, 239, 241, 242] (by decide +kernel)
set_option maxRecDepth 20000 in
theorem wsL_law_g5 : wsL_law_r5.all goodWord = true := by decide +kernel
set_option maxRecDepth 20000 in
theorem wsL_law_i6 : ∀ w ∈ wsL_law_r6, w ∈ lw_tbl := mem_ps _ [244, 245, 575, 576, 577, 578, 579, 580, 581, 582, 584, 14, 585, 544, 586, 588, 15, 589, 246, 247, 248, 249, 250, 251] (by decide +kernel)
set_option maxRecDepth 20000 in
theorem wsL_law_g6 : wsL_law_r6.all goodWord = true := by decide +kernel
set_option maxRecDepth 20000 in
theorem wsL_law_i7 : ∀ w ∈ wsL_law_r7, w ∈ lw_tbl := mem_ps _ [252, 253, 255, 590, 591, 592, 593, 594, 596, 16, 597, 598, 600, 17, 601, 256, 257, 258, 259, 260, 261, 262, 263, 264] (by decide +kernel)
set_option maxRecDepth 20000 in
theorem wsL_law_g7 : wsL_law_r7.all goodWord = true := by decide +kernel
set_option maxRecDepth 20000 in
theorem wsL_law_i8 : ∀ w ∈ wsL_law_r8, w ∈ lw_tbl := mem_ps _ [265, 266, 267, 268, 269, 270, 271, 272, 273, 274, 54, 275, 276, 277, 278, 279, 281, 1, 282, 283, 285, 2, 286, 287] (by decide +kernel)
set_option maxRecDepth 20000 in
theorem wsL_law_g8 : wsL_law_r8.all goodWord = true := by decide +kernel
set_option maxRecDepth 20000 in
theorem wsL_law_i9 : ∀ w ∈ wsL_law_r9, w ∈ lw_tbl := mem_ps _ [288, 289, 290, 295, 291, 292, 293, 294, 296, 297, 298, 299, 301, 302, 303, 305, 3, 306, 307, 308, 309, 602, 603, 604] (by decide +kernel)
set_option maxRecDepth 20000 in
theorem wsL_law_g9 : wsL_law_r9.all goodWord = true := by decide +kernel
set_option maxRecDepth 20000 in
theorem wsL_law_i10 : ∀ w ∈ wsL_law_r10, w ∈ lw_tbl := mem_ps _ [605, 549, 606, 608, 18, 609, 610, 612, 19, 613, 614, 616, 20, 617, 618, 620, 21, 621, 622, 624, 22, 625, 626, 628] (by decide +kernel)
set_option maxRecDepth 20000 in
theorem wsL_law_g10 : wsL_law_r10.all goodWord = true := by decide +kernel
set_option maxRecDepth 20000 in
theorem wsL_law_i11 : ∀ w ∈ wsL_law_r11, w ∈ lw_tbl := mem_ps _ [23, 629, 630, 632, 24, 633, 310, 311, 312, 313, 314, 315, 316, 317, 634, 635, 636, 637, 318, 319, 320, 321, 322, 323] (by decide +kernel)
set_option maxRecDepth 20000 in
theorem wsL_law_g11 : wsL_law_r11.all goodWord = true := by decide +kernel
set_option maxRecDepth 20000 in
theorem wsL_law_i12 : ∀ w ∈ wsL_law_r12, w ∈ lw_tbl := mem_ps _ [324, 325, 155, 638, 639, 640, 641, 326, 327, 328, 329, 642, 643, 644, 645, 330, 331, 332, 333, 334, 335, 336, 337, 174] (by decide +kernel)
set_option maxRecDepth 20000 in
theorem wsL_law_g12 : wsL_law_r12.all goodWord = true := by decide +kernel
set_option maxRecDepth 20000 in
theorem wsL_law_i13 : ∀ w ∈ wsL_law_r13, w ∈ lw_tbl := mem_ps _ [172, 175, 338, 339, 340, 341, 342, 344, 4, 345, 346, 348, 5, 349, 350, 352, 6, 353, 355, 357, 7, 358, 359, 361] (by decide +kernel)
set_option maxRecDepth 20000 in
theorem wsL_law_g13 : wsL_law_r13.all goodWord = true := by decide +kernel
set_option maxRecDepth 20000 in
theorem wsL_law_i14 : ∀ w ∈ wsL_law_r14, w ∈ lw_tbl := mem_ps _ [8, 362, 363, 365, 9, 366, 369, 370, 371, 372, 373, 374, 646, 647, 648, 649, 550, 650, 652, 25, 653, 654, 656, 26] (by decide +kernel)
set_option maxRecDepth 20000 in
theorem wsL_law_g14 : wsL_law_r14.all goodWord = true := by decide +kernel
set_option maxRecDepth 20000 in
theorem wsL_law_i15 : ∀ w ∈ wsL_law_r15, w ∈ lw_tbl := mem_ps _ [657, 658, 660, 27, 661, 662, 664, 28, 665, 666, 668, 29, 669, 670, 672, 30, 673, 674, 676, 31, 677, 678, 680, 32] (by decide +kernel)
set_option maxRecDepth 20000 in
theorem wsL_law_g15 : wsL_law_r15.all goodWord = true := by decide +kernel
set_option maxRecDepth 20000 in
theorem wsL_law_i16 : ∀ w ∈ wsL_law_r16, w ∈ lw_tbl := mem_ps _ [681, 375, 376, 377, 378, 379, 380, 381, 382, 383, 384, 385, 386, 682, 683, 684, 685, 387, 388, 389, 390, 391, 392, 393] (by decide +kernel)
set_option maxRecDepth 20000 in
theorem wsL_law_g16 : wsL_law_r16.all goodWord = true := by decide +kernel
set_option maxRecDepth 20000 in
theorem wsL_law_i17 : ∀ w ∈ wsL_law_r17, w ∈ lw_tbl := mem_ps _ [394, 395, 396, 397, 398, 686, 687, 688, 689, 399, 400, 401, 402, 403, 404, 405, 690, 691, 692, 693, 406, 407, 408, 409] (by decide +kernel)
set_option maxRecDepth 20000 in
theorem wsL_law_g17 : wsL_law_r17.all goodWord = true := by decide +kernel
set_option maxRecDepth 20000 in
theorem wsL_law_i18 : ∀ w ∈ wsL_law_r18, w ∈ lw_tbl := mem_ps _ [410, 411, 412, 413, 414, 415, 416, 417, 418, 419, 420, 421, 422, 423, 424, 425, 426, 427, 428, 430, 10, 431, 432, 694] (by decide +kernel)
set_option maxRecDepth 20000 in
theorem wsL_law_g18 : wsL_law_r18.all goodWord = true := by decide +kernel
set_option maxRecDepth 20000 in
theorem wsL_law_i19 : ∀ w ∈ wsL_law_r19, w ∈ lw_tbl := mem_ps _ [695, 696, 697, 698, 700, 33, 701, 702, 704, 34, 705, 706, 708, 35, 709, 710, 712, 36, 713, 714, 716, 37, 717, 433] (by decide +kernel)
set_option maxRecDepth 20000 in
theorem wsL_law_g19 : wsL_law_r19.all goodWord = true := by decide +kernel
set_option maxRecDepth 20000 in
theorem wsL_law_i20 : ∀ w ∈ wsL_law_r20, w ∈ lw_tbl := mem_ps _ [434, 435, 436, 437, 438, 439, 440, 441, 442, 443, 718, 719, 720, 721, 722, 724, 38, 725, 444, 445, 446, 447, 448, 449] (by decide +kernel)
set_option maxRecDepth 20000 in
theorem wsL_law_g20 : wsL_law_r20.all goodWord = true := by decide +kernel
set_option maxRecDepth 20000 in
theorem wsL_law_i21 : ∀ w ∈ wsL_law_r21, w ∈ lw_tbl := mem_ps _ [726, 727, 728, 729, 730, 450, 451, 452, 453, 454, 455, 456, 457, 458, 731, 732, 733, 734, 735, 737, 39, 738, 459, 460] (by decide +kernel)
set_option maxRecDepth 20000 in
theorem wsL_law_g21 : wsL_law_r21.all goodWord = true := by decide +kernel
set_option maxRecDepth 20000 in
theorem wsL_law_i22 : ∀ w ∈ wsL_law_r22, w ∈ lw_tbl := mem_ps _ [461, 462, 463, 464, 465, 466, 467, 468, 469, 739, 740, 741, 742, 743, 745, 40, 746, 470, 471, 472, 473, 474, 475, 747] (by decide +kernel)
set_option maxRecDepth 20000 in
theorem wsL_law_g22 : wsL_law_r22.all goodWord = true := by decide +kernel
set_option maxRecDepth 20000 in
theorem wsL_law_i23 : ∀ w ∈ wsL_law_r23, w ∈ lw_tbl := mem_ps _ [748, 749, 750, 476, 477, 478, 479, 480, 481, 482, 483, 484, 486, 11, 487, 751, 752, 753, 754, 488, 489, 490, 491, 492] (by decide +kernel)
set_option maxRecDepth 20000 in
theorem wsL_law_g23 : wsL_law_r23.all goodWord = true := by decide +kernel
set_option maxRecDepth 20000 in
theorem wsL_law_i24 : ∀ w ∈ wsL_law_r24, w ∈ lw_tbl := mem_ps _ [494, 12, 495, 496, 497, 498, 499, 755, 756, 757, 758, 759, 761, 41, 762, 763, 765, 42, 766, 500, 501, 502, 503, 504] (by decide +kernel)
set_option maxRecDepth 20000 in
theorem wsL_law_g24 : wsL_law_r24.all goodWord = true := by decide +kernel
set_option maxRecDepth 20000 in
theorem wsL_law_i25 : ∀ w ∈ wsL_law_r25, w ∈ lw_tbl := mem_ps _ [506, 13, 507, 767, 768, 769, 770, 771, 773, 43, 774, 508, 509, 510, 511, 775, 776, 777, 778, 512, 513, 514, 515, 779] (by decide +kernel)
set_option maxRecDepth 20000 in
theorem wsL_law_g25 : wsL_law_r25.all goodWord = true := by decide +kernel
set_option maxRecDepth 20000 in
theorem wsL_law_i26 : ∀ w ∈ wsL_law_r26, w ∈ lw_tbl := mem_ps _ [780, 781, 782, 516, 517, 518, 519, 520, 521, 522, 523, 783, 784, 785, 786, 787, 789, 44, 790, 524, 525, 526, 527, 791] (by decide +kernel)
set_option maxRecDepth 20000 in
theorem wsL_law_g26 : wsL_law_r26.all goodWord = true := by decide +kernel
set_option maxRecDepth 20000 in
theorem wsL_law_i27 : ∀ w ∈ wsL_law_r27, w ∈ lw_tbl := mem_ps _ [792, 793, 794, 528, 529, 530, 531, 532, 533, 534, 535, 571, 572, 573, 574] (by decide +kernel)
set_option maxRecDepth 20000 in
theorem wsL_law_g27 : wsL_law_r27.all goodWord = true := by decide +kernel
theorem wsl_X0_i : ∀ w ∈ wsX00, w ∈ lw_tbl := mem_ps _ [96, 98, 100, 102, 104, 106, 108, 110, 112, 114, 116, 118, 120, 122, 124] (by decide +kernel)
theorem wsl_X0_g : wsX00.all goodWord = true := by decide +kernel
theorem wsl_X2_i : ∀ w ∈ wsX20, w ∈ lw_tbl := mem_ps _ [176, 178, 180, 182] (by decide +kernel)
theorem wsl_X2_g : wsX20.all goodWord = true := by decide +kernel
theorem wsl_X3_i : ∀ w ∈ wsX30, w ∈ lw_tbl := mem_ps _ [141, 143, 145] (by decide +kernel)
theorem wsl_X3_g : wsX30.all goodWord = true := by decide +kernel
theorem wsl_X4_i : ∀ w ∈ wsX40, w ∈ lw_tbl := mem_ps _ [158, 160] (by decide +kernel)
theorem wsl_X4_g : wsX40.all goodWord = true := by decide +kernel
theorem wsl_X5_i : ∀ w ∈ wsX50, w ∈ lw_tbl := mem_ps _ [191, 193, 195, 197, 199, 201] (by decide +kernel)
theorem wsl_X5_g : wsX50.all goodWord = true := by decide +kernel
theorem wsl_X6_i : ∀ w ∈ wsX60, w ∈ lw_tbl := mem_ps _ [551, 553, 555, 557, 559, 561, 563, 565, 567] (by decide +kernel)
theorem wsl_X6_g : wsX60.all goodWord = true := by decide +kernel
theorem wsL_law_in : ∀ w ∈ wsL_law, w ∈ lw_tbl := by
  unfold wsL_law
  exact List.forall_mem_append.mpr ⟨List.forall_mem_append.mpr ⟨List.forall_mem_append.mpr ⟨List.forall_mem_append.mpr ⟨List.forall_mem_append.mpr ⟨List.forall_mem_append.mpr ⟨List.forall_mem_append.mpr ⟨List.forall_mem_append.mpr ⟨wsL_law_i1, List.forall_mem_append.mpr ⟨wsL_law_i2, List.forall_mem_append.mpr ⟨wsL_law_i3, List.forall_mem_append.mpr ⟨wsL_law_i4, List.forall_mem_append.mpr ⟨wsL_law_i5, List.forall_mem_append.mpr ⟨wsL_law_i6, List.forall_mem_append.mpr ⟨wsL_law_i7, List.forall_mem_append.mpr ⟨wsL_law_i8, List.forall_mem_append.mpr ⟨wsL_law_i9, List.forall_mem_append.mpr ⟨wsL_law_i10, List.forall_mem_append.mpr ⟨wsL_law_i11, List.forall_mem_append.mpr ⟨wsL_law_i12, List.forall_mem_append.mpr ⟨wsL_law_i13, List.forall_mem_append.mpr ⟨wsL_law_i14, List.forall_mem_append.mpr ⟨wsL_law_i15, List.forall_mem_append.mpr ⟨wsL_law_i16, List.forall_mem_append.mpr ⟨wsL_law_i17, List.forall_mem_append.mpr ⟨wsL_law_i18, List.forall_mem_append.mpr ⟨wsL_law_i19, List.forall_mem_append.mpr ⟨wsL_law_i20, List.forall_mem_append.mpr ⟨wsL_law_i21, List.forall_mem_append.mpr ⟨wsL_law_i22, List.forall_mem_append.mpr ⟨wsL_law_i23, List.forall_mem_append.mpr ⟨wsL_law_i24, List.forall_mem_append.mpr ⟨wsL_law_i25, List.forall_mem_append.mpr ⟨wsL_law_i26, wsL_law_i27⟩⟩⟩⟩⟩⟩⟩⟩⟩⟩⟩⟩⟩⟩⟩⟩⟩⟩⟩⟩⟩⟩⟩⟩⟩⟩, wsl_X5_i⟩, wsl_X6_i⟩, wsl_X0_i⟩, wsl_X3_i⟩, wsl_X4_i⟩, wsl_X2_i⟩, (fun _ h => absurd h List.not_mem_nil)⟩
theorem wsL_law_gd : ∀ w ∈ wsL_law, goodWord w = true := by
  unfold wsL_law
  exact List.forall_mem_append.mpr ⟨List.forall_mem_append.mpr ⟨List.forall_mem_append.mpr ⟨List.forall_mem_append.mpr ⟨List.forall_mem_append.mpr ⟨List.forall_mem_append.mpr ⟨List.forall_mem_append.mpr ⟨List.forall_mem_append.mpr ⟨(List.all_eq_true.mp wsL_law_g1), List.forall_mem_append.mpr ⟨(List.all_eq_true.mp wsL_law_g2), List.forall_mem_append.mpr ⟨(List.all_eq_true.mp wsL_law_g3), List.forall_mem_append.mpr ⟨(List.all_eq_true.mp wsL_law_g4), List.forall_mem_append.mpr ⟨(List.all_eq_true.mp wsL_law_g5), List.forall_mem_append.mpr ⟨(List.all_eq_true.mp wsL_law_g6), List.forall_mem_append.mpr ⟨(List.all_eq_true.mp wsL_law_g7), List.forall_mem_append.mpr ⟨(List.all_eq_true.mp wsL_law_g8), List.forall_mem_append.mpr ⟨(List.all_eq_true.mp wsL_law_g9), List.forall_mem_append.mpr ⟨(List.all_eq_true.mp wsL_law_g10), List.forall_mem_append.mpr ⟨(List.all_eq_true.mp wsL_law_g11), List.forall_mem_append.mpr ⟨(List.all_eq_true.mp wsL_law_g12), List.forall_mem_append.mpr ⟨(List.all_eq_true.mp wsL_law_g13), List.forall_mem_append.mpr ⟨(List.all_eq_true.mp wsL_law_g14), List.forall_mem_append.mpr ⟨(List.all_eq_true.mp wsL_law_g15), List.forall_mem_append.mpr ⟨(List.all_eq_true.mp wsL_law_g16), List.forall_mem_append.mpr ⟨(List.all_eq_true.mp wsL_law_g17), List.forall_mem_append.mpr ⟨(List.all_eq_true.mp wsL_law_g18), List.forall_mem_append.mpr ⟨(List.all_eq_true.mp wsL_law_g19), List.forall_mem_append.mpr ⟨(List.all_eq_true.mp wsL_law_g20), List.forall_mem_append.mpr ⟨(List.all_eq_true.mp wsL_law_g21), List.forall_mem_append.mpr ⟨(List.all_eq_true.mp wsL_law_g22), List.forall_mem_append.mpr ⟨(List.all_eq_true.mp wsL_law_g23), List.forall_mem_append.mpr ⟨(List.all_eq_true.mp wsL_law_g24), List.forall_mem_append.mpr ⟨(List.all_eq_true.mp wsL_law_g25), List.forall_mem_append.mpr ⟨(List.all_eq_true.mp wsL_law_g26), (List.all_eq_true.mp wsL_law_g27)⟩⟩⟩⟩⟩⟩⟩⟩⟩⟩⟩⟩⟩⟩⟩⟩⟩⟩⟩⟩⟩⟩⟩⟩⟩⟩, (List.all_eq_true.mp wsl_X5_g)⟩, (List.all_eq_true.mp wsl_X6_g)⟩, (List.all_eq_true.mp wsl_X0_g)⟩, (List.all_eq_true.mp wsl_X3_g)⟩, (List.all_eq_true.mp wsl_X4_g)⟩, (List.all_eq_true.mp wsl_X2_g)⟩, (fun _ h => absurd h List.not_mem_nil)⟩
theorem wsL_GI : GoodIn wsL_law wsL_law := fun w h => ⟨h, good_of_word (wsL_law_gd w h)⟩
end
section
theorem dX0_init_0 : decode cX0_init 0 = .ok (.aload_n 0, 1) := by decide +kernel
theorem dX0_init_1 : decode cX0_init 1 = .ok (.invokespecial 3, 3) := by decide +kernel
theorem dX0_init_4 : decode cX0_init 4 = .ok (.aload_n 0, 1) := by decide +kernel
theorem dX0_init_5 : decode cX0_init 5 = .ok (.bipush 8, 2) := by decide +kernel
theorem dX0_init_7 : decode cX0_init 7 = .ok (.newarray .int, 2) := by decide +kernel
theorem dX0_init_9 : decode cX0_init 9 = .ok (.putfield 9, 3) := by decide +kernel
theorem dX0_init_12 : decode cX0_init 12 = .ok (.aload_n 0, 1) := by decide +kernel
theorem dX0_init_13 : decode cX0_init 13 = .ok (.bipush 8, 2) := by decide +kernel
theorem dX0_init_15 : decode cX0_init 15 = .ok (.newarray .int, 2) := by decide +kernel
theorem dX0_init_17 : decode cX0_init 17 = .ok (.putfield 15, 3) := by decide +kernel
theorem dX0_init_20 : decode cX0_init 20 = .ok (.aload_n 0, 1) := by decide +kernel
theorem dX0_init_21 : decode cX0_init 21 = .ok (.bipush 8, 2) := by decide +kernel
theorem dX0_init_23 : decode cX0_init 23 = .ok (.newarray .int, 2) := by decide +kernel
theorem dX0_init_25 : decode cX0_init 25 = .ok (.putfield 18, 3) := by decide +kernel
theorem dX0_init_28 : decode cX0_init 28 = .ok (.aload_n 0, 1) := by decide +kernel
theorem dX0_init_29 : decode cX0_init 29 = .ok (.bipush 8, 2) := by decide +kernel
theorem dX0_init_31 : decode cX0_init 31 = .ok (.newarray .int, 2) := by decide +kernel
theorem dX0_init_33 : decode cX0_init 33 = .ok (.putfield 21, 3) := by decide +kernel
theorem dX0_init_36 : decode cX0_init 36 = .ok (.aload_n 0, 1) := by decide +kernel
theorem dX0_init_37 : decode cX0_init 37 = .ok (.bipush 48, 2) := by decide +kernel
theorem dX0_init_39 : decode cX0_init 39 = .ok (.newarray .int, 2) := by decide +kernel
theorem dX0_init_41 : decode cX0_init 41 = .ok (.putfield 24, 3) := by decide +kernel
theorem dX0_init_44 : decode cX0_init 44 = .ok (.aload_n 0, 1) := by decide +kernel
theorem dX0_init_45 : decode cX0_init 45 = .ok (.bipush 16, 2) := by decide +kernel
theorem dX0_init_47 : decode cX0_init 47 = .ok (.newarray .int, 2) := by decide +kernel
theorem dX0_init_49 : decode cX0_init 49 = .ok (.putfield 27, 3) := by decide +kernel
theorem dX0_init_52 : decode cX0_init 52 = .ok (.iconst 0, 1) := by decide +kernel
theorem dX0_init_53 : decode cX0_init 53 = .ok (.istore_n 1, 1) := by decide +kernel
theorem dX0_init_54 : decode cX0_init 54 = .ok (.iload_n 1, 1) := by decide +kernel
theorem dX0_init_55 : decode cX0_init 55 = .ok (.aload_n 0, 1) := by decide +kernel
theorem dX0_init_56 : decode cX0_init 56 = .ok (.getfield 27, 3) := by decide +kernel
theorem dX0_init_59 : decode cX0_init 59 = .ok (.arraylength, 1) := by decide +kernel
theorem dX0_init_60 : decode cX0_init 60 = .ok (.if_icmp .ge 17, 3) := by decide +kernel
theorem dX0_init_63 : decode cX0_init 63 = .ok (.aload_n 0, 1) := by decide +kernel
theorem dX0_init_64 : decode cX0_init 64 = .ok (.getfield 27, 3) := by decide +kernel
theorem dX0_init_67 : decode cX0_init 67 = .ok (.iload_n 1, 1) := by decide +kernel
theorem dX0_init_68 : decode cX0_init 68 = .ok (.ldc 30, 2) := by decide +kernel
theorem dX0_init_70 : decode cX0_init 70 = .ok (.iastore, 1) := by decide +kernel
theorem dX0_init_71 : decode cX0_init 71 = .ok (.iinc 1 1, 3) := by decide +kernel
theorem dX0_init_74 : decode cX0_init 74 = .ok (.goto (-20), 3) := by decide +kernel
theorem dX0_init_77 : decode cX0_init 77 = .ok (.return_, 1) := by decide +kernel
theorem dX0_copy_0 : decode cX0_copy 0 = .ok (.aload_n 1, 1) := by decide +kernel
theorem dX0_copy_1 : decode cX0_copy 1 = .ok (.getfield 9, 3) := by decide +kernel
theorem dX0_copy_4 : decode cX0_copy 4 = .ok (.iconst 0, 1) := by decide +kernel
theorem dX0_copy_5 : decode cX0_copy 5 = .ok (.aload_n 0, 1) := by decide +kernel
theorem dX0_copy_6 : decode cX0_copy 6 = .ok (.getfield 9, 3) := by decide +kernel
theorem dX0_copy_9 : decode cX0_copy 9 = .ok (.iconst 0, 1) := by decide +kernel
theorem dX0_copy_10 : decode cX0_copy 10 = .ok (.bipush 8, 2) := by decide +kernel
theorem dX0_copy_12 : decode cX0_copy 12 = .ok (.invokestatic 31, 3) := by decide +kernel
theorem dX0_copy_15 : decode cX0_copy 15 = .ok (.aload_n 1, 1) := by decide +kernel
theorem dX0_copy_16 : decode cX0_copy 16 = .ok (.getfield 15, 3) := by decide +kernel
theorem dX0_copy_19 : decode cX0_copy 19 = .ok (.iconst 0, 1) := by decide +kernel
theorem dX0_copy_20 : decode cX0_copy 20 = .ok (.aload_n 0, 1) := by decide +kernel
theorem dX0_copy_21 : decode cX0_copy 21 = .ok (.getfield 15, 3) := by decide +kernel
theorem dX0_copy_24 : decode cX0_copy 24 = .ok (.iconst 0, 1) := by decide +kernel
theorem dX0_copy_25 : decode cX0_copy 25 = .ok (.bipush 8, 2) := by decide +kernel
theorem dX0_copy_27 : decode cX0_copy 27 = .ok (.invokestatic 31, 3) := by decide +kernel
theorem dX0_copy_30 : decode cX0_copy 30 = .ok (.aload_n 1, 1) := by decide +kernel
theorem dX0_copy_31 : decode cX0_copy 31 = .ok (.getfield 18, 3) := by decide +kernel
theorem dX0_copy_34 : decode cX0_copy 34 = .ok (.iconst 0, 1) := by decide +kernel
theorem dX0_copy_35 : decode cX0_copy 35 = .ok (.aload_n 0, 1) := by decide +kernel
theorem dX0_copy_36 : decode cX0_copy 36 = .ok (.getfield 18, 3) := by decide +kernel
theorem dX0_copy_39 : decode cX0_copy 39 = .ok (.iconst 0, 1) := by decide +kernel
theorem dX0_copy_40 : decode cX0_copy 40 = .ok (.bipush 8, 2) := by decide +kernel
theorem dX0_copy_42 : decode cX0_copy 42 = .ok (.invokestatic 31, 3) := by decide +kernel
theorem dX0_copy_45 : decode cX0_copy 45 = .ok (.aload_n 1, 1) := by decide +kernel
theorem dX0_copy_46 : decode cX0_copy 46 = .ok (.getfield 21, 3) := by decide +kernel
theorem dX0_copy_49 : decode cX0_copy 49 = .ok (.iconst 0, 1) := by decide +kernel
theorem dX0_copy_50 : decode cX0_copy 50 = .ok (.aload_n 0, 1) := by decide +kernel
theorem dX0_copy_51 : decode cX0_copy 51 = .ok (.getfield 21, 3) := by decide +kernel
theorem dX0_copy_54 : decode cX0_copy 54 = .ok (.iconst 0, 1) := by decide +kernel
theorem dX0_copy_55 : decode cX0_copy 55 = .ok (.bipush 8, 2) := by decide +kernel
theorem dX0_copy_57 : decode cX0_copy 57 = .ok (.invokestatic 31, 3) := by decide +kernel
theorem dX0_copy_60 : decode cX0_copy 60 = .ok (.aload_n 1, 1) := by decide +kernel
theorem dX0_copy_61 : decode cX0_copy 61 = .ok (.getfield 24, 3) := by decide +kernel
theorem dX0_copy_64 : decode cX0_copy 64 = .ok (.iconst 0, 1) := by decide +kernel
theorem dX0_copy_65 : decode cX0_copy 65 = .ok (.aload_n 0, 1) := by decide +kernel
theorem dX0_copy_66 : decode cX0_copy 66 = .ok (.getfield 24, 3) := by decide +kernel
theorem dX0_copy_69 : decode cX0_copy 69 = .ok (.iconst 0, 1) := by decide +kernel
theorem dX0_copy_70 : decode cX0_copy 70 = .ok (.bipush 48, 2) := by decide +kernel
theorem dX0_copy_72 : decode cX0_copy 72 = .ok (.invokestatic 31, 3) := by decide +kernel
theorem dX0_copy_75 : decode cX0_copy 75 = .ok (.aload_n 1, 1) := by decide +kernel
theorem dX0_copy_76 : decode cX0_copy 76 = .ok (.getfield 27, 3) := by decide +kernel
theorem dX0_copy_79 : decode cX0_copy 79 = .ok (.iconst 0, 1) := by decide +kernel
theorem dX0_copy_80 : decode cX0_copy 80 = .ok (.aload_n 0, 1) := by decide +kernel
theorem dX0_copy_81 : decode cX0_copy 81 = .ok (.getfield 27, 3) := by decide +kernel
theorem dX0_copy_84 : decode cX0_copy 84 = .ok (.iconst 0, 1) := by decide +kernel
theorem dX0_copy_85 : decode cX0_copy 85 = .ok (.bipush 16, 2) := by decide +kernel
theorem dX0_copy_87 : decode cX0_copy 87 = .ok (.invokestatic 31, 3) := by decide +kernel
theorem dX0_copy_90 : decode cX0_copy 90 = .ok (.aload_n 0, 1) := by decide +kernel
theorem dX0_copy_91 : decode cX0_copy 91 = .ok (.aload_n 1, 1) := by decide +kernel
theorem dX0_copy_92 : decode cX0_copy 92 = .ok (.getfield 37, 3) := by decide +kernel
theorem dX0_copy_95 : decode cX0_copy 95 = .ok (.putfield 37, 3) := by decide +kernel
theorem dX0_copy_98 : decode cX0_copy 98 = .ok (.aload_n 0, 1) := by decide +kernel
theorem dX0_copy_99 : decode cX0_copy 99 = .ok (.aload_n 1, 1) := by decide +kernel
theorem dX0_copy_100 : decode cX0_copy 100 = .ok (.getfield 41, 3) := by decide +kernel
theorem dX0_copy_103 : decode cX0_copy 103 = .ok (.putfield 41, 3) := by decide +kernel
theorem dX0_copy_106 : decode cX0_copy 106 = .ok (.aload_n 0, 1) := by decide +kernel
theorem dX0_copy_107 : decode cX0_copy 107 = .ok (.aload_n 1, 1) := by decide +kernel
theorem dX0_copy_108 : decode cX0_copy 108 = .ok (.getfield 44, 3) := by decide +kernel
theorem dX0_copy_111 : decode cX0_copy 111 = .ok (.putfield 44, 3) := by decide +kernel
theorem dX0_copy_114 : decode cX0_copy 114 = .ok (.aload_n 0, 1) := by decide +kernel
theorem dX0_copy_115 : decode cX0_copy 115 = .ok (.aload_n 1, 1) := by decide +kernel
theorem dX0_copy_116 : decode cX0_copy 116 = .ok (.getfield 47, 3) := by decide +kernel
theorem dX0_copy_119 : decode cX0_copy 119 = .ok (.putfield 47, 3) := by decide +kernel
theorem dX0_copy_122 : decode cX0_copy 122 = .ok (.aload_n 0, 1) := by decide +kernel
theorem dX0_copy_123 : decode cX0_copy 123 = .ok (.aload_n 1, 1) := by decide +kernel
theorem dX0_copy_124 : decode cX0_copy 124 = .ok (.getfield 50, 3) := by decide +kernel
theorem dX0_copy_127 : decode cX0_copy 127 = .ok (.putfield 50, 3) := by decide +kernel
theorem dX0_copy_130 : decode cX0_copy 130 = .ok (.aload_n 0, 1) := by decide +kernel
theorem dX0_copy_131 : decode cX0_copy 131 = .ok (.aload_n 1, 1) := by decide +kernel
theorem dX0_copy_132 : decode cX0_copy 132 = .ok (.getfield 53, 3) := by decide +kernel
theorem dX0_copy_135 : decode cX0_copy 135 = .ok (.putfield 53, 3) := by decide +kernel
theorem dX0_copy_138 : decode cX0_copy 138 = .ok (.aload_n 0, 1) := by decide +kernel
theorem dX0_copy_139 : decode cX0_copy 139 = .ok (.aload_n 1, 1) := by decide +kernel
theorem dX0_copy_140 : decode cX0_copy 140 = .ok (.getfield 56, 3) := by decide +kernel
theorem dX0_copy_143 : decode cX0_copy 143 = .ok (.putfield 56, 3) := by decide +kernel
theorem dX0_copy_146 : decode cX0_copy 146 = .ok (.aload_n 0, 1) := by decide +kernel
theorem dX0_copy_147 : decode cX0_copy 147 = .ok (.aload_n 1, 1) := by decide +kernel
theorem dX0_copy_148 : decode cX0_copy 148 = .ok (.getfield 59, 3) := by decide +kernel
theorem dX0_copy_151 : decode cX0_copy 151 = .ok (.putfield 59, 3) := by decide +kernel
theorem dX0_copy_154 : decode cX0_copy 154 = .ok (.aload_n 0, 1) := by decide +kernel
theorem dX0_copy_155 : decode cX0_copy 155 = .ok (.aload_n 1, 1) := by decide +kernel
theorem dX0_copy_156 : decode cX0_copy 156 = .ok (.getfield 62, 3) := by decide +kernel
theorem dX0_copy_159 : decode cX0_copy 159 = .ok (.putfield 62, 3) := by decide +kernel
theorem dX0_copy_162 : decode cX0_copy 162 = .ok (.return_, 1) := by decide +kernel
theorem dX0_has_0 : decode cX0_has 0 = .ok (.iload_n 1, 1) := by decide +kernel
theorem dX0_has_1 : decode cX0_has 1 = .ok (.iconst 0, 1) := by decide +kernel
theorem dX0_has_2 : decode cX0_has 2 = .ok (.aload_n 0, 1) := by decide +kernel
theorem dX0_has_3 : decode cX0_has 3 = .ok (.getfield 37, 3) := by decide +kernel
theorem dX0_has_6 : decode cX0_has 6 = .ok (.iconst 1, 1) := by decide +kernel
theorem dX0_has_7 : decode cX0_has 7 = .ok (.isub, 1) := by decide +kernel
theorem dX0_has_8 : decode cX0_has 8 = .ok (.invokestatic 65, 3) := by decide +kernel
theorem dX0_has_11 : decode cX0_has 11 = .ok (.ireturn, 1) := by decide +kernel
theorem dX0_add_0 : decode cX0_add 0 = .ok (.aload_n 0, 1) := by decide +kernel
theorem dX0_add_1 : decode cX0_add 1 = .ok (.getfield 37, 3) := by decide +kernel
theorem dX0_add_4 : decode cX0_add 4 = .ok (.istore 4, 2) := by decide +kernel
theorem dX0_add_6 : decode cX0_add 6 = .ok (.aload_n 0, 1) := by decide +kernel
theorem dX0_add_7 : decode cX0_add 7 = .ok (.dup, 1) := by decide +kernel
theorem dX0_add_8 : decode cX0_add 8 = .ok (.getfield 37, 3) := by decide +kernel
theorem dX0_add_11 : decode cX0_add 11 = .ok (.iconst 1, 1) := by decide +kernel
theorem dX0_add_12 : decode cX0_add 12 = .ok (.iadd, 1) := by decide +kernel
theorem dX0_add_13 : decode cX0_add 13 = .ok (.putfield 37, 3) := by decide +kernel
theorem dX0_add_16 : decode cX0_add 16 = .ok (.aload_n 0, 1) := by decide +kernel
theorem dX0_add_17 : decode cX0_add 17 = .ok (.iload 4, 2) := by decide +kernel
theorem dX0_add_19 : decode cX0_add 19 = .ok (.iload_n 1, 1) := by decide +kernel
theorem dX0_add_20 : decode cX0_add 20 = .ok (.iload_n 2, 1) := by decide +kernel
theorem dX0_add_21 : decode cX0_add 21 = .ok (.iload_n 3, 1) := by decide +kernel
theorem dX0_add_22 : decode cX0_add 22 = .ok (.invokevirtual 69, 3) := by decide +kernel
theorem dX0_add_25 : decode cX0_add 25 = .ok (.pop, 1) := by decide +kernel
theorem dX0_add_26 : decode cX0_add 26 = .ok (.iload 4, 2) := by decide +kernel
theorem dX0_add_28 : decode cX0_add 28 = .ok (.ireturn, 1) := by decide +kernel
theorem dX0_putDelays_0 : decode cX0_putDelays 0 = .ok (.aload_n 0, 1) := by decide +kernel
theorem dX0_putDelays_1 : decode cX0_putDelays 1 = .ok (.getfield 9, 3) := by decide +kernel
theorem dX0_putDelays_4 : decode cX0_putDelays 4 = .ok (.iload_n 1, 1) := by decide +kernel
theorem dX0_putDelays_5 : decode cX0_putDelays 5 = .ok (.invokestatic 73, 3) := by decide +kernel
theorem dX0_putDelays_8 : decode cX0_putDelays 8 = .ok (.iload_n 2, 1) := by decide +kernel
theorem dX0_putDelays_9 : decode cX0_putDelays 9 = .ok (.if_icmp .ne 32, 3) := by decide +kernel
theorem dX0_putDelays_12 : decode cX0_putDelays 12 = .ok (.aload_n 0, 1) := by decide +kernel
theorem dX0_putDelays_13 : decode cX0_putDelays 13 = .ok (.getfield 15, 3) := by decide +kernel
theorem dX0_putDelays_16 : decode cX0_putDelays 16 = .ok (.iload_n 1, 1) := by decide +kernel
theorem dX0_putDelays_17 : decode cX0_putDelays 17 = .ok (.invokestatic 73, 3) := by decide +kernel
theorem dX0_putDelays_20 : decode cX0_putDelays 20 = .ok (.iload_n 3, 1) := by decide +kernel
theorem dX0_putDelays_21 : decode cX0_putDelays 21 = .ok (.if_icmp .ne 20, 3) := by decide +kernel
theorem dX0_putDelays_24 : decode cX0_putDelays 24 = .ok (.aload_n 0, 1) := by decide +kernel
theorem dX0_putDelays_25 : decode cX0_putDelays 25 = .ok (.getfield 18, 3) := by decide +kernel
theorem dX0_putDelays_28 : decode cX0_putDelays 28 = .ok (.iload_n 1, 1) := by decide +kernel
theorem dX0_putDelays_29 : decode cX0_putDelays 29 = .ok (.invokestatic 73, 3) := by decide +kernel
theorem dX0_putDelays_32 : decode cX0_putDelays 32 = .ok (.iload 4, 2) := by decide +kernel
theorem dX0_putDelays_34 : decode cX0_putDelays 34 = .ok (.if_icmp .ne 7, 3) := by decide +kernel
theorem dX0_putDelays_37 : decode cX0_putDelays 37 = .ok (.iconst 1, 1) := by decide +kernel
theorem dX0_putDelays_38 : decode cX0_putDelays 38 = .ok (.goto 4, 3) := by decide +kernel
theorem dX0_putDelays_41 : decode cX0_putDelays 41 = .ok (.iconst 0, 1) := by decide +kernel
theorem dX0_putDelays_42 : decode cX0_putDelays 42 = .ok (.istore 5, 2) := by decide +kernel
theorem dX0_putDelays_44 : decode cX0_putDelays 44 = .ok (.aload_n 0, 1) := by decide +kernel
theorem dX0_putDelays_45 : decode cX0_putDelays 45 = .ok (.getfield 9, 3) := by decide +kernel
theorem dX0_putDelays_48 : decode cX0_putDelays 48 = .ok (.iload_n 1, 1) := by decide +kernel
theorem dX0_putDelays_49 : decode cX0_putDelays 49 = .ok (.iload_n 2, 1) := by decide +kernel
theorem dX0_putDelays_50 : decode cX0_putDelays 50 = .ok (.invokestatic 77, 3) := by decide +kernel
theorem dX0_putDelays_53 : decode cX0_putDelays 53 = .ok (.aload_n 0, 1) := by decide +kernel
theorem dX0_putDelays_54 : decode cX0_putDelays 54 = .ok (.getfield 15, 3) := by decide +kernel
theorem dX0_putDelays_57 : decode cX0_putDelays 57 = .ok (.iload_n 1, 1) := by decide +kernel
theorem dX0_putDelays_58 : decode cX0_putDelays 58 = .ok (.iload_n 3, 1) := by decide +kernel
theorem dX0_putDelays_59 : decode cX0_putDelays 59 = .ok (.invokestatic 77, 3) := by decide +kernel
theorem dX0_putDelays_62 : decode cX0_putDelays 62 = .ok (.aload_n 0, 1) := by decide +kernel
theorem dX0_putDelays_63 : decode cX0_putDelays 63 = .ok (.getfield 18, 3) := by decide +kernel
theorem dX0_putDelays_66 : decode cX0_putDelays 66 = .ok (.iload_n 1, 1) := by decide +kernel
theorem dX0_putDelays_67 : decode cX0_putDelays 67 = .ok (.iload 4, 2) := by decide +kernel
theorem dX0_putDelays_69 : decode cX0_putDelays 69 = .ok (.invokestatic 77, 3) := by decide +kernel
theorem dX0_putDelays_72 : decode cX0_putDelays 72 = .ok (.iload 5, 2) := by decide +kernel
theorem dX0_putDelays_74 : decode cX0_putDelays 74 = .ok (.ifCond .ne 7, 3) := by decide +kernel
theorem dX0_putDelays_77 : decode cX0_putDelays 77 = .ok (.iconst 1, 1) := by decide +kernel
theorem dX0_putDelays_78 : decode cX0_putDelays 78 = .ok (.goto 4, 3) := by decide +kernel
theorem dX0_putDelays_81 : decode cX0_putDelays 81 = .ok (.iconst 0, 1) := by decide +kernel
theorem dX0_putDelays_82 : decode cX0_putDelays 82 = .ok (.ireturn, 1) := by decide +kernel
theorem dX0_branchesOf_0 : decode cX0_branchesOf 0 = .ok (.aload_n 0, 1) := by decide +kernel
theorem dX0_branchesOf_1 : decode cX0_branchesOf 1 = .ok (.getfield 21, 3) := by decide +kernel
theorem dX0_branchesOf_4 : decode cX0_branchesOf 4 = .ok (.iload_n 1, 1) := by decide +kernel
theorem dX0_branchesOf_5 : decode cX0_branchesOf 5 = .ok (.invokestatic 73, 3) := by decide +kernel
theorem dX0_branchesOf_8 : decode cX0_branchesOf 8 = .ok (.ireturn, 1) := by decide +kernel
theorem dX0_branchAt_0 : decode cX0_branchAt 0 = .ok (.aload_n 0, 1) := by decide +kernel
theorem dX0_branchAt_1 : decode cX0_branchAt 1 = .ok (.getfield 24, 3) := by decide +kernel
theorem dX0_branchAt_4 : decode cX0_branchAt 4 = .ok (.iload_n 1, 1) := by decide +kernel
theorem dX0_branchAt_5 : decode cX0_branchAt 5 = .ok (.bipush 6, 2) := by decide +kernel
theorem dX0_branchAt_7 : decode cX0_branchAt 7 = .ok (.imul, 1) := by decide +kernel
theorem dX0_branchAt_8 : decode cX0_branchAt 8 = .ok (.iload_n 2, 1) := by decide +kernel
theorem dX0_branchAt_9 : decode cX0_branchAt 9 = .ok (.iadd, 1) := by decide +kernel
theorem dX0_branchAt_10 : decode cX0_branchAt 10 = .ok (.invokestatic 73, 3) := by decide +kernel
theorem dX0_branchAt_13 : decode cX0_branchAt 13 = .ok (.ireturn, 1) := by decide +kernel
theorem dX0_putBranch_0 : decode cX0_putBranch 0 = .ok (.aload_n 0, 1) := by decide +kernel
theorem dX0_putBranch_1 : decode cX0_putBranch 1 = .ok (.getfield 24, 3) := by decide +kernel
theorem dX0_putBranch_4 : decode cX0_putBranch 4 = .ok (.iload_n 1, 1) := by decide +kernel
theorem dX0_putBranch_5 : decode cX0_putBranch 5 = .ok (.bipush 6, 2) := by decide +kernel
theorem dX0_putBranch_7 : decode cX0_putBranch 7 = .ok (.imul, 1) := by decide +kernel
theorem dX0_putBranch_8 : decode cX0_putBranch 8 = .ok (.iload_n 2, 1) := by decide +kernel
theorem dX0_putBranch_9 : decode cX0_putBranch 9 = .ok (.iadd, 1) := by decide +kernel
theorem dX0_putBranch_10 : decode cX0_putBranch 10 = .ok (.iload_n 3, 1) := by decide +kernel
theorem dX0_putBranch_11 : decode cX0_putBranch 11 = .ok (.invokestatic 77, 3) := by decide +kernel
theorem dX0_putBranch_14 : decode cX0_putBranch 14 = .ok (.return_, 1) := by decide +kernel
theorem dX0_putCondition_0 : decode cX0_putCondition 0 = .ok (.iload_n 2, 1) := by decide +kernel
theorem dX0_putCondition_1 : decode cX0_putCondition 1 = .ok (.aload_n 0, 1) := by decide +kernel
theorem dX0_putCondition_2 : decode cX0_putCondition 2 = .ok (.iload_n 1, 1) := by decide +kernel
theorem dX0_putCondition_3 : decode cX0_putCondition 3 = .ok (.invokevirtual 81, 3) := by decide +kernel
theorem dX0_putCondition_6 : decode cX0_putCondition 6 = .ok (.if_icmp .ne 7, 3) := by decide +kernel
theorem dX0_putCondition_9 : decode cX0_putCondition 9 = .ok (.iconst 1, 1) := by decide +kernel
theorem dX0_putCondition_10 : decode cX0_putCondition 10 = .ok (.goto 4, 3) := by decide +kernel
theorem dX0_putCondition_13 : decode cX0_putCondition 13 = .ok (.iconst 0, 1) := by decide +kernel
theorem dX0_putCondition_14 : decode cX0_putCondition 14 = .ok (.istore 5, 2) := by decide +kernel
theorem dX0_putCondition_16 : decode cX0_putCondition 16 = .ok (.iload 5, 2) := by decide +kernel
theorem dX0_putCondition_18 : decode cX0_putCondition 18 = .ok (.ifCond .eq 7, 3) := by decide +kernel
theorem dX0_putCondition_21 : decode cX0_putCondition 21 = .ok (.iconst 0, 1) := by decide +kernel
theorem dX0_putCondition_22 : decode cX0_putCondition 22 = .ok (.goto 9, 3) := by decide +kernel
theorem dX0_putCondition_25 : decode cX0_putCondition 25 = .ok (.aload_n 0, 1) := by decide +kernel
theorem dX0_putCondition_26 : decode cX0_putCondition 26 = .ok (.iload_n 1, 1) := by decide +kernel
theorem dX0_putCondition_27 : decode cX0_putCondition 27 = .ok (.iload_n 2, 1) := by decide +kernel
theorem dX0_putCondition_28 : decode cX0_putCondition 28 = .ok (.invokevirtual 85, 3) := by decide +kernel
theorem dX0_putCondition_31 : decode cX0_putCondition 31 = .ok (.istore 6, 2) := by decide +kernel
theorem dX0_putCondition_33 : decode cX0_putCondition 33 = .ok (.iload 5, 2) := by decide +kernel
theorem dX0_putCondition_35 : decode cX0_putCondition 35 = .ok (.ifCond .eq 14, 3) := by decide +kernel
theorem dX0_putCondition_38 : decode cX0_putCondition 38 = .ok (.aload_n 0, 1) := by decide +kernel
theorem dX0_putCondition_39 : decode cX0_putCondition 39 = .ok (.getfield 21, 3) := by decide +kernel
theorem dX0_putCondition_42 : decode cX0_putCondition 42 = .ok (.iload_n 1, 1) := by decide +kernel
theorem dX0_putCondition_43 : decode cX0_putCondition 43 = .ok (.iload_n 2, 1) := by decide +kernel
theorem dX0_putCondition_44 : decode cX0_putCondition 44 = .ok (.iconst 1, 1) := by decide +kernel
theorem dX0_putCondition_45 : decode cX0_putCondition 45 = .ok (.iadd, 1) := by decide +kernel
theorem dX0_putCondition_46 : decode cX0_putCondition 46 = .ok (.invokestatic 77, 3) := by decide +kernel
theorem dX0_putCondition_49 : decode cX0_putCondition 49 = .ok (.aload_n 0, 1) := by decide +kernel
theorem dX0_putCondition_50 : decode cX0_putCondition 50 = .ok (.iload_n 1, 1) := by decide +kernel
theorem dX0_putCondition_51 : decode cX0_putCondition 51 = .ok (.iload_n 2, 1) := by decide +kernel
theorem dX0_putCondition_52 : decode cX0_putCondition 52 = .ok (.iload 6, 2) := by decide +kernel
theorem dX0_putCondition_54 : decode cX0_putCondition 54 = .ok (.iload_n 3, 1) := by decide +kernel
theorem dX0_putCondition_55 : decode cX0_putCondition 55 = .ok (.iload 4, 2) := by decide +kernel
theorem dX0_putCondition_57 : decode cX0_putCondition 57 = .ok (.invokestatic 89, 3) := by decide +kernel
theorem dX0_putCondition_60 : decode cX0_putCondition 60 = .ok (.invokevirtual 95, 3) := by decide +kernel
theorem dX0_putCondition_63 : decode cX0_putCondition 63 = .ok (.aload_n 0, 1) := by decide +kernel
theorem dX0_putCondition_64 : decode cX0_putCondition 64 = .ok (.invokevirtual 99, 3) := by decide +kernel
theorem dX0_putCondition_67 : decode cX0_putCondition 67 = .ok (.pop, 1) := by decide +kernel
theorem dX0_putCondition_68 : decode cX0_putCondition 68 = .ok (.iload 6, 2) := by decide +kernel
theorem dX0_putCondition_70 : decode cX0_putCondition 70 = .ok (.iload_n 3, 1) := by decide +kernel
theorem dX0_putCondition_71 : decode cX0_putCondition 71 = .ok (.invokestatic 103, 3) := by decide +kernel
theorem dX0_putCondition_74 : decode cX0_putCondition 74 = .ok (.ireturn, 1) := by decide +kernel
theorem dX0_dropBranch_0 : decode cX0_dropBranch 0 = .ok (.aload_n 0, 1) := by decide +kernel
theorem dX0_dropBranch_1 : decode cX0_dropBranch 1 = .ok (.iload_n 1, 1) := by decide +kernel
theorem dX0_dropBranch_2 : decode cX0_dropBranch 2 = .ok (.invokevirtual 81, 3) := by decide +kernel
theorem dX0_dropBranch_5 : decode cX0_dropBranch 5 = .ok (.iconst 1, 1) := by decide +kernel
theorem dX0_dropBranch_6 : decode cX0_dropBranch 6 = .ok (.isub, 1) := by decide +kernel
theorem dX0_dropBranch_7 : decode cX0_dropBranch 7 = .ok (.istore_n 3, 1) := by decide +kernel
theorem dX0_dropBranch_8 : decode cX0_dropBranch 8 = .ok (.iload_n 2, 1) := by decide +kernel
theorem dX0_dropBranch_9 : decode cX0_dropBranch 9 = .ok (.istore 4, 2) := by decide +kernel
theorem dX0_dropBranch_11 : decode cX0_dropBranch 11 = .ok (.iload 4, 2) := by decide +kernel
theorem dX0_dropBranch_13 : decode cX0_dropBranch 13 = .ok (.iload_n 3, 1) := by decide +kernel
theorem dX0_dropBranch_14 : decode cX0_dropBranch 14 = .ok (.if_icmp .ge 25, 3) := by decide +kernel
theorem dX0_dropBranch_17 : decode cX0_dropBranch 17 = .ok (.aload_n 0, 1) := by decide +kernel
theorem dX0_dropBranch_18 : decode cX0_dropBranch 18 = .ok (.iload_n 1, 1) := by decide +kernel
theorem dX0_dropBranch_19 : decode cX0_dropBranch 19 = .ok (.iload 4, 2) := by decide +kernel
theorem dX0_dropBranch_21 : decode cX0_dropBranch 21 = .ok (.aload_n 0, 1) := by decide +kernel
theorem dX0_dropBranch_22 : decode cX0_dropBranch 22 = .ok (.iload_n 1, 1) := by decide +kernel
theorem dX0_dropBranch_23 : decode cX0_dropBranch 23 = .ok (.iload 4, 2) := by decide +kernel
theorem dX0_dropBranch_25 : decode cX0_dropBranch 25 = .ok (.iconst 1, 1) := by decide +kernel
theorem dX0_dropBranch_26 : decode cX0_dropBranch 26 = .ok (.iadd, 1) := by decide +kernel
theorem dX0_dropBranch_27 : decode cX0_dropBranch 27 = .ok (.invokevirtual 85, 3) := by decide +kernel
theorem dX0_dropBranch_30 : decode cX0_dropBranch 30 = .ok (.invokevirtual 95, 3) := by decide +kernel
theorem dX0_dropBranch_33 : decode cX0_dropBranch 33 = .ok (.iinc 4 1, 3) := by decide +kernel
theorem dX0_dropBranch_36 : decode cX0_dropBranch 36 = .ok (.goto (-25), 3) := by decide +kernel
theorem dX0_dropBranch_39 : decode cX0_dropBranch 39 = .ok (.aload_n 0, 1) := by decide +kernel
theorem dX0_dropBranch_40 : decode cX0_dropBranch 40 = .ok (.getfield 21, 3) := by decide +kernel
theorem dX0_dropBranch_43 : decode cX0_dropBranch 43 = .ok (.iload_n 1, 1) := by decide +kernel
theorem dX0_dropBranch_44 : decode cX0_dropBranch 44 = .ok (.iload_n 3, 1) := by decide +kernel
theorem dX0_dropBranch_45 : decode cX0_dropBranch 45 = .ok (.invokestatic 77, 3) := by decide +kernel
theorem dX0_dropBranch_48 : decode cX0_dropBranch 48 = .ok (.aload_n 0, 1) := by decide +kernel
theorem dX0_dropBranch_49 : decode cX0_dropBranch 49 = .ok (.invokevirtual 99, 3) := by decide +kernel
theorem dX0_dropBranch_52 : decode cX0_dropBranch 52 = .ok (.pop, 1) := by decide +kernel
theorem dX0_dropBranch_53 : decode cX0_dropBranch 53 = .ok (.iload_n 3, 1) := by decide +kernel
theorem dX0_dropBranch_54 : decode cX0_dropBranch 54 = .ok (.ireturn, 1) := by decide +kernel
theorem dX0_putCircuit_0 : decode cX0_putCircuit 0 = .ok (.iconst 0, 1) := by decide +kernel
theorem dX0_putCircuit_1 : decode cX0_putCircuit 1 = .ok (.istore 4, 2) := by decide +kernel
theorem dX0_putCircuit_3 : decode cX0_putCircuit 3 = .ok (.iload 4, 2) := by decide +kernel
theorem dX0_putCircuit_5 : decode cX0_putCircuit 5 = .ok (.iload_n 3, 1) := by decide +kernel
theorem dX0_putCircuit_6 : decode cX0_putCircuit 6 = .ok (.if_icmp .ge 22, 3) := by decide +kernel
theorem dX0_putCircuit_9 : decode cX0_putCircuit 9 = .ok (.aload_n 0, 1) := by decide +kernel
theorem dX0_putCircuit_10 : decode cX0_putCircuit 10 = .ok (.iload_n 1, 1) := by decide +kernel
theorem dX0_putCircuit_11 : decode cX0_putCircuit 11 = .ok (.iload 4, 2) := by decide +kernel
theorem dX0_putCircuit_13 : decode cX0_putCircuit 13 = .ok (.aload_n 2, 1) := by decide +kernel
theorem dX0_putCircuit_14 : decode cX0_putCircuit 14 = .ok (.iload 4, 2) := by decide +kernel
theorem dX0_putCircuit_16 : decode cX0_putCircuit 16 = .ok (.invokestatic 73, 3) := by decide +kernel
theorem dX0_putCircuit_19 : decode cX0_putCircuit 19 = .ok (.invokevirtual 95, 3) := by decide +kernel
theorem dX0_putCircuit_22 : decode cX0_putCircuit 22 = .ok (.iinc 4 1, 3) := by decide +kernel
theorem dX0_putCircuit_25 : decode cX0_putCircuit 25 = .ok (.goto (-22), 3) := by decide +kernel
theorem dX0_putCircuit_28 : decode cX0_putCircuit 28 = .ok (.aload_n 0, 1) := by decide +kernel
theorem dX0_putCircuit_29 : decode cX0_putCircuit 29 = .ok (.getfield 21, 3) := by decide +kernel
theorem dX0_putCircuit_32 : decode cX0_putCircuit 32 = .ok (.iload_n 1, 1) := by decide +kernel
theorem dX0_putCircuit_33 : decode cX0_putCircuit 33 = .ok (.iload_n 3, 1) := by decide +kernel
theorem dX0_putCircuit_34 : decode cX0_putCircuit 34 = .ok (.invokestatic 77, 3) := by decide +kernel
theorem dX0_putCircuit_37 : decode cX0_putCircuit 37 = .ok (.aload_n 0, 1) := by decide +kernel
theorem dX0_putCircuit_38 : decode cX0_putCircuit 38 = .ok (.invokevirtual 99, 3) := by decide +kernel
theorem dX0_putCircuit_41 : decode cX0_putCircuit 41 = .ok (.pop, 1) := by decide +kernel
theorem dX0_putCircuit_42 : decode cX0_putCircuit 42 = .ok (.return_, 1) := by decide +kernel
theorem dX0_concerns_0 : decode cX0_concerns 0 = .ok (.aload_n 0, 1) := by decide +kernel
theorem dX0_concerns_1 : decode cX0_concerns 1 = .ok (.iload_n 1, 1) := by decide +kernel
theorem dX0_concerns_2 : decode cX0_concerns 2 = .ok (.invokevirtual 81, 3) := by decide +kernel
theorem dX0_concerns_5 : decode cX0_concerns 5 = .ok (.istore_n 3, 1) := by decide +kernel
theorem dX0_concerns_6 : decode cX0_concerns 6 = .ok (.iconst 0, 1) := by decide +kernel
theorem dX0_concerns_7 : decode cX0_concerns 7 = .ok (.istore 4, 2) := by decide +kernel
theorem dX0_concerns_9 : decode cX0_concerns 9 = .ok (.iload 4, 2) := by decide +kernel
theorem dX0_concerns_11 : decode cX0_concerns 11 = .ok (.iload_n 3, 1) := by decide +kernel
theorem dX0_concerns_12 : decode cX0_concerns 12 = .ok (.if_icmp .ge 25, 3) := by decide +kernel
theorem dX0_concerns_15 : decode cX0_concerns 15 = .ok (.aload_n 0, 1) := by decide +kernel
theorem dX0_concerns_16 : decode cX0_concerns 16 = .ok (.iload_n 1, 1) := by decide +kernel
theorem dX0_concerns_17 : decode cX0_concerns 17 = .ok (.iload 4, 2) := by decide +kernel
theorem dX0_concerns_19 : decode cX0_concerns 19 = .ok (.invokevirtual 85, 3) := by decide +kernel
theorem dX0_concerns_22 : decode cX0_concerns 22 = .ok (.iload_n 2, 1) := by decide +kernel
theorem dX0_concerns_23 : decode cX0_concerns 23 = .ok (.invokestatic 103, 3) := by decide +kernel
theorem dX0_concerns_26 : decode cX0_concerns 26 = .ok (.ifCond .eq 5, 3) := by decide +kernel
theorem dX0_concerns_29 : decode cX0_concerns 29 = .ok (.iconst 1, 1) := by decide +kernel
theorem dX0_concerns_30 : decode cX0_concerns 30 = .ok (.ireturn, 1) := by decide +kernel
theorem dX0_concerns_31 : decode cX0_concerns 31 = .ok (.iinc 4 1, 3) := by decide +kernel
theorem dX0_concerns_34 : decode cX0_concerns 34 = .ok (.goto (-25), 3) := by decide +kernel
theorem dX0_concerns_37 : decode cX0_concerns 37 = .ok (.iconst 0, 1) := by decide +kernel
theorem dX0_concerns_38 : decode cX0_concerns 38 = .ok (.ireturn, 1) := by decide +kernel
theorem dX0_turnKey_0 : decode cX0_turnKey 0 = .ok (.aload_n 0, 1) := by decide +kernel
theorem dX0_turnKey_1 : decode cX0_turnKey 1 = .ok (.dup, 1) := by decide +kernel
theorem dX0_turnKey_2 : decode cX0_turnKey 2 = .ok (.getfield 44, 3) := by decide +kernel
theorem dX0_turnKey_5 : decode cX0_turnKey 5 = .ok (.iconst 1, 1) := by decide +kernel
theorem dX0_turnKey_6 : decode cX0_turnKey 6 = .ok (.iload_n 1, 1) := by decide +kernel
theorem dX0_turnKey_7 : decode cX0_turnKey 7 = .ok (.ishl, 1) := by decide +kernel
theorem dX0_turnKey_8 : decode cX0_turnKey 8 = .ok (.ixor, 1) := by decide +kernel
theorem dX0_turnKey_9 : decode cX0_turnKey 9 = .ok (.putfield 44, 3) := by decide +kernel
theorem dX0_turnKey_12 : decode cX0_turnKey 12 = .ok (.aload_n 0, 1) := by decide +kernel
theorem dX0_turnKey_13 : decode cX0_turnKey 13 = .ok (.invokevirtual 99, 3) := by decide +kernel
theorem dX0_turnKey_16 : decode cX0_turnKey 16 = .ok (.ireturn, 1) := by decide +kernel
theorem dX0_faultOf_0 : decode cX0_faultOf 0 = .ok (.aload_n 0, 1) := by decide +kernel
theorem dX0_faultOf_1 : decode cX0_faultOf 1 = .ok (.getfield 59, 3) := by decide +kernel
theorem dX0_faultOf_4 : decode cX0_faultOf 4 = .ok (.iload_n 1, 1) := by decide +kernel
theorem dX0_faultOf_5 : decode cX0_faultOf 5 = .ok (.invokestatic 106, 3) := by decide +kernel
theorem dX0_faultOf_8 : decode cX0_faultOf 8 = .ok (.ifCond .eq 7, 3) := by decide +kernel
theorem dX0_faultOf_11 : decode cX0_faultOf 11 = .ok (.iconst 1, 1) := by decide +kernel
theorem dX0_faultOf_12 : decode cX0_faultOf 12 = .ok (.goto 19, 3) := by decide +kernel
theorem dX0_faultOf_15 : decode cX0_faultOf 15 = .ok (.aload_n 0, 1) := by decide +kernel
theorem dX0_faultOf_16 : decode cX0_faultOf 16 = .ok (.getfield 62, 3) := by decide +kernel
theorem dX0_faultOf_19 : decode cX0_faultOf 19 = .ok (.iload_n 1, 1) := by decide +kernel
theorem dX0_faultOf_20 : decode cX0_faultOf 20 = .ok (.invokestatic 106, 3) := by decide +kernel
theorem dX0_faultOf_23 : decode cX0_faultOf 23 = .ok (.ifCond .eq 7, 3) := by decide +kernel
theorem dX0_faultOf_26 : decode cX0_faultOf 26 = .ok (.iconst 2, 1) := by decide +kernel
theorem dX0_faultOf_27 : decode cX0_faultOf 27 = .ok (.goto 4, 3) := by decide +kernel
theorem dX0_faultOf_30 : decode cX0_faultOf 30 = .ok (.iconst 0, 1) := by decide +kernel
theorem dX0_faultOf_31 : decode cX0_faultOf 31 = .ok (.ireturn, 1) := by decide +kernel
theorem dX0_putFault_0 : decode cX0_putFault 0 = .ok (.iconst 1, 1) := by decide +kernel
theorem dX0_putFault_1 : decode cX0_putFault 1 = .ok (.iload_n 1, 1) := by decide +kernel
theorem dX0_putFault_2 : decode cX0_putFault 2 = .ok (.ishl, 1) := by decide +kernel
theorem dX0_putFault_3 : decode cX0_putFault 3 = .ok (.istore_n 3, 1) := by decide +kernel
theorem dX0_putFault_4 : decode cX0_putFault 4 = .ok (.aload_n 0, 1) := by decide +kernel
theorem dX0_putFault_5 : decode cX0_putFault 5 = .ok (.iload_n 2, 1) := by decide +kernel
theorem dX0_putFault_6 : decode cX0_putFault 6 = .ok (.iconst 1, 1) := by decide +kernel
theorem dX0_putFault_7 : decode cX0_putFault 7 = .ok (.if_icmp .ne 12, 3) := by decide +kernel
theorem dX0_putFault_10 : decode cX0_putFault 10 = .ok (.aload_n 0, 1) := by decide +kernel
theorem dX0_putFault_11 : decode cX0_putFault 11 = .ok (.getfield 59, 3) := by decide +kernel
theorem dX0_putFault_14 : decode cX0_putFault 14 = .ok (.iload_n 3, 1) := by decide +kernel
theorem dX0_putFault_15 : decode cX0_putFault 15 = .ok (.ior, 1) := by decide +kernel
theorem dX0_putFault_16 : decode cX0_putFault 16 = .ok (.goto 11, 3) := by decide +kernel
theorem dX0_putFault_19 : decode cX0_putFault 19 = .ok (.aload_n 0, 1) := by decide +kernel
theorem dX0_putFault_20 : decode cX0_putFault 20 = .ok (.getfield 59, 3) := by decide +kernel
theorem dX0_putFault_23 : decode cX0_putFault 23 = .ok (.iload_n 3, 1) := by decide +kernel
theorem dX0_putFault_24 : decode cX0_putFault 24 = .ok (.iconst (-1), 1) := by decide +kernel
theorem dX0_putFault_25 : decode cX0_putFault 25 = .ok (.ixor, 1) := by decide +kernel
theorem dX0_putFault_26 : decode cX0_putFault 26 = .ok (.iand, 1) := by decide +kernel
theorem dX0_putFault_27 : decode cX0_putFault 27 = .ok (.putfield 59, 3) := by decide +kernel
theorem dX0_putFault_30 : decode cX0_putFault 30 = .ok (.aload_n 0, 1) := by decide +kernel
theorem dX0_putFault_31 : decode cX0_putFault 31 = .ok (.iload_n 2, 1) := by decide +kernel
theorem dX0_putFault_32 : decode cX0_putFault 32 = .ok (.iconst 2, 1) := by decide +kernel
theorem dX0_putFault_33 : decode cX0_putFault 33 = .ok (.if_icmp .ne 12, 3) := by decide +kernel
theorem dX0_putFault_36 : decode cX0_putFault 36 = .ok (.aload_n 0, 1) := by decide +kernel
theorem dX0_putFault_37 : decode cX0_putFault 37 = .ok (.getfield 62, 3) := by decide +kernel
theorem dX0_putFault_40 : decode cX0_putFault 40 = .ok (.iload_n 3, 1) := by decide +kernel
theorem dX0_putFault_41 : decode cX0_putFault 41 = .ok (.ior, 1) := by decide +kernel
theorem dX0_putFault_42 : decode cX0_putFault 42 = .ok (.goto 11, 3) := by decide +kernel
theorem dX0_putFault_45 : decode cX0_putFault 45 = .ok (.aload_n 0, 1) := by decide +kernel
theorem dX0_putFault_46 : decode cX0_putFault 46 = .ok (.getfield 62, 3) := by decide +kernel
theorem dX0_putFault_49 : decode cX0_putFault 49 = .ok (.iload_n 3, 1) := by decide +kernel
theorem dX0_putFault_50 : decode cX0_putFault 50 = .ok (.iconst (-1), 1) := by decide +kernel
theorem dX0_putFault_51 : decode cX0_putFault 51 = .ok (.ixor, 1) := by decide +kernel
theorem dX0_putFault_52 : decode cX0_putFault 52 = .ok (.iand, 1) := by decide +kernel
theorem dX0_putFault_53 : decode cX0_putFault 53 = .ok (.putfield 62, 3) := by decide +kernel
theorem dX0_putFault_56 : decode cX0_putFault 56 = .ok (.aload_n 0, 1) := by decide +kernel
theorem dX0_putFault_57 : decode cX0_putFault 57 = .ok (.invokevirtual 99, 3) := by decide +kernel
theorem dX0_putFault_60 : decode cX0_putFault 60 = .ok (.pop, 1) := by decide +kernel
theorem dX0_putFault_61 : decode cX0_putFault 61 = .ok (.return_, 1) := by decide +kernel
theorem dX0_closedContacts_0 : decode cX0_closedContacts 0 = .ok (.aload_n 0, 1) := by decide +kernel
theorem dX0_closedContacts_1 : decode cX0_closedContacts 1 = .ok (.getfield 50, 3) := by decide +kernel
theorem dX0_closedContacts_4 : decode cX0_closedContacts 4 = .ok (.aload_n 0, 1) := by decide +kernel
theorem dX0_closedContacts_5 : decode cX0_closedContacts 5 = .ok (.getfield 53, 3) := by decide +kernel
theorem dX0_closedContacts_8 : decode cX0_closedContacts 8 = .ok (.iconst (-1), 1) := by decide +kernel
theorem dX0_closedContacts_9 : decode cX0_closedContacts 9 = .ok (.ixor, 1) := by decide +kernel
theorem dX0_closedContacts_10 : decode cX0_closedContacts 10 = .ok (.iand, 1) := by decide +kernel
theorem dX0_closedContacts_11 : decode cX0_closedContacts 11 = .ok (.aload_n 0, 1) := by decide +kernel
theorem dX0_closedContacts_12 : decode cX0_closedContacts 12 = .ok (.getfield 59, 3) := by decide +kernel
theorem dX0_closedContacts_15 : decode cX0_closedContacts 15 = .ok (.iconst (-1), 1) := by decide +kernel
theorem dX0_closedContacts_16 : decode cX0_closedContacts 16 = .ok (.ixor, 1) := by decide +kernel
theorem dX0_closedContacts_17 : decode cX0_closedContacts 17 = .ok (.iand, 1) := by decide +kernel
theorem dX0_closedContacts_18 : decode cX0_closedContacts 18 = .ok (.aload_n 0, 1) := by decide +kernel
theorem dX0_closedContacts_19 : decode cX0_closedContacts 19 = .ok (.getfield 62, 3) := by decide +kernel
theorem dX0_closedContacts_22 : decode cX0_closedContacts 22 = .ok (.ior, 1) := by decide +kernel
theorem dX0_closedContacts_23 : decode cX0_closedContacts 23 = .ok (.ireturn, 1) := by decide +kernel
theorem dX0_failing_0 : decode cX0_failing 0 = .ok (.aload_n 0, 1) := by decide +kernel
theorem dX0_failing_1 : decode cX0_failing 1 = .ok (.getfield 44, 3) := by decide +kernel
theorem dX0_failing_4 : decode cX0_failing 4 = .ok (.aload_n 0, 1) := by decide +kernel
theorem dX0_failing_5 : decode cX0_failing 5 = .ok (.invokevirtual 110, 3) := by decide +kernel
theorem dX0_failing_8 : decode cX0_failing 8 = .ok (.bipush 8, 2) := by decide +kernel
theorem dX0_failing_10 : decode cX0_failing 10 = .ok (.ishl, 1) := by decide +kernel
theorem dX0_failing_11 : decode cX0_failing 11 = .ok (.ior, 1) := by decide +kernel
theorem dX0_failing_12 : decode cX0_failing 12 = .ok (.istore_n 1, 1) := by decide +kernel
theorem dX0_failing_13 : decode cX0_failing 13 = .ok (.iload_n 1, 1) := by decide +kernel
theorem dX0_failing_14 : decode cX0_failing 14 = .ok (.bipush 16, 2) := by decide +kernel
theorem dX0_failing_16 : decode cX0_failing 16 = .ok (.ishl, 1) := by decide +kernel
theorem dX0_failing_17 : decode cX0_failing 17 = .ok (.iload_n 1, 1) := by decide +kernel
theorem dX0_failing_18 : decode cX0_failing 18 = .ok (.iconst (-1), 1) := by decide +kernel
theorem dX0_failing_19 : decode cX0_failing 19 = .ok (.ixor, 1) := by decide +kernel
theorem dX0_failing_20 : decode cX0_failing 20 = .ok (.ldc 113, 2) := by decide +kernel
theorem dX0_failing_22 : decode cX0_failing 22 = .ok (.iand, 1) := by decide +kernel
theorem dX0_failing_23 : decode cX0_failing 23 = .ok (.ior, 1) := by decide +kernel
theorem dX0_failing_24 : decode cX0_failing 24 = .ok (.ireturn, 1) := by decide +kernel
theorem dX0_conducts_0 : decode cX0_conducts 0 = .ok (.iload_n 1, 1) := by decide +kernel
theorem dX0_conducts_1 : decode cX0_conducts 1 = .ok (.bipush 6, 2) := by decide +kernel
theorem dX0_conducts_3 : decode cX0_conducts 3 = .ok (.imul, 1) := by decide +kernel
theorem dX0_conducts_4 : decode cX0_conducts 4 = .ok (.istore_n 3, 1) := by decide +kernel
theorem dX0_conducts_5 : decode cX0_conducts 5 = .ok (.aload_n 0, 1) := by decide +kernel
theorem dX0_conducts_6 : decode cX0_conducts 6 = .ok (.getfield 21, 3) := by decide +kernel
theorem dX0_conducts_9 : decode cX0_conducts 9 = .ok (.iload_n 1, 1) := by decide +kernel
theorem dX0_conducts_10 : decode cX0_conducts 10 = .ok (.invokestatic 73, 3) := by decide +kernel
theorem dX0_conducts_13 : decode cX0_conducts 13 = .ok (.istore 4, 2) := by decide +kernel
theorem dX0_conducts_15 : decode cX0_conducts 15 = .ok (.iconst 0, 1) := by decide +kernel
theorem dX0_conducts_16 : decode cX0_conducts 16 = .ok (.istore 5, 2) := by decide +kernel
theorem dX0_conducts_18 : decode cX0_conducts 18 = .ok (.iload 5, 2) := by decide +kernel
theorem dX0_conducts_20 : decode cX0_conducts 20 = .ok (.iload 4, 2) := by decide +kernel
theorem dX0_conducts_22 : decode cX0_conducts 22 = .ok (.if_icmp .ge 27, 3) := by decide +kernel
theorem dX0_conducts_25 : decode cX0_conducts 25 = .ok (.aload_n 0, 1) := by decide +kernel
theorem dX0_conducts_26 : decode cX0_conducts 26 = .ok (.getfield 24, 3) := by decide +kernel
theorem dX0_conducts_29 : decode cX0_conducts 29 = .ok (.iload_n 3, 1) := by decide +kernel
theorem dX0_conducts_30 : decode cX0_conducts 30 = .ok (.iload 5, 2) := by decide +kernel
theorem dX0_conducts_32 : decode cX0_conducts 32 = .ok (.iadd, 1) := by decide +kernel
theorem dX0_conducts_33 : decode cX0_conducts 33 = .ok (.invokestatic 73, 3) := by decide +kernel
theorem dX0_conducts_36 : decode cX0_conducts 36 = .ok (.iload_n 2, 1) := by decide +kernel
theorem dX0_conducts_37 : decode cX0_conducts 37 = .ok (.iand, 1) := by decide +kernel
theorem dX0_conducts_38 : decode cX0_conducts 38 = .ok (.ifCond .ne 5, 3) := by decide +kernel
theorem dX0_conducts_41 : decode cX0_conducts 41 = .ok (.iconst 1, 1) := by decide +kernel
theorem dX0_conducts_42 : decode cX0_conducts 42 = .ok (.ireturn, 1) := by decide +kernel
theorem dX0_conducts_43 : decode cX0_conducts 43 = .ok (.iinc 5 1, 3) := by decide +kernel
theorem dX0_conducts_46 : decode cX0_conducts 46 = .ok (.goto (-28), 3) := by decide +kernel
theorem dX0_conducts_49 : decode cX0_conducts 49 = .ok (.iconst 0, 1) := by decide +kernel
theorem dX0_conducts_50 : decode cX0_conducts 50 = .ok (.ireturn, 1) := by decide +kernel
theorem dX0_isStable_0 : decode cX0_isStable 0 = .ok (.aload_n 0, 1) := by decide +kernel
theorem dX0_isStable_1 : decode cX0_isStable 1 = .ok (.invokevirtual 114, 3) := by decide +kernel
theorem dX0_isStable_4 : decode cX0_isStable 4 = .ok (.istore_n 1, 1) := by decide +kernel
theorem dX0_isStable_5 : decode cX0_isStable 5 = .ok (.iconst 0, 1) := by decide +kernel
theorem dX0_isStable_6 : decode cX0_isStable 6 = .ok (.istore_n 2, 1) := by decide +kernel
theorem dX0_isStable_7 : decode cX0_isStable 7 = .ok (.iload_n 2, 1) := by decide +kernel
theorem dX0_isStable_8 : decode cX0_isStable 8 = .ok (.aload_n 0, 1) := by decide +kernel
theorem dX0_isStable_9 : decode cX0_isStable 9 = .ok (.getfield 37, 3) := by decide +kernel
theorem dX0_isStable_12 : decode cX0_isStable 12 = .ok (.if_icmp .ge 39, 3) := by decide +kernel
theorem dX0_isStable_15 : decode cX0_isStable 15 = .ok (.aload_n 0, 1) := by decide +kernel
theorem dX0_isStable_16 : decode cX0_isStable 16 = .ok (.getfield 56, 3) := by decide +kernel
theorem dX0_isStable_19 : decode cX0_isStable 19 = .ok (.iload_n 2, 1) := by decide +kernel
theorem dX0_isStable_20 : decode cX0_isStable 20 = .ok (.invokestatic 106, 3) := by decide +kernel
theorem dX0_isStable_23 : decode cX0_isStable 23 = .ok (.ifCond .ne 22, 3) := by decide +kernel
theorem dX0_isStable_26 : decode cX0_isStable 26 = .ok (.aload_n 0, 1) := by decide +kernel
theorem dX0_isStable_27 : decode cX0_isStable 27 = .ok (.iload_n 2, 1) := by decide +kernel
theorem dX0_isStable_28 : decode cX0_isStable 28 = .ok (.iload_n 1, 1) := by decide +kernel
theorem dX0_isStable_29 : decode cX0_isStable 29 = .ok (.invokevirtual 117, 3) := by decide +kernel
theorem dX0_isStable_32 : decode cX0_isStable 32 = .ok (.aload_n 0, 1) := by decide +kernel
theorem dX0_isStable_33 : decode cX0_isStable 33 = .ok (.getfield 50, 3) := by decide +kernel
theorem dX0_isStable_36 : decode cX0_isStable 36 = .ok (.iload_n 2, 1) := by decide +kernel
theorem dX0_isStable_37 : decode cX0_isStable 37 = .ok (.invokestatic 106, 3) := by decide +kernel
theorem dX0_isStable_40 : decode cX0_isStable 40 = .ok (.if_icmp .eq 5, 3) := by decide +kernel
theorem dX0_isStable_43 : decode cX0_isStable 43 = .ok (.iconst 0, 1) := by decide +kernel
theorem dX0_isStable_44 : decode cX0_isStable 44 = .ok (.ireturn, 1) := by decide +kernel
theorem dX0_isStable_45 : decode cX0_isStable 45 = .ok (.iinc 2 1, 3) := by decide +kernel
theorem dX0_isStable_48 : decode cX0_isStable 48 = .ok (.goto (-41), 3) := by decide +kernel
theorem dX0_isStable_51 : decode cX0_isStable 51 = .ok (.iconst 1, 1) := by decide +kernel
theorem dX0_isStable_52 : decode cX0_isStable 52 = .ok (.ireturn, 1) := by decide +kernel
theorem dX0_lookAtCoils_0 : decode cX0_lookAtCoils 0 = .ok (.aload_n 0, 1) := by decide +kernel
theorem dX0_lookAtCoils_1 : decode cX0_lookAtCoils 1 = .ok (.invokevirtual 114, 3) := by decide +kernel
theorem dX0_lookAtCoils_4 : decode cX0_lookAtCoils 4 = .ok (.istore_n 1, 1) := by decide +kernel
theorem dX0_lookAtCoils_5 : decode cX0_lookAtCoils 5 = .ok (.iconst 0, 1) := by decide +kernel
theorem dX0_lookAtCoils_6 : decode cX0_lookAtCoils 6 = .ok (.istore_n 2, 1) := by decide +kernel
theorem dX0_lookAtCoils_7 : decode cX0_lookAtCoils 7 = .ok (.iconst 0, 1) := by decide +kernel
theorem dX0_lookAtCoils_8 : decode cX0_lookAtCoils 8 = .ok (.istore_n 3, 1) := by decide +kernel
theorem dX0_lookAtCoils_9 : decode cX0_lookAtCoils 9 = .ok (.iload_n 3, 1) := by decide +kernel
theorem dX0_lookAtCoils_10 : decode cX0_lookAtCoils 10 = .ok (.aload_n 0, 1) := by decide +kernel
theorem dX0_lookAtCoils_11 : decode cX0_lookAtCoils 11 = .ok (.getfield 37, 3) := by decide +kernel
theorem dX0_lookAtCoils_14 : decode cX0_lookAtCoils 14 = .ok (.if_icmp .ge 34, 3) := by decide +kernel
theorem dX0_lookAtCoils_17 : decode cX0_lookAtCoils 17 = .ok (.aload_n 0, 1) := by decide +kernel
theorem dX0_lookAtCoils_18 : decode cX0_lookAtCoils 18 = .ok (.iload_n 3, 1) := by decide +kernel
theorem dX0_lookAtCoils_19 : decode cX0_lookAtCoils 19 = .ok (.iload_n 1, 1) := by decide +kernel
theorem dX0_lookAtCoils_20 : decode cX0_lookAtCoils 20 = .ok (.invokevirtual 117, 3) := by decide +kernel
theorem dX0_lookAtCoils_23 : decode cX0_lookAtCoils 23 = .ok (.aload_n 0, 1) := by decide +kernel
theorem dX0_lookAtCoils_24 : decode cX0_lookAtCoils 24 = .ok (.getfield 47, 3) := by decide +kernel
theorem dX0_lookAtCoils_27 : decode cX0_lookAtCoils 27 = .ok (.iload_n 3, 1) := by decide +kernel
theorem dX0_lookAtCoils_28 : decode cX0_lookAtCoils 28 = .ok (.invokestatic 106, 3) := by decide +kernel
theorem dX0_lookAtCoils_31 : decode cX0_lookAtCoils 31 = .ok (.if_icmp .eq 11, 3) := by decide +kernel
theorem dX0_lookAtCoils_34 : decode cX0_lookAtCoils 34 = .ok (.aload_n 0, 1) := by decide +kernel
theorem dX0_lookAtCoils_35 : decode cX0_lookAtCoils 35 = .ok (.iload_n 3, 1) := by decide +kernel
theorem dX0_lookAtCoils_36 : decode cX0_lookAtCoils 36 = .ok (.invokevirtual 120, 3) := by decide +kernel
theorem dX0_lookAtCoils_39 : decode cX0_lookAtCoils 39 = .ok (.iinc 2 1, 3) := by decide +kernel
theorem dX0_lookAtCoils_42 : decode cX0_lookAtCoils 42 = .ok (.iinc 3 1, 3) := by decide +kernel
theorem dX0_lookAtCoils_45 : decode cX0_lookAtCoils 45 = .ok (.goto (-36), 3) := by decide +kernel
theorem dX0_lookAtCoils_48 : decode cX0_lookAtCoils 48 = .ok (.iload_n 2, 1) := by decide +kernel
theorem dX0_lookAtCoils_49 : decode cX0_lookAtCoils 49 = .ok (.ireturn, 1) := by decide +kernel
theorem dX0_turnCoil_0 : decode cX0_turnCoil 0 = .ok (.aload_n 0, 1) := by decide +kernel
theorem dX0_turnCoil_1 : decode cX0_turnCoil 1 = .ok (.dup, 1) := by decide +kernel
theorem dX0_turnCoil_2 : decode cX0_turnCoil 2 = .ok (.getfield 47, 3) := by decide +kernel
theorem dX0_turnCoil_5 : decode cX0_turnCoil 5 = .ok (.iconst 1, 1) := by decide +kernel
theorem dX0_turnCoil_6 : decode cX0_turnCoil 6 = .ok (.iload_n 1, 1) := by decide +kernel
theorem dX0_turnCoil_7 : decode cX0_turnCoil 7 = .ok (.ishl, 1) := by decide +kernel
theorem dX0_turnCoil_8 : decode cX0_turnCoil 8 = .ok (.ixor, 1) := by decide +kernel
theorem dX0_turnCoil_9 : decode cX0_turnCoil 9 = .ok (.putfield 47, 3) := by decide +kernel
theorem dX0_turnCoil_12 : decode cX0_turnCoil 12 = .ok (.ldc 30, 2) := by decide +kernel
theorem dX0_turnCoil_14 : decode cX0_turnCoil 14 = .ok (.istore_n 2, 1) := by decide +kernel
theorem dX0_turnCoil_15 : decode cX0_turnCoil 15 = .ok (.aload_n 0, 1) := by decide +kernel
theorem dX0_turnCoil_16 : decode cX0_turnCoil 16 = .ok (.getfield 47, 3) := by decide +kernel
theorem dX0_turnCoil_19 : decode cX0_turnCoil 19 = .ok (.aload_n 0, 1) := by decide +kernel
theorem dX0_turnCoil_20 : decode cX0_turnCoil 20 = .ok (.getfield 50, 3) := by decide +kernel
theorem dX0_turnCoil_23 : decode cX0_turnCoil 23 = .ok (.ixor, 1) := by decide +kernel
theorem dX0_turnCoil_24 : decode cX0_turnCoil 24 = .ok (.iload_n 1, 1) := by decide +kernel
theorem dX0_turnCoil_25 : decode cX0_turnCoil 25 = .ok (.invokestatic 106, 3) := by decide +kernel
theorem dX0_turnCoil_28 : decode cX0_turnCoil 28 = .ok (.ifCond .eq 35, 3) := by decide +kernel
theorem dX0_turnCoil_31 : decode cX0_turnCoil 31 = .ok (.aload_n 0, 1) := by decide +kernel
theorem dX0_turnCoil_32 : decode cX0_turnCoil 32 = .ok (.getfield 41, 3) := by decide +kernel
theorem dX0_turnCoil_35 : decode cX0_turnCoil 35 = .ok (.aload_n 0, 1) := by decide +kernel
theorem dX0_turnCoil_36 : decode cX0_turnCoil 36 = .ok (.getfield 47, 3) := by decide +kernel
theorem dX0_turnCoil_39 : decode cX0_turnCoil 39 = .ok (.iload_n 1, 1) := by decide +kernel
theorem dX0_turnCoil_40 : decode cX0_turnCoil 40 = .ok (.invokestatic 106, 3) := by decide +kernel
theorem dX0_turnCoil_43 : decode cX0_turnCoil 43 = .ok (.ifCond .eq 10, 3) := by decide +kernel
theorem dX0_turnCoil_46 : decode cX0_turnCoil 46 = .ok (.aload_n 0, 1) := by decide +kernel
theorem dX0_turnCoil_47 : decode cX0_turnCoil 47 = .ok (.getfield 9, 3) := by decide +kernel
theorem dX0_turnCoil_50 : decode cX0_turnCoil 50 = .ok (.goto 7, 3) := by decide +kernel
theorem dX0_turnCoil_53 : decode cX0_turnCoil 53 = .ok (.aload_n 0, 1) := by decide +kernel
theorem dX0_turnCoil_54 : decode cX0_turnCoil 54 = .ok (.getfield 15, 3) := by decide +kernel
theorem dX0_turnCoil_57 : decode cX0_turnCoil 57 = .ok (.iload_n 1, 1) := by decide +kernel
theorem dX0_turnCoil_58 : decode cX0_turnCoil 58 = .ok (.invokestatic 73, 3) := by decide +kernel
theorem dX0_turnCoil_61 : decode cX0_turnCoil 61 = .ok (.iadd, 1) := by decide +kernel
theorem dX0_turnCoil_62 : decode cX0_turnCoil 62 = .ok (.istore_n 2, 1) := by decide +kernel
theorem dX0_turnCoil_63 : decode cX0_turnCoil 63 = .ok (.aload_n 0, 1) := by decide +kernel
theorem dX0_turnCoil_64 : decode cX0_turnCoil 64 = .ok (.getfield 27, 3) := by decide +kernel
theorem dX0_turnCoil_67 : decode cX0_turnCoil 67 = .ok (.iconst 2, 1) := by decide +kernel
theorem dX0_turnCoil_68 : decode cX0_turnCoil 68 = .ok (.iload_n 1, 1) := by decide +kernel
theorem dX0_turnCoil_69 : decode cX0_turnCoil 69 = .ok (.imul, 1) := by decide +kernel
theorem dX0_turnCoil_70 : decode cX0_turnCoil 70 = .ok (.iload_n 2, 1) := by decide +kernel
theorem dX0_turnCoil_71 : decode cX0_turnCoil 71 = .ok (.invokestatic 77, 3) := by decide +kernel
theorem dX0_turnCoil_74 : decode cX0_turnCoil 74 = .ok (.return_, 1) := by decide +kernel
theorem dX0_relayOf_0 : decode cX0_relayOf 0 = .ok (.iload_n 0, 1) := by decide +kernel
theorem dX0_relayOf_1 : decode cX0_relayOf 1 = .ok (.iconst 1, 1) := by decide +kernel
theorem dX0_relayOf_2 : decode cX0_relayOf 2 = .ok (.ishr, 1) := by decide +kernel
theorem dX0_relayOf_3 : decode cX0_relayOf 3 = .ok (.ireturn, 1) := by decide +kernel
theorem dX0_isBounceEnd_0 : decode cX0_isBounceEnd 0 = .ok (.iload_n 0, 1) := by decide +kernel
theorem dX0_isBounceEnd_1 : decode cX0_isBounceEnd 1 = .ok (.iconst 1, 1) := by decide +kernel
theorem dX0_isBounceEnd_2 : decode cX0_isBounceEnd 2 = .ok (.iand, 1) := by decide +kernel
theorem dX0_isBounceEnd_3 : decode cX0_isBounceEnd 3 = .ok (.iconst 1, 1) := by decide +kernel
theorem dX0_isBounceEnd_4 : decode cX0_isBounceEnd 4 = .ok (.if_icmp .ne 7, 3) := by decide +kernel
theorem dX0_isBounceEnd_7 : decode cX0_isBounceEnd 7 = .ok (.iconst 1, 1) := by decide +kernel
theorem dX0_isBounceEnd_8 : decode cX0_isBounceEnd 8 = .ok (.goto 4, 3) := by decide +kernel
theorem dX0_isBounceEnd_11 : decode cX0_isBounceEnd 11 = .ok (.iconst 0, 1) := by decide +kernel
theorem dX0_isBounceEnd_12 : decode cX0_isBounceEnd 12 = .ok (.ireturn, 1) := by decide +kernel
theorem dX0_kindOf_0 : decode cX0_kindOf 0 = .ok (.iload_n 1, 1) := by decide +kernel
theorem dX0_kindOf_1 : decode cX0_kindOf 1 = .ok (.invokestatic 124, 3) := by decide +kernel
theorem dX0_kindOf_4 : decode cX0_kindOf 4 = .ok (.ifCond .eq 5, 3) := by decide +kernel
theorem dX0_kindOf_7 : decode cX0_kindOf 7 = .ok (.iconst 2, 1) := by decide +kernel
theorem dX0_kindOf_8 : decode cX0_kindOf 8 = .ok (.ireturn, 1) := by decide +kernel
theorem dX0_kindOf_9 : decode cX0_kindOf 9 = .ok (.aload_n 0, 1) := by decide +kernel
theorem dX0_kindOf_10 : decode cX0_kindOf 10 = .ok (.getfield 47, 3) := by decide +kernel
theorem dX0_kindOf_13 : decode cX0_kindOf 13 = .ok (.iload_n 1, 1) := by decide +kernel
theorem dX0_kindOf_14 : decode cX0_kindOf 14 = .ok (.invokestatic 128, 3) := by decide +kernel
theorem dX0_kindOf_17 : decode cX0_kindOf 17 = .ok (.invokestatic 106, 3) := by decide +kernel
theorem dX0_kindOf_20 : decode cX0_kindOf 20 = .ok (.ifCond .eq 7, 3) := by decide +kernel
theorem dX0_kindOf_23 : decode cX0_kindOf 23 = .ok (.iconst 0, 1) := by decide +kernel
theorem dX0_kindOf_24 : decode cX0_kindOf 24 = .ok (.goto 4, 3) := by decide +kernel
theorem dX0_kindOf_27 : decode cX0_kindOf 27 = .ok (.iconst 1, 1) := by decide +kernel
theorem dX0_kindOf_28 : decode cX0_kindOf 28 = .ok (.ireturn, 1) := by decide +kernel
theorem dX0_waiting_0 : decode cX0_waiting 0 = .ok (.iconst 0, 1) := by decide +kernel
theorem dX0_waiting_1 : decode cX0_waiting 1 = .ok (.istore_n 1, 1) := by decide +kernel
theorem dX0_waiting_2 : decode cX0_waiting 2 = .ok (.iconst 0, 1) := by decide +kernel
theorem dX0_waiting_3 : decode cX0_waiting 3 = .ok (.istore_n 2, 1) := by decide +kernel
theorem dX0_waiting_4 : decode cX0_waiting 4 = .ok (.iload_n 2, 1) := by decide +kernel
theorem dX0_waiting_5 : decode cX0_waiting 5 = .ok (.aload_n 0, 1) := by decide +kernel
theorem dX0_waiting_6 : decode cX0_waiting 6 = .ok (.getfield 27, 3) := by decide +kernel
theorem dX0_waiting_9 : decode cX0_waiting 9 = .ok (.arraylength, 1) := by decide +kernel
theorem dX0_waiting_10 : decode cX0_waiting 10 = .ok (.if_icmp .ge 23, 3) := by decide +kernel
theorem dX0_waiting_13 : decode cX0_waiting 13 = .ok (.aload_n 0, 1) := by decide +kernel
theorem dX0_waiting_14 : decode cX0_waiting 14 = .ok (.getfield 27, 3) := by decide +kernel
theorem dX0_waiting_17 : decode cX0_waiting 17 = .ok (.iload_n 2, 1) := by decide +kernel
theorem dX0_waiting_18 : decode cX0_waiting 18 = .ok (.iaload, 1) := by decide +kernel
theorem dX0_waiting_19 : decode cX0_waiting 19 = .ok (.ldc 30, 2) := by decide +kernel
theorem dX0_waiting_21 : decode cX0_waiting 21 = .ok (.if_icmp .eq 6, 3) := by decide +kernel
theorem dX0_waiting_24 : decode cX0_waiting 24 = .ok (.iinc 1 1, 3) := by decide +kernel
theorem dX0_waiting_27 : decode cX0_waiting 27 = .ok (.iinc 2 1, 3) := by decide +kernel
theorem dX0_waiting_30 : decode cX0_waiting 30 = .ok (.goto (-26), 3) := by decide +kernel
theorem dX0_waiting_33 : decode cX0_waiting 33 = .ok (.iload_n 1, 1) := by decide +kernel
theorem dX0_waiting_34 : decode cX0_waiting 34 = .ok (.ireturn, 1) := by decide +kernel
theorem dX0_isQuiet_0 : decode cX0_isQuiet 0 = .ok (.aload_n 0, 1) := by decide +kernel
theorem dX0_isQuiet_1 : decode cX0_isQuiet 1 = .ok (.iconst 0, 1) := by decide +kernel
theorem dX0_isQuiet_2 : decode cX0_isQuiet 2 = .ok (.invokevirtual 131, 3) := by decide +kernel
theorem dX0_isQuiet_5 : decode cX0_isQuiet 5 = .ok (.iconst (-1), 1) := by decide +kernel
theorem dX0_isQuiet_6 : decode cX0_isQuiet 6 = .ok (.if_icmp .ne 7, 3) := by decide +kernel
theorem dX0_isQuiet_9 : decode cX0_isQuiet 9 = .ok (.iconst 1, 1) := by decide +kernel
theorem dX0_isQuiet_10 : decode cX0_isQuiet 10 = .ok (.goto 4, 3) := by decide +kernel
theorem dX0_isQuiet_13 : decode cX0_isQuiet 13 = .ok (.iconst 0, 1) := by decide +kernel
theorem dX0_isQuiet_14 : decode cX0_isQuiet 14 = .ok (.ireturn, 1) := by decide +kernel
theorem dX0_nextSlot_0 : decode cX0_nextSlot 0 = .ok (.iconst (-1), 1) := by decide +kernel
theorem dX0_nextSlot_1 : decode cX0_nextSlot 1 = .ok (.istore_n 2, 1) := by decide +kernel
theorem dX0_nextSlot_2 : decode cX0_nextSlot 2 = .ok (.ldc 30, 2) := by decide +kernel
theorem dX0_nextSlot_4 : decode cX0_nextSlot 4 = .ok (.istore_n 3, 1) := by decide +kernel
theorem dX0_nextSlot_5 : decode cX0_nextSlot 5 = .ok (.iconst 0, 1) := by decide +kernel
theorem dX0_nextSlot_6 : decode cX0_nextSlot 6 = .ok (.istore 4, 2) := by decide +kernel
theorem dX0_nextSlot_8 : decode cX0_nextSlot 8 = .ok (.iload 4, 2) := by decide +kernel
theorem dX0_nextSlot_10 : decode cX0_nextSlot 10 = .ok (.aload_n 0, 1) := by decide +kernel
theorem dX0_nextSlot_11 : decode cX0_nextSlot 11 = .ok (.getfield 37, 3) := by decide +kernel
theorem dX0_nextSlot_14 : decode cX0_nextSlot 14 = .ok (.if_icmp .ge 81, 3) := by decide +kernel
theorem dX0_nextSlot_17 : decode cX0_nextSlot 17 = .ok (.iconst 2, 1) := by decide +kernel
theorem dX0_nextSlot_18 : decode cX0_nextSlot 18 = .ok (.iload_n 1, 1) := by decide +kernel
theorem dX0_nextSlot_19 : decode cX0_nextSlot 19 = .ok (.ifCond .eq 15, 3) := by decide +kernel
theorem dX0_nextSlot_22 : decode cX0_nextSlot 22 = .ok (.aload_n 0, 1) := by decide +kernel
theorem dX0_nextSlot_23 : decode cX0_nextSlot 23 = .ok (.getfield 37, 3) := by decide +kernel
theorem dX0_nextSlot_26 : decode cX0_nextSlot 26 = .ok (.iconst 1, 1) := by decide +kernel
theorem dX0_nextSlot_27 : decode cX0_nextSlot 27 = .ok (.isub, 1) := by decide +kernel
theorem dX0_nextSlot_28 : decode cX0_nextSlot 28 = .ok (.iload 4, 2) := by decide +kernel
theorem dX0_nextSlot_30 : decode cX0_nextSlot 30 = .ok (.isub, 1) := by decide +kernel
theorem dX0_nextSlot_31 : decode cX0_nextSlot 31 = .ok (.goto 5, 3) := by decide +kernel
theorem dX0_nextSlot_34 : decode cX0_nextSlot 34 = .ok (.iload 4, 2) := by decide +kernel
theorem dX0_nextSlot_36 : decode cX0_nextSlot 36 = .ok (.imul, 1) := by decide +kernel
theorem dX0_nextSlot_37 : decode cX0_nextSlot 37 = .ok (.istore 5, 2) := by decide +kernel
theorem dX0_nextSlot_39 : decode cX0_nextSlot 39 = .ok (.aload_n 0, 1) := by decide +kernel
theorem dX0_nextSlot_40 : decode cX0_nextSlot 40 = .ok (.getfield 27, 3) := by decide +kernel
theorem dX0_nextSlot_43 : decode cX0_nextSlot 43 = .ok (.iload 5, 2) := by decide +kernel
theorem dX0_nextSlot_45 : decode cX0_nextSlot 45 = .ok (.invokestatic 73, 3) := by decide +kernel
theorem dX0_nextSlot_48 : decode cX0_nextSlot 48 = .ok (.istore 6, 2) := by decide +kernel
theorem dX0_nextSlot_50 : decode cX0_nextSlot 50 = .ok (.aload_n 0, 1) := by decide +kernel
theorem dX0_nextSlot_51 : decode cX0_nextSlot 51 = .ok (.getfield 27, 3) := by decide +kernel
theorem dX0_nextSlot_54 : decode cX0_nextSlot 54 = .ok (.iload 5, 2) := by decide +kernel
theorem dX0_nextSlot_56 : decode cX0_nextSlot 56 = .ok (.iconst 1, 1) := by decide +kernel
theorem dX0_nextSlot_57 : decode cX0_nextSlot 57 = .ok (.iadd, 1) := by decide +kernel
theorem dX0_nextSlot_58 : decode cX0_nextSlot 58 = .ok (.invokestatic 73, 3) := by decide +kernel
theorem dX0_nextSlot_61 : decode cX0_nextSlot 61 = .ok (.istore 7, 2) := by decide +kernel
theorem dX0_nextSlot_63 : decode cX0_nextSlot 63 = .ok (.iload 6, 2) := by decide +kernel
theorem dX0_nextSlot_65 : decode cX0_nextSlot 65 = .ok (.iload_n 3, 1) := by decide +kernel
theorem dX0_nextSlot_66 : decode cX0_nextSlot 66 = .ok (.if_icmp .ge 9, 3) := by decide +kernel
theorem dX0_nextSlot_69 : decode cX0_nextSlot 69 = .ok (.iload 5, 2) := by decide +kernel
theorem dX0_nextSlot_71 : decode cX0_nextSlot 71 = .ok (.istore_n 2, 1) := by decide +kernel
theorem dX0_nextSlot_72 : decode cX0_nextSlot 72 = .ok (.iload 6, 2) := by decide +kernel
theorem dX0_nextSlot_74 : decode cX0_nextSlot 74 = .ok (.istore_n 3, 1) := by decide +kernel
theorem dX0_nextSlot_75 : decode cX0_nextSlot 75 = .ok (.iload 7, 2) := by decide +kernel
theorem dX0_nextSlot_77 : decode cX0_nextSlot 77 = .ok (.iload_n 3, 1) := by decide +kernel
theorem dX0_nextSlot_78 : decode cX0_nextSlot 78 = .ok (.if_icmp .ge 11, 3) := by decide +kernel
theorem dX0_nextSlot_81 : decode cX0_nextSlot 81 = .ok (.iload 5, 2) := by decide +kernel
theorem dX0_nextSlot_83 : decode cX0_nextSlot 83 = .ok (.iconst 1, 1) := by decide +kernel
theorem dX0_nextSlot_84 : decode cX0_nextSlot 84 = .ok (.iadd, 1) := by decide +kernel
theorem dX0_nextSlot_85 : decode cX0_nextSlot 85 = .ok (.istore_n 2, 1) := by decide +kernel
theorem dX0_nextSlot_86 : decode cX0_nextSlot 86 = .ok (.iload 7, 2) := by decide +kernel
theorem dX0_nextSlot_88 : decode cX0_nextSlot 88 = .ok (.istore_n 3, 1) := by decide +kernel
theorem dX0_nextSlot_89 : decode cX0_nextSlot 89 = .ok (.iinc 4 1, 3) := by decide +kernel
theorem dX0_nextSlot_92 : decode cX0_nextSlot 92 = .ok (.goto (-84), 3) := by decide +kernel
theorem dX0_nextSlot_95 : decode cX0_nextSlot 95 = .ok (.iload_n 2, 1) := by decide +kernel
theorem dX0_nextSlot_96 : decode cX0_nextSlot 96 = .ok (.ireturn, 1) := by decide +kernel
theorem dX0_slotAt_0 : decode cX0_slotAt 0 = .ok (.iconst 0, 1) := by decide +kernel
theorem dX0_slotAt_1 : decode cX0_slotAt 1 = .ok (.istore_n 2, 1) := by decide +kernel
theorem dX0_slotAt_2 : decode cX0_slotAt 2 = .ok (.iload_n 2, 1) := by decide +kernel
theorem dX0_slotAt_3 : decode cX0_slotAt 3 = .ok (.aload_n 0, 1) := by decide +kernel
theorem dX0_slotAt_4 : decode cX0_slotAt 4 = .ok (.getfield 27, 3) := by decide +kernel
theorem dX0_slotAt_7 : decode cX0_slotAt 7 = .ok (.arraylength, 1) := by decide +kernel
theorem dX0_slotAt_8 : decode cX0_slotAt 8 = .ok (.if_icmp .ge 31, 3) := by decide +kernel
theorem dX0_slotAt_11 : decode cX0_slotAt 11 = .ok (.aload_n 0, 1) := by decide +kernel
theorem dX0_slotAt_12 : decode cX0_slotAt 12 = .ok (.getfield 27, 3) := by decide +kernel
theorem dX0_slotAt_15 : decode cX0_slotAt 15 = .ok (.iload_n 2, 1) := by decide +kernel
theorem dX0_slotAt_16 : decode cX0_slotAt 16 = .ok (.iaload, 1) := by decide +kernel
theorem dX0_slotAt_17 : decode cX0_slotAt 17 = .ok (.ldc 30, 2) := by decide +kernel
theorem dX0_slotAt_19 : decode cX0_slotAt 19 = .ok (.if_icmp .eq 14, 3) := by decide +kernel
theorem dX0_slotAt_22 : decode cX0_slotAt 22 = .ok (.aload_n 0, 1) := by decide +kernel
theorem dX0_slotAt_23 : decode cX0_slotAt 23 = .ok (.iload_n 2, 1) := by decide +kernel
theorem dX0_slotAt_24 : decode cX0_slotAt 24 = .ok (.invokevirtual 135, 3) := by decide +kernel
theorem dX0_slotAt_27 : decode cX0_slotAt 27 = .ok (.iload_n 1, 1) := by decide +kernel
theorem dX0_slotAt_28 : decode cX0_slotAt 28 = .ok (.if_icmp .ne 5, 3) := by decide +kernel
theorem dX0_slotAt_31 : decode cX0_slotAt 31 = .ok (.iload_n 2, 1) := by decide +kernel
theorem dX0_slotAt_32 : decode cX0_slotAt 32 = .ok (.ireturn, 1) := by decide +kernel
theorem dX0_slotAt_33 : decode cX0_slotAt 33 = .ok (.iinc 2 1, 3) := by decide +kernel
theorem dX0_slotAt_36 : decode cX0_slotAt 36 = .ok (.goto (-34), 3) := by decide +kernel
theorem dX0_slotAt_39 : decode cX0_slotAt 39 = .ok (.iconst (-1), 1) := by decide +kernel
theorem dX0_slotAt_40 : decode cX0_slotAt 40 = .ok (.ireturn, 1) := by decide +kernel
theorem dX0_eventsBefore_0 : decode cX0_eventsBefore 0 = .ok (.aload_n 0, 1) := by decide +kernel
theorem dX0_eventsBefore_1 : decode cX0_eventsBefore 1 = .ok (.getfield 27, 3) := by decide +kernel
theorem dX0_eventsBefore_4 : decode cX0_eventsBefore 4 = .ok (.iload_n 1, 1) := by decide +kernel
theorem dX0_eventsBefore_5 : decode cX0_eventsBefore 5 = .ok (.invokestatic 73, 3) := by decide +kernel
theorem dX0_eventsBefore_8 : decode cX0_eventsBefore 8 = .ok (.istore_n 2, 1) := by decide +kernel
theorem dX0_eventsBefore_9 : decode cX0_eventsBefore 9 = .ok (.iconst 0, 1) := by decide +kernel
theorem dX0_eventsBefore_10 : decode cX0_eventsBefore 10 = .ok (.istore_n 3, 1) := by decide +kernel
theorem dX0_eventsBefore_11 : decode cX0_eventsBefore 11 = .ok (.iconst 0, 1) := by decide +kernel
theorem dX0_eventsBefore_12 : decode cX0_eventsBefore 12 = .ok (.istore 4, 2) := by decide +kernel
theorem dX0_eventsBefore_14 : decode cX0_eventsBefore 14 = .ok (.iload 4, 2) := by decide +kernel
theorem dX0_eventsBefore_16 : decode cX0_eventsBefore 16 = .ok (.aload_n 0, 1) := by decide +kernel
theorem dX0_eventsBefore_17 : decode cX0_eventsBefore 17 = .ok (.getfield 27, 3) := by decide +kernel
theorem dX0_eventsBefore_20 : decode cX0_eventsBefore 20 = .ok (.arraylength, 1) := by decide +kernel
theorem dX0_eventsBefore_21 : decode cX0_eventsBefore 21 = .ok (.if_icmp .ge 40, 3) := by decide +kernel
theorem dX0_eventsBefore_24 : decode cX0_eventsBefore 24 = .ok (.aload_n 0, 1) := by decide +kernel
theorem dX0_eventsBefore_25 : decode cX0_eventsBefore 25 = .ok (.getfield 27, 3) := by decide +kernel
theorem dX0_eventsBefore_28 : decode cX0_eventsBefore 28 = .ok (.iload 4, 2) := by decide +kernel
theorem dX0_eventsBefore_30 : decode cX0_eventsBefore 30 = .ok (.iaload, 1) := by decide +kernel
theorem dX0_eventsBefore_31 : decode cX0_eventsBefore 31 = .ok (.iload_n 2, 1) := by decide +kernel
theorem dX0_eventsBefore_32 : decode cX0_eventsBefore 32 = .ok (.if_icmp .lt 20, 3) := by decide +kernel
theorem dX0_eventsBefore_35 : decode cX0_eventsBefore 35 = .ok (.aload_n 0, 1) := by decide +kernel
theorem dX0_eventsBefore_36 : decode cX0_eventsBefore 36 = .ok (.getfield 27, 3) := by decide +kernel
theorem dX0_eventsBefore_39 : decode cX0_eventsBefore 39 = .ok (.iload 4, 2) := by decide +kernel
theorem dX0_eventsBefore_41 : decode cX0_eventsBefore 41 = .ok (.iaload, 1) := by decide +kernel
theorem dX0_eventsBefore_42 : decode cX0_eventsBefore 42 = .ok (.iload_n 2, 1) := by decide +kernel
theorem dX0_eventsBefore_43 : decode cX0_eventsBefore 43 = .ok (.if_icmp .ne 12, 3) := by decide +kernel
theorem dX0_eventsBefore_46 : decode cX0_eventsBefore 46 = .ok (.iload 4, 2) := by decide +kernel
theorem dX0_eventsBefore_48 : decode cX0_eventsBefore 48 = .ok (.iload_n 1, 1) := by decide +kernel
theorem dX0_eventsBefore_49 : decode cX0_eventsBefore 49 = .ok (.if_icmp .ge 6, 3) := by decide +kernel
theorem dX0_eventsBefore_52 : decode cX0_eventsBefore 52 = .ok (.iinc 3 1, 3) := by decide +kernel
theorem dX0_eventsBefore_55 : decode cX0_eventsBefore 55 = .ok (.iinc 4 1, 3) := by decide +kernel
theorem dX0_eventsBefore_58 : decode cX0_eventsBefore 58 = .ok (.goto (-44), 3) := by decide +kernel
theorem dX0_eventsBefore_61 : decode cX0_eventsBefore 61 = .ok (.iload_n 3, 1) := by decide +kernel
theorem dX0_eventsBefore_62 : decode cX0_eventsBefore 62 = .ok (.ireturn, 1) := by decide +kernel
theorem dX0_happen_0 : decode cX0_happen 0 = .ok (.iload_n 1, 1) := by decide +kernel
theorem dX0_happen_1 : decode cX0_happen 1 = .ok (.invokestatic 128, 3) := by decide +kernel
theorem dX0_happen_4 : decode cX0_happen 4 = .ok (.istore_n 2, 1) := by decide +kernel
theorem dX0_happen_5 : decode cX0_happen 5 = .ok (.aload_n 0, 1) := by decide +kernel
theorem dX0_happen_6 : decode cX0_happen 6 = .ok (.aload_n 0, 1) := by decide +kernel
theorem dX0_happen_7 : decode cX0_happen 7 = .ok (.getfield 27, 3) := by decide +kernel
theorem dX0_happen_10 : decode cX0_happen 10 = .ok (.iload_n 1, 1) := by decide +kernel
theorem dX0_happen_11 : decode cX0_happen 11 = .ok (.invokestatic 73, 3) := by decide +kernel
theorem dX0_happen_14 : decode cX0_happen 14 = .ok (.putfield 41, 3) := by decide +kernel
theorem dX0_happen_17 : decode cX0_happen 17 = .ok (.aload_n 0, 1) := by decide +kernel
theorem dX0_happen_18 : decode cX0_happen 18 = .ok (.getfield 27, 3) := by decide +kernel
theorem dX0_happen_21 : decode cX0_happen 21 = .ok (.iload_n 1, 1) := by decide +kernel
theorem dX0_happen_22 : decode cX0_happen 22 = .ok (.ldc 30, 2) := by decide +kernel
theorem dX0_happen_24 : decode cX0_happen 24 = .ok (.invokestatic 77, 3) := by decide +kernel
theorem dX0_happen_27 : decode cX0_happen 27 = .ok (.iload_n 1, 1) := by decide +kernel
theorem dX0_happen_28 : decode cX0_happen 28 = .ok (.invokestatic 124, 3) := by decide +kernel
theorem dX0_happen_31 : decode cX0_happen 31 = .ok (.ifCond .eq 20, 3) := by decide +kernel
theorem dX0_happen_34 : decode cX0_happen 34 = .ok (.aload_n 0, 1) := by decide +kernel
theorem dX0_happen_35 : decode cX0_happen 35 = .ok (.dup, 1) := by decide +kernel
theorem dX0_happen_36 : decode cX0_happen 36 = .ok (.getfield 53, 3) := by decide +kernel
theorem dX0_happen_39 : decode cX0_happen 39 = .ok (.iconst 1, 1) := by decide +kernel
theorem dX0_happen_40 : decode cX0_happen 40 = .ok (.iload_n 2, 1) := by decide +kernel
theorem dX0_happen_41 : decode cX0_happen 41 = .ok (.ishl, 1) := by decide +kernel
theorem dX0_happen_42 : decode cX0_happen 42 = .ok (.iconst (-1), 1) := by decide +kernel
theorem dX0_happen_43 : decode cX0_happen 43 = .ok (.ixor, 1) := by decide +kernel
theorem dX0_happen_44 : decode cX0_happen 44 = .ok (.iand, 1) := by decide +kernel
theorem dX0_happen_45 : decode cX0_happen 45 = .ok (.putfield 53, 3) := by decide +kernel
theorem dX0_happen_48 : decode cX0_happen 48 = .ok (.goto 19, 3) := by decide +kernel
theorem dX0_happen_51 : decode cX0_happen 51 = .ok (.aload_n 0, 1) := by decide +kernel
theorem dX0_happen_52 : decode cX0_happen 52 = .ok (.getfield 56, 3) := by decide +kernel
theorem dX0_happen_55 : decode cX0_happen 55 = .ok (.iload_n 2, 1) := by decide +kernel
theorem dX0_happen_56 : decode cX0_happen 56 = .ok (.invokestatic 106, 3) := by decide +kernel
theorem dX0_happen_59 : decode cX0_happen 59 = .ok (.ifCond .ne 8, 3) := by decide +kernel
theorem dX0_happen_62 : decode cX0_happen 62 = .ok (.aload_n 0, 1) := by decide +kernel
theorem dX0_happen_63 : decode cX0_happen 63 = .ok (.iload_n 2, 1) := by decide +kernel
theorem dX0_happen_64 : decode cX0_happen 64 = .ok (.invokevirtual 138, 3) := by decide +kernel
theorem dX0_happen_67 : decode cX0_happen 67 = .ok (.aload_n 0, 1) := by decide +kernel
theorem dX0_happen_68 : decode cX0_happen 68 = .ok (.invokevirtual 99, 3) := by decide +kernel
theorem dX0_happen_71 : decode cX0_happen 71 = .ok (.pop, 1) := by decide +kernel
theorem dX0_happen_72 : decode cX0_happen 72 = .ok (.return_, 1) := by decide +kernel
theorem dX0_moveArmature_0 : decode cX0_moveArmature 0 = .ok (.aload_n 0, 1) := by decide +kernel
theorem dX0_moveArmature_1 : decode cX0_moveArmature 1 = .ok (.dup, 1) := by decide +kernel
theorem dX0_moveArmature_2 : decode cX0_moveArmature 2 = .ok (.getfield 50, 3) := by decide +kernel
theorem dX0_moveArmature_5 : decode cX0_moveArmature 5 = .ok (.iconst 1, 1) := by decide +kernel
theorem dX0_moveArmature_6 : decode cX0_moveArmature 6 = .ok (.iload_n 1, 1) := by decide +kernel
theorem dX0_moveArmature_7 : decode cX0_moveArmature 7 = .ok (.ishl, 1) := by decide +kernel
theorem dX0_moveArmature_8 : decode cX0_moveArmature 8 = .ok (.ixor, 1) := by decide +kernel
theorem dX0_moveArmature_9 : decode cX0_moveArmature 9 = .ok (.putfield 50, 3) := by decide +kernel
theorem dX0_moveArmature_12 : decode cX0_moveArmature 12 = .ok (.aload_n 0, 1) := by decide +kernel
theorem dX0_moveArmature_13 : decode cX0_moveArmature 13 = .ok (.getfield 18, 3) := by decide +kernel
theorem dX0_moveArmature_16 : decode cX0_moveArmature 16 = .ok (.iload_n 1, 1) := by decide +kernel
theorem dX0_moveArmature_17 : decode cX0_moveArmature 17 = .ok (.invokestatic 73, 3) := by decide +kernel
theorem dX0_moveArmature_20 : decode cX0_moveArmature 20 = .ok (.istore_n 2, 1) := by decide +kernel
theorem dX0_moveArmature_21 : decode cX0_moveArmature 21 = .ok (.iload_n 2, 1) := by decide +kernel
theorem dX0_moveArmature_22 : decode cX0_moveArmature 22 = .ok (.ifCond .le 33, 3) := by decide +kernel
theorem dX0_moveArmature_25 : decode cX0_moveArmature 25 = .ok (.aload_n 0, 1) := by decide +kernel
theorem dX0_moveArmature_26 : decode cX0_moveArmature 26 = .ok (.dup, 1) := by decide +kernel
theorem dX0_moveArmature_27 : decode cX0_moveArmature 27 = .ok (.getfield 53, 3) := by decide +kernel
theorem dX0_moveArmature_30 : decode cX0_moveArmature 30 = .ok (.iconst 1, 1) := by decide +kernel
theorem dX0_moveArmature_31 : decode cX0_moveArmature 31 = .ok (.iload_n 1, 1) := by decide +kernel
theorem dX0_moveArmature_32 : decode cX0_moveArmature 32 = .ok (.ishl, 1) := by decide +kernel
theorem dX0_moveArmature_33 : decode cX0_moveArmature 33 = .ok (.ior, 1) := by decide +kernel
theorem dX0_moveArmature_34 : decode cX0_moveArmature 34 = .ok (.putfield 53, 3) := by decide +kernel
theorem dX0_moveArmature_37 : decode cX0_moveArmature 37 = .ok (.aload_n 0, 1) := by decide +kernel
theorem dX0_moveArmature_38 : decode cX0_moveArmature 38 = .ok (.getfield 27, 3) := by decide +kernel
theorem dX0_moveArmature_41 : decode cX0_moveArmature 41 = .ok (.iconst 2, 1) := by decide +kernel
theorem dX0_moveArmature_42 : decode cX0_moveArmature 42 = .ok (.iload_n 1, 1) := by decide +kernel
theorem dX0_moveArmature_43 : decode cX0_moveArmature 43 = .ok (.imul, 1) := by decide +kernel
theorem dX0_moveArmature_44 : decode cX0_moveArmature 44 = .ok (.iconst 1, 1) := by decide +kernel
theorem dX0_moveArmature_45 : decode cX0_moveArmature 45 = .ok (.iadd, 1) := by decide +kernel
theorem dX0_moveArmature_46 : decode cX0_moveArmature 46 = .ok (.aload_n 0, 1) := by decide +kernel
theorem dX0_moveArmature_47 : decode cX0_moveArmature 47 = .ok (.getfield 41, 3) := by decide +kernel
theorem dX0_moveArmature_50 : decode cX0_moveArmature 50 = .ok (.iload_n 2, 1) := by decide +kernel
theorem dX0_moveArmature_51 : decode cX0_moveArmature 51 = .ok (.iadd, 1) := by decide +kernel
theorem dX0_moveArmature_52 : decode cX0_moveArmature 52 = .ok (.invokestatic 77, 3) := by decide +kernel
theorem dX0_moveArmature_55 : decode cX0_moveArmature 55 = .ok (.return_, 1) := by decide +kernel
theorem dX0_run_0 : decode cX0_run 0 = .ok (.iconst 0, 1) := by decide +kernel
theorem dX0_run_1 : decode cX0_run 1 = .ok (.istore 4, 2) := by decide +kernel
theorem dX0_run_3 : decode cX0_run 3 = .ok (.iload 4, 2) := by decide +kernel
theorem dX0_run_5 : decode cX0_run 5 = .ok (.iload_n 1, 1) := by decide +kernel
theorem dX0_run_6 : decode cX0_run 6 = .ok (.if_icmp .ge 44, 3) := by decide +kernel
theorem dX0_run_9 : decode cX0_run 9 = .ok (.aload_n 0, 1) := by decide +kernel
theorem dX0_run_10 : decode cX0_run 10 = .ok (.iload_n 3, 1) := by decide +kernel
theorem dX0_run_11 : decode cX0_run 11 = .ok (.invokevirtual 131, 3) := by decide +kernel
theorem dX0_run_14 : decode cX0_run 14 = .ok (.istore 5, 2) := by decide +kernel
theorem dX0_run_16 : decode cX0_run 16 = .ok (.iload 5, 2) := by decide +kernel
theorem dX0_run_18 : decode cX0_run 18 = .ok (.iconst (-1), 1) := by decide +kernel
theorem dX0_run_19 : decode cX0_run 19 = .ok (.if_icmp .eq 16, 3) := by decide +kernel
theorem dX0_run_22 : decode cX0_run 22 = .ok (.aload_n 0, 1) := by decide +kernel
theorem dX0_run_23 : decode cX0_run 23 = .ok (.getfield 27, 3) := by decide +kernel
theorem dX0_run_26 : decode cX0_run 26 = .ok (.iload 5, 2) := by decide +kernel
theorem dX0_run_28 : decode cX0_run 28 = .ok (.invokestatic 73, 3) := by decide +kernel
theorem dX0_run_31 : decode cX0_run 31 = .ok (.iload_n 2, 1) := by decide +kernel
theorem dX0_run_32 : decode cX0_run 32 = .ok (.if_icmp .le 6, 3) := by decide +kernel
theorem dX0_run_35 : decode cX0_run 35 = .ok (.iload 4, 2) := by decide +kernel
theorem dX0_run_37 : decode cX0_run 37 = .ok (.ireturn, 1) := by decide +kernel
theorem dX0_run_38 : decode cX0_run 38 = .ok (.aload_n 0, 1) := by decide +kernel
theorem dX0_run_39 : decode cX0_run 39 = .ok (.iload 5, 2) := by decide +kernel
theorem dX0_run_41 : decode cX0_run 41 = .ok (.invokevirtual 141, 3) := by decide +kernel
theorem dX0_run_44 : decode cX0_run 44 = .ok (.iinc 4 1, 3) := by decide +kernel
theorem dX0_run_47 : decode cX0_run 47 = .ok (.goto (-44), 3) := by decide +kernel
theorem dX0_run_50 : decode cX0_run 50 = .ok (.iload_n 1, 1) := by decide +kernel
theorem dX0_run_51 : decode cX0_run 51 = .ok (.ireturn, 1) := by decide +kernel
end
section
theorem dX1_bit_0 : decode cX1_bit 0 = .ok (.iload_n 1, 1) := by decide +kernel
theorem dX1_bit_1 : decode cX1_bit 1 = .ok (.lookupswitch 38 #[(1, 27), (2, 31)], 27) := by decide +kernel
theorem dX1_bit_28 : decode cX1_bit 28 = .ok (.iconst 1, 1) := by decide +kernel
theorem dX1_bit_29 : decode cX1_bit 29 = .ok (.iload_n 0, 1) := by decide +kernel
theorem dX1_bit_30 : decode cX1_bit 30 = .ok (.ishl, 1) := by decide +kernel
theorem dX1_bit_31 : decode cX1_bit 31 = .ok (.ireturn, 1) := by decide +kernel
theorem dX1_bit_32 : decode cX1_bit 32 = .ok (.iconst 1, 1) := by decide +kernel
theorem dX1_bit_33 : decode cX1_bit 33 = .ok (.bipush 16, 2) := by decide +kernel
theorem dX1_bit_35 : decode cX1_bit 35 = .ok (.iload_n 0, 1) := by decide +kernel
theorem dX1_bit_36 : decode cX1_bit 36 = .ok (.iadd, 1) := by decide +kernel
theorem dX1_bit_37 : decode cX1_bit 37 = .ok (.ishl, 1) := by decide +kernel
theorem dX1_bit_38 : decode cX1_bit 38 = .ok (.ireturn, 1) := by decide +kernel
theorem dX1_bit_39 : decode cX1_bit 39 = .ok (.iconst 0, 1) := by decide +kernel
theorem dX1_bit_40 : decode cX1_bit 40 = .ok (.ireturn, 1) := by decide +kernel
theorem dX1_howOf_0 : decode cX1_howOf 0 = .ok (.iload_n 0, 1) := by decide +kernel
theorem dX1_howOf_1 : decode cX1_howOf 1 = .ok (.iload_n 1, 1) := by decide +kernel
theorem dX1_howOf_2 : decode cX1_howOf 2 = .ok (.iconst 1, 1) := by decide +kernel
theorem dX1_howOf_3 : decode cX1_howOf 3 = .ok (.invokestatic 9, 3) := by decide +kernel
theorem dX1_howOf_6 : decode cX1_howOf 6 = .ok (.iand, 1) := by decide +kernel
theorem dX1_howOf_7 : decode cX1_howOf 7 = .ok (.ifCond .eq 5, 3) := by decide +kernel
theorem dX1_howOf_10 : decode cX1_howOf 10 = .ok (.iconst 1, 1) := by decide +kernel
theorem dX1_howOf_11 : decode cX1_howOf 11 = .ok (.ireturn, 1) := by decide +kernel
theorem dX1_howOf_12 : decode cX1_howOf 12 = .ok (.iload_n 0, 1) := by decide +kernel
theorem dX1_howOf_13 : decode cX1_howOf 13 = .ok (.iload_n 1, 1) := by decide +kernel
theorem dX1_howOf_14 : decode cX1_howOf 14 = .ok (.iconst 2, 1) := by decide +kernel
theorem dX1_howOf_15 : decode cX1_howOf 15 = .ok (.invokestatic 9, 3) := by decide +kernel
theorem dX1_howOf_18 : decode cX1_howOf 18 = .ok (.iand, 1) := by decide +kernel
theorem dX1_howOf_19 : decode cX1_howOf 19 = .ok (.ifCond .eq 7, 3) := by decide +kernel
theorem dX1_howOf_22 : decode cX1_howOf 22 = .ok (.iconst 2, 1) := by decide +kernel
theorem dX1_howOf_23 : decode cX1_howOf 23 = .ok (.goto 4, 3) := by decide +kernel
theorem dX1_howOf_26 : decode cX1_howOf 26 = .ok (.iconst 0, 1) := by decide +kernel
theorem dX1_howOf_27 : decode cX1_howOf 27 = .ok (.ireturn, 1) := by decide +kernel
theorem dX1_with_0 : decode cX1_with 0 = .ok (.iload_n 0, 1) := by decide +kernel
theorem dX1_with_1 : decode cX1_with 1 = .ok (.iload_n 1, 1) := by decide +kernel
theorem dX1_with_2 : decode cX1_with 2 = .ok (.iconst 1, 1) := by decide +kernel
theorem dX1_with_3 : decode cX1_with 3 = .ok (.invokestatic 9, 3) := by decide +kernel
theorem dX1_with_6 : decode cX1_with 6 = .ok (.iload_n 1, 1) := by decide +kernel
theorem dX1_with_7 : decode cX1_with 7 = .ok (.iconst 2, 1) := by decide +kernel
theorem dX1_with_8 : decode cX1_with 8 = .ok (.invokestatic 9, 3) := by decide +kernel
theorem dX1_with_11 : decode cX1_with 11 = .ok (.ior, 1) := by decide +kernel
theorem dX1_with_12 : decode cX1_with 12 = .ok (.iconst (-1), 1) := by decide +kernel
theorem dX1_with_13 : decode cX1_with 13 = .ok (.ixor, 1) := by decide +kernel
theorem dX1_with_14 : decode cX1_with 14 = .ok (.iand, 1) := by decide +kernel
theorem dX1_with_15 : decode cX1_with 15 = .ok (.istore_n 3, 1) := by decide +kernel
theorem dX1_with_16 : decode cX1_with 16 = .ok (.iload_n 3, 1) := by decide +kernel
theorem dX1_with_17 : decode cX1_with 17 = .ok (.iload_n 1, 1) := by decide +kernel
theorem dX1_with_18 : decode cX1_with 18 = .ok (.iload_n 2, 1) := by decide +kernel
theorem dX1_with_19 : decode cX1_with 19 = .ok (.invokestatic 9, 3) := by decide +kernel
theorem dX1_with_22 : decode cX1_with 22 = .ok (.ior, 1) := by decide +kernel
theorem dX1_with_23 : decode cX1_with 23 = .ok (.ireturn, 1) := by decide +kernel
theorem dX2_init_0 : decode cX2_init 0 = .ok (.aload_n 0, 1) := by decide +kernel
theorem dX2_init_1 : decode cX2_init 1 = .ok (.invokespecial 3, 3) := by decide +kernel
theorem dX2_init_4 : decode cX2_init 4 = .ok (.aload_n 0, 1) := by decide +kernel
theorem dX2_init_5 : decode cX2_init 5 = .ok (.bipush 6, 2) := by decide +kernel
theorem dX2_init_7 : decode cX2_init 7 = .ok (.newarray .int, 2) := by decide +kernel
theorem dX2_init_9 : decode cX2_init 9 = .ok (.putfield 9, 3) := by decide +kernel
theorem dX2_init_12 : decode cX2_init 12 = .ok (.return_, 1) := by decide +kernel
theorem dX2_read_0 : decode cX2_read 0 = .ok (.aload_n 0, 1) := by decide +kernel
theorem dX2_read_1 : decode cX2_read 1 = .ok (.iload_n 2, 1) := by decide +kernel
theorem dX2_read_2 : decode cX2_read 2 = .ok (.putfield 15, 3) := by decide +kernel
theorem dX2_read_5 : decode cX2_read 5 = .ok (.aload_n 0, 1) := by decide +kernel
theorem dX2_read_6 : decode cX2_read 6 = .ok (.iconst 0, 1) := by decide +kernel
theorem dX2_read_7 : decode cX2_read 7 = .ok (.putfield 19, 3) := by decide +kernel
theorem dX2_read_10 : decode cX2_read 10 = .ok (.aload_n 0, 1) := by decide +kernel
theorem dX2_read_11 : decode cX2_read 11 = .ok (.iconst 0, 1) := by decide +kernel
theorem dX2_read_12 : decode cX2_read 12 = .ok (.putfield 22, 3) := by decide +kernel
theorem dX2_read_15 : decode cX2_read 15 = .ok (.iconst 0, 1) := by decide +kernel
theorem dX2_read_16 : decode cX2_read 16 = .ok (.istore_n 3, 1) := by decide +kernel
theorem dX2_read_17 : decode cX2_read 17 = .ok (.iload_n 3, 1) := by decide +kernel
theorem dX2_read_18 : decode cX2_read 18 = .ok (.aload_n 1, 1) := by decide +kernel
theorem dX2_read_19 : decode cX2_read 19 = .ok (.getfield 25, 3) := by decide +kernel
theorem dX2_read_22 : decode cX2_read 22 = .ok (.if_icmp .ge 34, 3) := by decide +kernel
theorem dX2_read_25 : decode cX2_read 25 = .ok (.aload_n 1, 1) := by decide +kernel
theorem dX2_read_26 : decode cX2_read 26 = .ok (.iload_n 3, 1) := by decide +kernel
theorem dX2_read_27 : decode cX2_read 27 = .ok (.invokevirtual 30, 3) := by decide +kernel
theorem dX2_read_30 : decode cX2_read 30 = .ok (.istore 4, 2) := by decide +kernel
theorem dX2_read_32 : decode cX2_read 32 = .ok (.iload 4, 2) := by decide +kernel
theorem dX2_read_34 : decode cX2_read 34 = .ok (.bipush 32, 2) := by decide +kernel
theorem dX2_read_36 : decode cX2_read 36 = .ok (.if_icmp .eq 14, 3) := by decide +kernel
theorem dX2_read_39 : decode cX2_read 39 = .ok (.aload_n 0, 1) := by decide +kernel
theorem dX2_read_40 : decode cX2_read 40 = .ok (.iload 4, 2) := by decide +kernel
theorem dX2_read_42 : decode cX2_read 42 = .ok (.invokevirtual 34, 3) := by decide +kernel
theorem dX2_read_45 : decode cX2_read 45 = .ok (.ifCond .ne 5, 3) := by decide +kernel
theorem dX2_read_48 : decode cX2_read 48 = .ok (.iload_n 3, 1) := by decide +kernel
theorem dX2_read_49 : decode cX2_read 49 = .ok (.ireturn, 1) := by decide +kernel
theorem dX2_read_50 : decode cX2_read 50 = .ok (.iinc 3 1, 3) := by decide +kernel
theorem dX2_read_53 : decode cX2_read 53 = .ok (.goto (-36), 3) := by decide +kernel
theorem dX2_read_56 : decode cX2_read 56 = .ok (.aload_n 0, 1) := by decide +kernel
theorem dX2_read_57 : decode cX2_read 57 = .ok (.getfield 22, 3) := by decide +kernel
theorem dX2_read_60 : decode cX2_read 60 = .ok (.iconst 2, 1) := by decide +kernel
theorem dX2_read_61 : decode cX2_read 61 = .ok (.if_icmp .eq 19, 3) := by decide +kernel
theorem dX2_read_64 : decode cX2_read 64 = .ok (.aload_n 0, 1) := by decide +kernel
theorem dX2_read_65 : decode cX2_read 65 = .ok (.getfield 22, 3) := by decide +kernel
theorem dX2_read_68 : decode cX2_read 68 = .ok (.iconst 4, 1) := by decide +kernel
theorem dX2_read_69 : decode cX2_read 69 = .ok (.if_icmp .eq 11, 3) := by decide +kernel
theorem dX2_read_72 : decode cX2_read 72 = .ok (.aload_n 0, 1) := by decide +kernel
theorem dX2_read_73 : decode cX2_read 73 = .ok (.getfield 22, 3) := by decide +kernel
theorem dX2_read_76 : decode cX2_read 76 = .ok (.iconst 5, 1) := by decide +kernel
theorem dX2_read_77 : decode cX2_read 77 = .ok (.if_icmp .ne 7, 3) := by decide +kernel
theorem dX2_read_80 : decode cX2_read 80 = .ok (.iconst 1, 1) := by decide +kernel
theorem dX2_read_81 : decode cX2_read 81 = .ok (.goto 4, 3) := by decide +kernel
theorem dX2_read_84 : decode cX2_read 84 = .ok (.iconst 0, 1) := by decide +kernel
theorem dX2_read_85 : decode cX2_read 85 = .ok (.istore_n 3, 1) := by decide +kernel
theorem dX2_read_86 : decode cX2_read 86 = .ok (.iload_n 3, 1) := by decide +kernel
theorem dX2_read_87 : decode cX2_read 87 = .ok (.ifCond .eq 7, 3) := by decide +kernel
theorem dX2_read_90 : decode cX2_read 90 = .ok (.iconst (-1), 1) := by decide +kernel
theorem dX2_read_91 : decode cX2_read 91 = .ok (.goto 7, 3) := by decide +kernel
theorem dX2_read_94 : decode cX2_read 94 = .ok (.aload_n 1, 1) := by decide +kernel
theorem dX2_read_95 : decode cX2_read 95 = .ok (.getfield 25, 3) := by decide +kernel
theorem dX2_read_98 : decode cX2_read 98 = .ok (.ireturn, 1) := by decide +kernel
theorem dX2_take_0 : decode cX2_take 0 = .ok (.aload_n 0, 1) := by decide +kernel
theorem dX2_take_1 : decode cX2_take 1 = .ok (.getfield 22, 3) := by decide +kernel
theorem dX2_take_4 : decode cX2_take 4 = .ok (.tableswitch 109 0 4 #[36, 56, 62, 82, 89], 36) := by decide +kernel
theorem dX2_take_40 : decode cX2_take 40 = .ok (.iload_n 1, 1) := by decide +kernel
theorem dX2_take_41 : decode cX2_take 41 = .ok (.bipush 48, 2) := by decide +kernel
theorem dX2_take_43 : decode cX2_take 43 = .ok (.if_icmp .ne 11, 3) := by decide +kernel
theorem dX2_take_46 : decode cX2_take 46 = .ok (.aload_n 0, 1) := by decide +kernel
theorem dX2_take_47 : decode cX2_take 47 = .ok (.iconst 5, 1) := by decide +kernel
theorem dX2_take_48 : decode cX2_take 48 = .ok (.invokevirtual 38, 3) := by decide +kernel
theorem dX2_take_51 : decode cX2_take 51 = .ok (.goto 8, 3) := by decide +kernel
theorem dX2_take_54 : decode cX2_take 54 = .ok (.aload_n 0, 1) := by decide +kernel
theorem dX2_take_55 : decode cX2_take 55 = .ok (.iload_n 1, 1) := by decide +kernel
theorem dX2_take_56 : decode cX2_take 56 = .ok (.invokevirtual 42, 3) := by decide +kernel
theorem dX2_take_59 : decode cX2_take 59 = .ok (.ireturn, 1) := by decide +kernel
theorem dX2_take_60 : decode cX2_take 60 = .ok (.aload_n 0, 1) := by decide +kernel
theorem dX2_take_61 : decode cX2_take 61 = .ok (.iload_n 1, 1) := by decide +kernel
theorem dX2_take_62 : decode cX2_take 62 = .ok (.invokevirtual 42, 3) := by decide +kernel
theorem dX2_take_65 : decode cX2_take 65 = .ok (.ireturn, 1) := by decide +kernel
theorem dX2_take_66 : decode cX2_take 66 = .ok (.iload_n 1, 1) := by decide +kernel
theorem dX2_take_67 : decode cX2_take 67 = .ok (.bipush 43, 2) := by decide +kernel
theorem dX2_take_69 : decode cX2_take 69 = .ok (.if_icmp .ne 11, 3) := by decide +kernel
theorem dX2_take_72 : decode cX2_take 72 = .ok (.aload_n 0, 1) := by decide +kernel
theorem dX2_take_73 : decode cX2_take 73 = .ok (.iconst 1, 1) := by decide +kernel
theorem dX2_take_74 : decode cX2_take 74 = .ok (.invokevirtual 38, 3) := by decide +kernel
theorem dX2_take_77 : decode cX2_take 77 = .ok (.goto 8, 3) := by decide +kernel
theorem dX2_take_80 : decode cX2_take 80 = .ok (.aload_n 0, 1) := by decide +kernel
theorem dX2_take_81 : decode cX2_take 81 = .ok (.iload_n 1, 1) := by decide +kernel
theorem dX2_take_82 : decode cX2_take 82 = .ok (.invokevirtual 45, 3) := by decide +kernel
theorem dX2_take_85 : decode cX2_take 85 = .ok (.ireturn, 1) := by decide +kernel
theorem dX2_take_86 : decode cX2_take 86 = .ok (.aload_n 0, 1) := by decide +kernel
theorem dX2_take_87 : decode cX2_take 87 = .ok (.iload_n 1, 1) := by decide +kernel
theorem dX2_take_88 : decode cX2_take 88 = .ok (.iconst 2, 1) := by decide +kernel
theorem dX2_take_89 : decode cX2_take 89 = .ok (.invokevirtual 48, 3) := by decide +kernel
theorem dX2_take_92 : decode cX2_take 92 = .ok (.ireturn, 1) := by decide +kernel
theorem dX2_take_93 : decode cX2_take 93 = .ok (.iload_n 1, 1) := by decide +kernel
theorem dX2_take_94 : decode cX2_take 94 = .ok (.bipush 43, 2) := by decide +kernel
theorem dX2_take_96 : decode cX2_take 96 = .ok (.if_icmp .ne 15, 3) := by decide +kernel
theorem dX2_take_99 : decode cX2_take 99 = .ok (.aload_n 0, 1) := by decide +kernel
theorem dX2_take_100 : decode cX2_take 100 = .ok (.iconst 1, 1) := by decide +kernel
theorem dX2_take_101 : decode cX2_take 101 = .ok (.invokevirtual 38, 3) := by decide +kernel
theorem dX2_take_104 : decode cX2_take 104 = .ok (.ifCond .eq 7, 3) := by decide +kernel
theorem dX2_take_107 : decode cX2_take 107 = .ok (.iconst 1, 1) := by decide +kernel
theorem dX2_take_108 : decode cX2_take 108 = .ok (.goto 4, 3) := by decide +kernel
theorem dX2_take_111 : decode cX2_take 111 = .ok (.iconst 0, 1) := by decide +kernel
theorem dX2_take_112 : decode cX2_take 112 = .ok (.ireturn, 1) := by decide +kernel
theorem dX2_take_113 : decode cX2_take 113 = .ok (.iconst 0, 1) := by decide +kernel
theorem dX2_take_114 : decode cX2_take 114 = .ok (.ireturn, 1) := by decide +kernel
theorem dX2_goTo_0 : decode cX2_goTo 0 = .ok (.aload_n 0, 1) := by decide +kernel
theorem dX2_goTo_1 : decode cX2_goTo 1 = .ok (.iload_n 1, 1) := by decide +kernel
theorem dX2_goTo_2 : decode cX2_goTo 2 = .ok (.putfield 22, 3) := by decide +kernel
theorem dX2_goTo_5 : decode cX2_goTo 5 = .ok (.iconst 1, 1) := by decide +kernel
theorem dX2_goTo_6 : decode cX2_goTo 6 = .ok (.ireturn, 1) := by decide +kernel
theorem dX2_beginBranch_0 : decode cX2_beginBranch 0 = .ok (.aload_n 0, 1) := by decide +kernel
theorem dX2_beginBranch_1 : decode cX2_beginBranch 1 = .ok (.getfield 19, 3) := by decide +kernel
theorem dX2_beginBranch_4 : decode cX2_beginBranch 4 = .ok (.bipush 6, 2) := by decide +kernel
theorem dX2_beginBranch_6 : decode cX2_beginBranch 6 = .ok (.if_icmp .lt 5, 3) := by decide +kernel
theorem dX2_beginBranch_9 : decode cX2_beginBranch 9 = .ok (.iconst 0, 1) := by decide +kernel
theorem dX2_beginBranch_10 : decode cX2_beginBranch 10 = .ok (.ireturn, 1) := by decide +kernel
theorem dX2_beginBranch_11 : decode cX2_beginBranch 11 = .ok (.aload_n 0, 1) := by decide +kernel
theorem dX2_beginBranch_12 : decode cX2_beginBranch 12 = .ok (.getfield 9, 3) := by decide +kernel
theorem dX2_beginBranch_15 : decode cX2_beginBranch 15 = .ok (.aload_n 0, 1) := by decide +kernel
theorem dX2_beginBranch_16 : decode cX2_beginBranch 16 = .ok (.getfield 19, 3) := by decide +kernel
theorem dX2_beginBranch_19 : decode cX2_beginBranch 19 = .ok (.iconst 0, 1) := by decide +kernel
theorem dX2_beginBranch_20 : decode cX2_beginBranch 20 = .ok (.invokestatic 52, 3) := by decide +kernel
theorem dX2_beginBranch_23 : decode cX2_beginBranch 23 = .ok (.aload_n 0, 1) := by decide +kernel
theorem dX2_beginBranch_24 : decode cX2_beginBranch 24 = .ok (.dup, 1) := by decide +kernel
theorem dX2_beginBranch_25 : decode cX2_beginBranch 25 = .ok (.getfield 19, 3) := by decide +kernel
theorem dX2_beginBranch_28 : decode cX2_beginBranch 28 = .ok (.iconst 1, 1) := by decide +kernel
theorem dX2_beginBranch_29 : decode cX2_beginBranch 29 = .ok (.iadd, 1) := by decide +kernel
theorem dX2_beginBranch_30 : decode cX2_beginBranch 30 = .ok (.putfield 19, 3) := by decide +kernel
theorem dX2_beginBranch_33 : decode cX2_beginBranch 33 = .ok (.iload_n 1, 1) := by decide +kernel
theorem dX2_beginBranch_34 : decode cX2_beginBranch 34 = .ok (.bipush 49, 2) := by decide +kernel
theorem dX2_beginBranch_36 : decode cX2_beginBranch 36 = .ok (.if_icmp .ne 11, 3) := by decide +kernel
theorem dX2_beginBranch_39 : decode cX2_beginBranch 39 = .ok (.aload_n 0, 1) := by decide +kernel
theorem dX2_beginBranch_40 : decode cX2_beginBranch 40 = .ok (.iconst 4, 1) := by decide +kernel
theorem dX2_beginBranch_41 : decode cX2_beginBranch 41 = .ok (.invokevirtual 38, 3) := by decide +kernel
theorem dX2_beginBranch_44 : decode cX2_beginBranch 44 = .ok (.goto 8, 3) := by decide +kernel
theorem dX2_beginBranch_47 : decode cX2_beginBranch 47 = .ok (.aload_n 0, 1) := by decide +kernel
theorem dX2_beginBranch_48 : decode cX2_beginBranch 48 = .ok (.iload_n 1, 1) := by decide +kernel
theorem dX2_beginBranch_49 : decode cX2_beginBranch 49 = .ok (.invokevirtual 45, 3) := by decide +kernel
theorem dX2_beginBranch_52 : decode cX2_beginBranch 52 = .ok (.ireturn, 1) := by decide +kernel
theorem dX2_beginCondition_0 : decode cX2_beginCondition 0 = .ok (.iload_n 1, 1) := by decide +kernel
theorem dX2_beginCondition_1 : decode cX2_beginCondition 1 = .ok (.bipush 47, 2) := by decide +kernel
theorem dX2_beginCondition_3 : decode cX2_beginCondition 3 = .ok (.if_icmp .ne 11, 3) := by decide +kernel
theorem dX2_beginCondition_6 : decode cX2_beginCondition 6 = .ok (.aload_n 0, 1) := by decide +kernel
theorem dX2_beginCondition_7 : decode cX2_beginCondition 7 = .ok (.iconst 3, 1) := by decide +kernel
theorem dX2_beginCondition_8 : decode cX2_beginCondition 8 = .ok (.invokevirtual 38, 3) := by decide +kernel
theorem dX2_beginCondition_11 : decode cX2_beginCondition 11 = .ok (.goto 9, 3) := by decide +kernel
theorem dX2_beginCondition_14 : decode cX2_beginCondition 14 = .ok (.aload_n 0, 1) := by decide +kernel
theorem dX2_beginCondition_15 : decode cX2_beginCondition 15 = .ok (.iload_n 1, 1) := by decide +kernel
theorem dX2_beginCondition_16 : decode cX2_beginCondition 16 = .ok (.iconst 1, 1) := by decide +kernel
theorem dX2_beginCondition_17 : decode cX2_beginCondition 17 = .ok (.invokevirtual 48, 3) := by decide +kernel
theorem dX2_beginCondition_20 : decode cX2_beginCondition 20 = .ok (.ireturn, 1) := by decide +kernel
theorem dX2_takeLetter_0 : decode cX2_takeLetter 0 = .ok (.aload_n 0, 1) := by decide +kernel
theorem dX2_takeLetter_1 : decode cX2_takeLetter 1 = .ok (.iload_n 1, 1) := by decide +kernel
theorem dX2_takeLetter_2 : decode cX2_takeLetter 2 = .ok (.invokevirtual 56, 3) := by decide +kernel
theorem dX2_takeLetter_5 : decode cX2_takeLetter 5 = .ok (.istore_n 3, 1) := by decide +kernel
theorem dX2_takeLetter_6 : decode cX2_takeLetter 6 = .ok (.aload_n 0, 1) := by decide +kernel
theorem dX2_takeLetter_7 : decode cX2_takeLetter 7 = .ok (.getfield 9, 3) := by decide +kernel
theorem dX2_takeLetter_10 : decode cX2_takeLetter 10 = .ok (.aload_n 0, 1) := by decide +kernel
theorem dX2_takeLetter_11 : decode cX2_takeLetter 11 = .ok (.getfield 19, 3) := by decide +kernel
theorem dX2_takeLetter_14 : decode cX2_takeLetter 14 = .ok (.iconst 1, 1) := by decide +kernel
theorem dX2_takeLetter_15 : decode cX2_takeLetter 15 = .ok (.isub, 1) := by decide +kernel
theorem dX2_takeLetter_16 : decode cX2_takeLetter 16 = .ok (.invokestatic 60, 3) := by decide +kernel
theorem dX2_takeLetter_19 : decode cX2_takeLetter 19 = .ok (.istore 4, 2) := by decide +kernel
theorem dX2_takeLetter_21 : decode cX2_takeLetter 21 = .ok (.iload_n 3, 1) := by decide +kernel
theorem dX2_takeLetter_22 : decode cX2_takeLetter 22 = .ok (.ifCond .lt 15, 3) := by decide +kernel
theorem dX2_takeLetter_25 : decode cX2_takeLetter 25 = .ok (.iload 4, 2) := by decide +kernel
theorem dX2_takeLetter_27 : decode cX2_takeLetter 27 = .ok (.iload_n 3, 1) := by decide +kernel
theorem dX2_takeLetter_28 : decode cX2_takeLetter 28 = .ok (.invokestatic 64, 3) := by decide +kernel
theorem dX2_takeLetter_31 : decode cX2_takeLetter 31 = .ok (.iconst 3, 1) := by decide +kernel
theorem dX2_takeLetter_32 : decode cX2_takeLetter 32 = .ok (.iload_n 2, 1) := by decide +kernel
theorem dX2_takeLetter_33 : decode cX2_takeLetter 33 = .ok (.isub, 1) := by decide +kernel
theorem dX2_takeLetter_34 : decode cX2_takeLetter 34 = .ok (.if_icmp .ne 5, 3) := by decide +kernel
theorem dX2_takeLetter_37 : decode cX2_takeLetter 37 = .ok (.iconst 0, 1) := by decide +kernel
theorem dX2_takeLetter_38 : decode cX2_takeLetter 38 = .ok (.ireturn, 1) := by decide +kernel
theorem dX2_takeLetter_39 : decode cX2_takeLetter 39 = .ok (.aload_n 0, 1) := by decide +kernel
theorem dX2_takeLetter_40 : decode cX2_takeLetter 40 = .ok (.getfield 9, 3) := by decide +kernel
theorem dX2_takeLetter_43 : decode cX2_takeLetter 43 = .ok (.aload_n 0, 1) := by decide +kernel
theorem dX2_takeLetter_44 : decode cX2_takeLetter 44 = .ok (.getfield 19, 3) := by decide +kernel
theorem dX2_takeLetter_47 : decode cX2_takeLetter 47 = .ok (.iconst 1, 1) := by decide +kernel
theorem dX2_takeLetter_48 : decode cX2_takeLetter 48 = .ok (.isub, 1) := by decide +kernel
theorem dX2_takeLetter_49 : decode cX2_takeLetter 49 = .ok (.iload 4, 2) := by decide +kernel
theorem dX2_takeLetter_51 : decode cX2_takeLetter 51 = .ok (.iload_n 3, 1) := by decide +kernel
theorem dX2_takeLetter_52 : decode cX2_takeLetter 52 = .ok (.iload_n 2, 1) := by decide +kernel
theorem dX2_takeLetter_53 : decode cX2_takeLetter 53 = .ok (.invokestatic 70, 3) := by decide +kernel
theorem dX2_takeLetter_56 : decode cX2_takeLetter 56 = .ok (.invokestatic 52, 3) := by decide +kernel
theorem dX2_takeLetter_59 : decode cX2_takeLetter 59 = .ok (.aload_n 0, 1) := by decide +kernel
theorem dX2_takeLetter_60 : decode cX2_takeLetter 60 = .ok (.iconst 2, 1) := by decide +kernel
theorem dX2_takeLetter_61 : decode cX2_takeLetter 61 = .ok (.invokevirtual 38, 3) := by decide +kernel
theorem dX2_takeLetter_64 : decode cX2_takeLetter 64 = .ok (.ireturn, 1) := by decide +kernel
theorem dX2_subjectOf_0 : decode cX2_subjectOf 0 = .ok (.iload_n 1, 1) := by decide +kernel
theorem dX2_subjectOf_1 : decode cX2_subjectOf 1 = .ok (.bipush 97, 2) := by decide +kernel
theorem dX2_subjectOf_3 : decode cX2_subjectOf 3 = .ok (.bipush 104, 2) := by decide +kernel
theorem dX2_subjectOf_5 : decode cX2_subjectOf 5 = .ok (.invokestatic 74, 3) := by decide +kernel
theorem dX2_subjectOf_8 : decode cX2_subjectOf 8 = .ok (.ifCond .eq 8, 3) := by decide +kernel
theorem dX2_subjectOf_11 : decode cX2_subjectOf 11 = .ok (.iload_n 1, 1) := by decide +kernel
theorem dX2_subjectOf_12 : decode cX2_subjectOf 12 = .ok (.bipush 97, 2) := by decide +kernel
theorem dX2_subjectOf_14 : decode cX2_subjectOf 14 = .ok (.isub, 1) := by decide +kernel
theorem dX2_subjectOf_15 : decode cX2_subjectOf 15 = .ok (.ireturn, 1) := by decide +kernel
theorem dX2_subjectOf_16 : decode cX2_subjectOf 16 = .ok (.iload_n 1, 1) := by decide +kernel
theorem dX2_subjectOf_17 : decode cX2_subjectOf 17 = .ok (.bipush 65, 2) := by decide +kernel
theorem dX2_subjectOf_19 : decode cX2_subjectOf 19 = .ok (.bipush 65, 2) := by decide +kernel
theorem dX2_subjectOf_21 : decode cX2_subjectOf 21 = .ok (.aload_n 0, 1) := by decide +kernel
theorem dX2_subjectOf_22 : decode cX2_subjectOf 22 = .ok (.getfield 15, 3) := by decide +kernel
theorem dX2_subjectOf_25 : decode cX2_subjectOf 25 = .ok (.iadd, 1) := by decide +kernel
theorem dX2_subjectOf_26 : decode cX2_subjectOf 26 = .ok (.iconst 1, 1) := by decide +kernel
theorem dX2_subjectOf_27 : decode cX2_subjectOf 27 = .ok (.isub, 1) := by decide +kernel
theorem dX2_subjectOf_28 : decode cX2_subjectOf 28 = .ok (.invokestatic 74, 3) := by decide +kernel
theorem dX2_subjectOf_31 : decode cX2_subjectOf 31 = .ok (.ifCond .eq 13, 3) := by decide +kernel
theorem dX2_subjectOf_34 : decode cX2_subjectOf 34 = .ok (.bipush 8, 2) := by decide +kernel
theorem dX2_subjectOf_36 : decode cX2_subjectOf 36 = .ok (.iload_n 1, 1) := by decide +kernel
theorem dX2_subjectOf_37 : decode cX2_subjectOf 37 = .ok (.iadd, 1) := by decide +kernel
theorem dX2_subjectOf_38 : decode cX2_subjectOf 38 = .ok (.bipush 65, 2) := by decide +kernel
theorem dX2_subjectOf_40 : decode cX2_subjectOf 40 = .ok (.isub, 1) := by decide +kernel
theorem dX2_subjectOf_41 : decode cX2_subjectOf 41 = .ok (.goto 4, 3) := by decide +kernel
theorem dX2_subjectOf_44 : decode cX2_subjectOf 44 = .ok (.iconst (-1), 1) := by decide +kernel
theorem dX2_subjectOf_45 : decode cX2_subjectOf 45 = .ok (.ireturn, 1) := by decide +kernel
theorem dX3_init_0 : decode cX3_init 0 = .ok (.aload_n 0, 1) := by decide +kernel
theorem dX3_init_1 : decode cX3_init 1 = .ok (.invokespecial 3, 3) := by decide +kernel
theorem dX3_init_4 : decode cX3_init 4 = .ok (.aload_n 0, 1) := by decide +kernel
theorem dX3_init_5 : decode cX3_init 5 = .ok (.bipush 6, 2) := by decide +kernel
theorem dX3_init_7 : decode cX3_init 7 = .ok (.anewarray 9, 3) := by decide +kernel
theorem dX3_init_10 : decode cX3_init 10 = .ok (.putfield 11, 3) := by decide +kernel
theorem dX3_init_13 : decode cX3_init 13 = .ok (.iconst 0, 1) := by decide +kernel
theorem dX3_init_14 : decode cX3_init 14 = .ok (.istore_n 1, 1) := by decide +kernel
theorem dX3_init_15 : decode cX3_init 15 = .ok (.iload_n 1, 1) := by decide +kernel
theorem dX3_init_16 : decode cX3_init 16 = .ok (.aload_n 0, 1) := by decide +kernel
theorem dX3_init_17 : decode cX3_init 17 = .ok (.getfield 11, 3) := by decide +kernel
theorem dX3_init_20 : decode cX3_init 20 = .ok (.arraylength, 1) := by decide +kernel
theorem dX3_init_21 : decode cX3_init 21 = .ok (.if_icmp .ge 22, 3) := by decide +kernel
theorem dX3_init_24 : decode cX3_init 24 = .ok (.aload_n 0, 1) := by decide +kernel
theorem dX3_init_25 : decode cX3_init 25 = .ok (.getfield 11, 3) := by decide +kernel
theorem dX3_init_28 : decode cX3_init 28 = .ok (.iload_n 1, 1) := by decide +kernel
theorem dX3_init_29 : decode cX3_init 29 = .ok (.new 9, 3) := by decide +kernel
theorem dX3_init_32 : decode cX3_init 32 = .ok (.dup, 1) := by decide +kernel
theorem dX3_init_33 : decode cX3_init 33 = .ok (.invokespecial 17, 3) := by decide +kernel
theorem dX3_init_36 : decode cX3_init 36 = .ok (.aastore, 1) := by decide +kernel
theorem dX3_init_37 : decode cX3_init 37 = .ok (.iinc 1 1, 3) := by decide +kernel
theorem dX3_init_40 : decode cX3_init 40 = .ok (.goto (-25), 3) := by decide +kernel
theorem dX3_init_43 : decode cX3_init 43 = .ok (.return_, 1) := by decide +kernel
theorem dX3_bankAt_0 : decode cX3_bankAt 0 = .ok (.aload_n 0, 1) := by decide +kernel
theorem dX3_bankAt_1 : decode cX3_bankAt 1 = .ok (.getfield 18, 3) := by decide +kernel
theorem dX3_bankAt_4 : decode cX3_bankAt 4 = .ok (.iload_n 1, 1) := by decide +kernel
theorem dX3_bankAt_5 : decode cX3_bankAt 5 = .ok (.iadd, 1) := by decide +kernel
theorem dX3_bankAt_6 : decode cX3_bankAt 6 = .ok (.bipush 6, 2) := by decide +kernel
theorem dX3_bankAt_8 : decode cX3_bankAt 8 = .ok (.invokestatic 22, 3) := by decide +kernel
theorem dX3_bankAt_11 : decode cX3_bankAt 11 = .ok (.istore_n 2, 1) := by decide +kernel
theorem dX3_bankAt_12 : decode cX3_bankAt 12 = .ok (.iload_n 2, 1) := by decide +kernel
theorem dX3_bankAt_13 : decode cX3_bankAt 13 = .ok (.aload_n 0, 1) := by decide +kernel
theorem dX3_bankAt_14 : decode cX3_bankAt 14 = .ok (.getfield 11, 3) := by decide +kernel
theorem dX3_bankAt_17 : decode cX3_bankAt 17 = .ok (.arraylength, 1) := by decide +kernel
theorem dX3_bankAt_18 : decode cX3_bankAt 18 = .ok (.if_icmp .ge 12, 3) := by decide +kernel
theorem dX3_bankAt_21 : decode cX3_bankAt 21 = .ok (.aload_n 0, 1) := by decide +kernel
theorem dX3_bankAt_22 : decode cX3_bankAt 22 = .ok (.getfield 11, 3) := by decide +kernel
theorem dX3_bankAt_25 : decode cX3_bankAt 25 = .ok (.iload_n 2, 1) := by decide +kernel
theorem dX3_bankAt_26 : decode cX3_bankAt 26 = .ok (.aaload, 1) := by decide +kernel
theorem dX3_bankAt_27 : decode cX3_bankAt 27 = .ok (.goto 4, 3) := by decide +kernel
theorem dX3_bankAt_30 : decode cX3_bankAt 30 = .ok (.aconst_null, 1) := by decide +kernel
theorem dX3_bankAt_31 : decode cX3_bankAt 31 = .ok (.areturn, 1) := by decide +kernel
theorem dX3_save_0 : decode cX3_save 0 = .ok (.aload_n 0, 1) := by decide +kernel
theorem dX3_save_1 : decode cX3_save 1 = .ok (.getfield 28, 3) := by decide +kernel
theorem dX3_save_4 : decode cX3_save 4 = .ok (.bipush 6, 2) := by decide +kernel
theorem dX3_save_6 : decode cX3_save 6 = .ok (.if_icmp .ne 28, 3) := by decide +kernel
theorem dX3_save_9 : decode cX3_save 9 = .ok (.aload_n 0, 1) := by decide +kernel
theorem dX3_save_10 : decode cX3_save 10 = .ok (.aload_n 0, 1) := by decide +kernel
theorem dX3_save_11 : decode cX3_save 11 = .ok (.getfield 18, 3) := by decide +kernel
theorem dX3_save_14 : decode cX3_save 14 = .ok (.iconst 1, 1) := by decide +kernel
theorem dX3_save_15 : decode cX3_save 15 = .ok (.iadd, 1) := by decide +kernel
theorem dX3_save_16 : decode cX3_save 16 = .ok (.bipush 6, 2) := by decide +kernel
theorem dX3_save_18 : decode cX3_save 18 = .ok (.invokestatic 22, 3) := by decide +kernel
theorem dX3_save_21 : decode cX3_save 21 = .ok (.putfield 18, 3) := by decide +kernel
theorem dX3_save_24 : decode cX3_save 24 = .ok (.aload_n 0, 1) := by decide +kernel
theorem dX3_save_25 : decode cX3_save 25 = .ok (.dup, 1) := by decide +kernel
theorem dX3_save_26 : decode cX3_save 26 = .ok (.getfield 28, 3) := by decide +kernel
theorem dX3_save_29 : decode cX3_save 29 = .ok (.iconst 1, 1) := by decide +kernel
theorem dX3_save_30 : decode cX3_save 30 = .ok (.isub, 1) := by decide +kernel
theorem dX3_save_31 : decode cX3_save 31 = .ok (.putfield 28, 3) := by decide +kernel
theorem dX3_save_34 : decode cX3_save 34 = .ok (.aload_n 0, 1) := by decide +kernel
theorem dX3_save_35 : decode cX3_save 35 = .ok (.aload_n 0, 1) := by decide +kernel
theorem dX3_save_36 : decode cX3_save 36 = .ok (.getfield 28, 3) := by decide +kernel
theorem dX3_save_39 : decode cX3_save 39 = .ok (.invokevirtual 31, 3) := by decide +kernel
theorem dX3_save_42 : decode cX3_save 42 = .ok (.astore_n 2, 1) := by decide +kernel
theorem dX3_save_43 : decode cX3_save 43 = .ok (.aload_n 2, 1) := by decide +kernel
theorem dX3_save_44 : decode cX3_save 44 = .ok (.ifnull 18, 3) := by decide +kernel
theorem dX3_save_47 : decode cX3_save 47 = .ok (.aload_n 2, 1) := by decide +kernel
theorem dX3_save_48 : decode cX3_save 48 = .ok (.aload_n 1, 1) := by decide +kernel
theorem dX3_save_49 : decode cX3_save 49 = .ok (.invokevirtual 35, 3) := by decide +kernel
theorem dX3_save_52 : decode cX3_save 52 = .ok (.aload_n 0, 1) := by decide +kernel
theorem dX3_save_53 : decode cX3_save 53 = .ok (.dup, 1) := by decide +kernel
theorem dX3_save_54 : decode cX3_save 54 = .ok (.getfield 28, 3) := by decide +kernel
theorem dX3_save_57 : decode cX3_save 57 = .ok (.iconst 1, 1) := by decide +kernel
theorem dX3_save_58 : decode cX3_save 58 = .ok (.iadd, 1) := by decide +kernel
theorem dX3_save_59 : decode cX3_save 59 = .ok (.putfield 28, 3) := by decide +kernel
theorem dX3_save_62 : decode cX3_save 62 = .ok (.return_, 1) := by decide +kernel
theorem dX3_restore_0 : decode cX3_restore 0 = .ok (.aload_n 0, 1) := by decide +kernel
theorem dX3_restore_1 : decode cX3_restore 1 = .ok (.getfield 28, 3) := by decide +kernel
theorem dX3_restore_4 : decode cX3_restore 4 = .ok (.ifCond .le 16, 3) := by decide +kernel
theorem dX3_restore_7 : decode cX3_restore 7 = .ok (.aload_n 0, 1) := by decide +kernel
theorem dX3_restore_8 : decode cX3_restore 8 = .ok (.aload_n 0, 1) := by decide +kernel
theorem dX3_restore_9 : decode cX3_restore 9 = .ok (.getfield 28, 3) := by decide +kernel
theorem dX3_restore_12 : decode cX3_restore 12 = .ok (.iconst 1, 1) := by decide +kernel
theorem dX3_restore_13 : decode cX3_restore 13 = .ok (.isub, 1) := by decide +kernel
theorem dX3_restore_14 : decode cX3_restore 14 = .ok (.invokevirtual 31, 3) := by decide +kernel
theorem dX3_restore_17 : decode cX3_restore 17 = .ok (.goto 4, 3) := by decide +kernel
theorem dX3_restore_20 : decode cX3_restore 20 = .ok (.aconst_null, 1) := by decide +kernel
theorem dX3_restore_21 : decode cX3_restore 21 = .ok (.astore_n 2, 1) := by decide +kernel
theorem dX3_restore_22 : decode cX3_restore 22 = .ok (.aload_n 2, 1) := by decide +kernel
theorem dX3_restore_23 : decode cX3_restore 23 = .ok (.ifnonnull 5, 3) := by decide +kernel
theorem dX3_restore_26 : decode cX3_restore 26 = .ok (.iconst 0, 1) := by decide +kernel
theorem dX3_restore_27 : decode cX3_restore 27 = .ok (.ireturn, 1) := by decide +kernel
theorem dX3_restore_28 : decode cX3_restore 28 = .ok (.aload_n 1, 1) := by decide +kernel
theorem dX3_restore_29 : decode cX3_restore 29 = .ok (.aload_n 2, 1) := by decide +kernel
theorem dX3_restore_30 : decode cX3_restore 30 = .ok (.invokevirtual 35, 3) := by decide +kernel
theorem dX3_restore_33 : decode cX3_restore 33 = .ok (.aload_n 0, 1) := by decide +kernel
theorem dX3_restore_34 : decode cX3_restore 34 = .ok (.dup, 1) := by decide +kernel
theorem dX3_restore_35 : decode cX3_restore 35 = .ok (.getfield 28, 3) := by decide +kernel
theorem dX3_restore_38 : decode cX3_restore 38 = .ok (.iconst 1, 1) := by decide +kernel
theorem dX3_restore_39 : decode cX3_restore 39 = .ok (.isub, 1) := by decide +kernel
theorem dX3_restore_40 : decode cX3_restore 40 = .ok (.putfield 28, 3) := by decide +kernel
theorem dX3_restore_43 : decode cX3_restore 43 = .ok (.iconst 1, 1) := by decide +kernel
theorem dX3_restore_44 : decode cX3_restore 44 = .ok (.ireturn, 1) := by decide +kernel
theorem dX4_init_0 : decode cX4_init 0 = .ok (.aload_n 0, 1) := by decide +kernel
theorem dX4_init_1 : decode cX4_init 1 = .ok (.invokespecial 3, 3) := by decide +kernel
theorem dX4_init_4 : decode cX4_init 4 = .ok (.aload_n 0, 1) := by decide +kernel
theorem dX4_init_5 : decode cX4_init 5 = .ok (.bipush 60, 2) := by decide +kernel
theorem dX4_init_7 : decode cX4_init 7 = .ok (.newarray .char, 2) := by decide +kernel
theorem dX4_init_9 : decode cX4_init 9 = .ok (.putfield 9, 3) := by decide +kernel
theorem dX4_init_12 : decode cX4_init 12 = .ok (.return_, 1) := by decide +kernel
theorem dX4_append_0 : decode cX4_append 0 = .ok (.iconst 0, 1) := by decide +kernel
theorem dX4_append_1 : decode cX4_append 1 = .ok (.aload_n 0, 1) := by decide +kernel
theorem dX4_append_2 : decode cX4_append 2 = .ok (.getfield 15, 3) := by decide +kernel
theorem dX4_append_5 : decode cX4_append 5 = .ok (.if_icmp .gt 35, 3) := by decide +kernel
theorem dX4_append_8 : decode cX4_append 8 = .ok (.aload_n 0, 1) := by decide +kernel
theorem dX4_append_9 : decode cX4_append 9 = .ok (.getfield 15, 3) := by decide +kernel
theorem dX4_append_12 : decode cX4_append 12 = .ok (.aload_n 0, 1) := by decide +kernel
theorem dX4_append_13 : decode cX4_append 13 = .ok (.getfield 9, 3) := by decide +kernel
theorem dX4_append_16 : decode cX4_append 16 = .ok (.arraylength, 1) := by decide +kernel
theorem dX4_append_17 : decode cX4_append 17 = .ok (.if_icmp .ge 23, 3) := by decide +kernel
theorem dX4_append_20 : decode cX4_append 20 = .ok (.aload_n 0, 1) := by decide +kernel
theorem dX4_append_21 : decode cX4_append 21 = .ok (.getfield 9, 3) := by decide +kernel
theorem dX4_append_24 : decode cX4_append 24 = .ok (.aload_n 0, 1) := by decide +kernel
theorem dX4_append_25 : decode cX4_append 25 = .ok (.getfield 15, 3) := by decide +kernel
theorem dX4_append_28 : decode cX4_append 28 = .ok (.iload_n 1, 1) := by decide +kernel
theorem dX4_append_29 : decode cX4_append 29 = .ok (.castore, 1) := by decide +kernel
theorem dX4_append_30 : decode cX4_append 30 = .ok (.aload_n 0, 1) := by decide +kernel
theorem dX4_append_31 : decode cX4_append 31 = .ok (.dup, 1) := by decide +kernel
theorem dX4_append_32 : decode cX4_append 32 = .ok (.getfield 15, 3) := by decide +kernel
theorem dX4_append_35 : decode cX4_append 35 = .ok (.iconst 1, 1) := by decide +kernel
theorem dX4_append_36 : decode cX4_append 36 = .ok (.iadd, 1) := by decide +kernel
theorem dX4_append_37 : decode cX4_append 37 = .ok (.putfield 15, 3) := by decide +kernel
theorem dX4_append_40 : decode cX4_append 40 = .ok (.return_, 1) := by decide +kernel
theorem dX4_characterAt_0 : decode cX4_characterAt 0 = .ok (.iconst 0, 1) := by decide +kernel
theorem dX4_characterAt_1 : decode cX4_characterAt 1 = .ok (.iload_n 1, 1) := by decide +kernel
theorem dX4_characterAt_2 : decode cX4_characterAt 2 = .ok (.if_icmp .gt 21, 3) := by decide +kernel
theorem dX4_characterAt_5 : decode cX4_characterAt 5 = .ok (.iload_n 1, 1) := by decide +kernel
theorem dX4_characterAt_6 : decode cX4_characterAt 6 = .ok (.aload_n 0, 1) := by decide +kernel
theorem dX4_characterAt_7 : decode cX4_characterAt 7 = .ok (.getfield 9, 3) := by decide +kernel
theorem dX4_characterAt_10 : decode cX4_characterAt 10 = .ok (.arraylength, 1) := by decide +kernel
theorem dX4_characterAt_11 : decode cX4_characterAt 11 = .ok (.if_icmp .ge 12, 3) := by decide +kernel
theorem dX4_characterAt_14 : decode cX4_characterAt 14 = .ok (.aload_n 0, 1) := by decide +kernel
theorem dX4_characterAt_15 : decode cX4_characterAt 15 = .ok (.getfield 9, 3) := by decide +kernel
theorem dX4_characterAt_18 : decode cX4_characterAt 18 = .ok (.iload_n 1, 1) := by decide +kernel
theorem dX4_characterAt_19 : decode cX4_characterAt 19 = .ok (.caload, 1) := by decide +kernel
theorem dX4_characterAt_20 : decode cX4_characterAt 20 = .ok (.goto 4, 3) := by decide +kernel
theorem dX4_characterAt_23 : decode cX4_characterAt 23 = .ok (.iconst 0, 1) := by decide +kernel
theorem dX4_characterAt_24 : decode cX4_characterAt 24 = .ok (.ireturn, 1) := by decide +kernel
theorem dJ9_floorMod_7cf53_0 : decode cJ9_floorMod_7cf53 0 = .ok (.iload_n 0, 1) := by decide +kernel
theorem dJ9_floorMod_7cf53_1 : decode cJ9_floorMod_7cf53 1 = .ok (.iload_n 1, 1) := by decide +kernel
theorem dJ9_floorMod_7cf53_2 : decode cJ9_floorMod_7cf53 2 = .ok (.irem, 1) := by decide +kernel
theorem dJ9_floorMod_7cf53_3 : decode cJ9_floorMod_7cf53 3 = .ok (.istore_n 2, 1) := by decide +kernel
theorem dJ9_floorMod_7cf53_4 : decode cJ9_floorMod_7cf53 4 = .ok (.iload_n 0, 1) := by decide +kernel
theorem dJ9_floorMod_7cf53_5 : decode cJ9_floorMod_7cf53 5 = .ok (.iload_n 1, 1) := by decide +kernel
theorem dJ9_floorMod_7cf53_6 : decode cJ9_floorMod_7cf53 6 = .ok (.ixor, 1) := by decide +kernel
theorem dJ9_floorMod_7cf53_7 : decode cJ9_floorMod_7cf53 7 = .ok (.ifCond .ge 11, 3) := by decide +kernel
theorem dJ9_floorMod_7cf53_10 : decode cJ9_floorMod_7cf53 10 = .ok (.iload_n 2, 1) := by decide +kernel
theorem dJ9_floorMod_7cf53_11 : decode cJ9_floorMod_7cf53 11 = .ok (.ifCond .eq 7, 3) := by decide +kernel
theorem dJ9_floorMod_7cf53_14 : decode cJ9_floorMod_7cf53 14 = .ok (.iload_n 2, 1) := by decide +kernel
theorem dJ9_floorMod_7cf53_15 : decode cJ9_floorMod_7cf53 15 = .ok (.iload_n 1, 1) := by decide +kernel
theorem dJ9_floorMod_7cf53_16 : decode cJ9_floorMod_7cf53 16 = .ok (.iadd, 1) := by decide +kernel
theorem dJ9_floorMod_7cf53_17 : decode cJ9_floorMod_7cf53 17 = .ok (.ireturn, 1) := by decide +kernel
theorem dJ9_floorMod_7cf53_18 : decode cJ9_floorMod_7cf53 18 = .ok (.iload_n 2, 1) := by decide +kernel
theorem dJ9_floorMod_7cf53_19 : decode cJ9_floorMod_7cf53 19 = .ok (.ireturn, 1) := by decide +kernel
end
section
theorem dX5_init_0 : decode cX5_init 0 = .ok (.aload_n 0, 1) := by decide +kernel
theorem dX5_init_1 : decode cX5_init 1 = .ok (.invokespecial 3, 3) := by decide +kernel
theorem dX5_init_4 : decode cX5_init 4 = .ok (.aload_n 0, 1) := by decide +kernel
theorem dX5_init_5 : decode cX5_init 5 = .ok (.new 9, 3) := by decide +kernel
theorem dX5_init_8 : decode cX5_init 8 = .ok (.dup, 1) := by decide +kernel
theorem dX5_init_9 : decode cX5_init 9 = .ok (.invokespecial 11, 3) := by decide +kernel
theorem dX5_init_12 : decode cX5_init 12 = .ok (.putfield 12, 3) := by decide +kernel
theorem dX5_init_15 : decode cX5_init 15 = .ok (.aload_n 0, 1) := by decide +kernel
theorem dX5_init_16 : decode cX5_init 16 = .ok (.new 16, 3) := by decide +kernel
theorem dX5_init_19 : decode cX5_init 19 = .ok (.dup, 1) := by decide +kernel
theorem dX5_init_20 : decode cX5_init 20 = .ok (.invokespecial 18, 3) := by decide +kernel
theorem dX5_init_23 : decode cX5_init 23 = .ok (.putfield 19, 3) := by decide +kernel
theorem dX5_init_26 : decode cX5_init 26 = .ok (.aload_n 0, 1) := by decide +kernel
theorem dX5_init_27 : decode cX5_init 27 = .ok (.new 23, 3) := by decide +kernel
theorem dX5_init_30 : decode cX5_init 30 = .ok (.dup, 1) := by decide +kernel
theorem dX5_init_31 : decode cX5_init 31 = .ok (.invokespecial 25, 3) := by decide +kernel
theorem dX5_init_34 : decode cX5_init 34 = .ok (.putfield 26, 3) := by decide +kernel
theorem dX5_init_37 : decode cX5_init 37 = .ok (.aload_n 0, 1) := by decide +kernel
theorem dX5_init_38 : decode cX5_init 38 = .ok (.new 30, 3) := by decide +kernel
theorem dX5_init_41 : decode cX5_init 41 = .ok (.dup, 1) := by decide +kernel
theorem dX5_init_42 : decode cX5_init 42 = .ok (.invokespecial 32, 3) := by decide +kernel
theorem dX5_init_45 : decode cX5_init 45 = .ok (.putfield 33, 3) := by decide +kernel
theorem dX5_init_48 : decode cX5_init 48 = .ok (.aload_n 0, 1) := by decide +kernel
theorem dX5_init_49 : decode cX5_init 49 = .ok (.new 9, 3) := by decide +kernel
theorem dX5_init_52 : decode cX5_init 52 = .ok (.dup, 1) := by decide +kernel
theorem dX5_init_53 : decode cX5_init 53 = .ok (.invokespecial 11, 3) := by decide +kernel
theorem dX5_init_56 : decode cX5_init 56 = .ok (.putfield 37, 3) := by decide +kernel
theorem dX5_init_59 : decode cX5_init 59 = .ok (.aload_n 0, 1) := by decide +kernel
theorem dX5_init_60 : decode cX5_init 60 = .ok (.new 9, 3) := by decide +kernel
theorem dX5_init_63 : decode cX5_init 63 = .ok (.dup, 1) := by decide +kernel
theorem dX5_init_64 : decode cX5_init 64 = .ok (.invokespecial 11, 3) := by decide +kernel
theorem dX5_init_67 : decode cX5_init 67 = .ok (.putfield 40, 3) := by decide +kernel
theorem dX5_init_70 : decode cX5_init 70 = .ok (.return_, 1) := by decide +kernel
theorem dX5_addRelay_0 : decode cX5_addRelay 0 = .ok (.iload_n 1, 1) := by decide +kernel
theorem dX5_addRelay_1 : decode cX5_addRelay 1 = .ok (.iload_n 2, 1) := by decide +kernel
theorem dX5_addRelay_2 : decode cX5_addRelay 2 = .ok (.iload_n 3, 1) := by decide +kernel
theorem dX5_addRelay_3 : decode cX5_addRelay 3 = .ok (.invokestatic 43, 3) := by decide +kernel
theorem dX5_addRelay_6 : decode cX5_addRelay 6 = .ok (.ifCond .ne 5, 3) := by decide +kernel
theorem dX5_addRelay_9 : decode cX5_addRelay 9 = .ok (.iconst (-1), 1) := by decide +kernel
theorem dX5_addRelay_10 : decode cX5_addRelay 10 = .ok (.ireturn, 1) := by decide +kernel
theorem dX5_addRelay_11 : decode cX5_addRelay 11 = .ok (.aload_n 0, 1) := by decide +kernel
theorem dX5_addRelay_12 : decode cX5_addRelay 12 = .ok (.getfield 12, 3) := by decide +kernel
theorem dX5_addRelay_15 : decode cX5_addRelay 15 = .ok (.getfield 47, 3) := by decide +kernel
theorem dX5_addRelay_18 : decode cX5_addRelay 18 = .ok (.bipush 8, 2) := by decide +kernel
theorem dX5_addRelay_20 : decode cX5_addRelay 20 = .ok (.if_icmp .lt 6, 3) := by decide +kernel
theorem dX5_addRelay_23 : decode cX5_addRelay 23 = .ok (.bipush (-3), 2) := by decide +kernel
theorem dX5_addRelay_25 : decode cX5_addRelay 25 = .ok (.ireturn, 1) := by decide +kernel
theorem dX5_addRelay_26 : decode cX5_addRelay 26 = .ok (.aload_n 0, 1) := by decide +kernel
theorem dX5_addRelay_27 : decode cX5_addRelay 27 = .ok (.getfield 19, 3) := by decide +kernel
theorem dX5_addRelay_30 : decode cX5_addRelay 30 = .ok (.aload_n 0, 1) := by decide +kernel
theorem dX5_addRelay_31 : decode cX5_addRelay 31 = .ok (.getfield 12, 3) := by decide +kernel
theorem dX5_addRelay_34 : decode cX5_addRelay 34 = .ok (.invokevirtual 51, 3) := by decide +kernel
theorem dX5_addRelay_37 : decode cX5_addRelay 37 = .ok (.aload_n 0, 1) := by decide +kernel
theorem dX5_addRelay_38 : decode cX5_addRelay 38 = .ok (.getfield 12, 3) := by decide +kernel
theorem dX5_addRelay_41 : decode cX5_addRelay 41 = .ok (.iload_n 1, 1) := by decide +kernel
theorem dX5_addRelay_42 : decode cX5_addRelay 42 = .ok (.iload_n 2, 1) := by decide +kernel
theorem dX5_addRelay_43 : decode cX5_addRelay 43 = .ok (.iload_n 3, 1) := by decide +kernel
theorem dX5_addRelay_44 : decode cX5_addRelay 44 = .ok (.invokevirtual 55, 3) := by decide +kernel
theorem dX5_addRelay_47 : decode cX5_addRelay 47 = .ok (.ireturn, 1) := by decide +kernel
theorem dX5_setDelays_0 : decode cX5_setDelays 0 = .ok (.aload_n 0, 1) := by decide +kernel
theorem dX5_setDelays_1 : decode cX5_setDelays 1 = .ok (.getfield 12, 3) := by decide +kernel
theorem dX5_setDelays_4 : decode cX5_setDelays 4 = .ok (.iload_n 1, 1) := by decide +kernel
theorem dX5_setDelays_5 : decode cX5_setDelays 5 = .ok (.invokevirtual 59, 3) := by decide +kernel
theorem dX5_setDelays_8 : decode cX5_setDelays 8 = .ok (.ifCond .eq 13, 3) := by decide +kernel
theorem dX5_setDelays_11 : decode cX5_setDelays 11 = .ok (.iload_n 2, 1) := by decide +kernel
theorem dX5_setDelays_12 : decode cX5_setDelays 12 = .ok (.iload_n 3, 1) := by decide +kernel
theorem dX5_setDelays_13 : decode cX5_setDelays 13 = .ok (.iload 4, 2) := by decide +kernel
theorem dX5_setDelays_15 : decode cX5_setDelays 15 = .ok (.invokestatic 43, 3) := by decide +kernel
theorem dX5_setDelays_18 : decode cX5_setDelays 18 = .ok (.ifCond .ne 5, 3) := by decide +kernel
theorem dX5_setDelays_21 : decode cX5_setDelays 21 = .ok (.iconst (-1), 1) := by decide +kernel
theorem dX5_setDelays_22 : decode cX5_setDelays 22 = .ok (.ireturn, 1) := by decide +kernel
theorem dX5_setDelays_23 : decode cX5_setDelays 23 = .ok (.aload_n 0, 1) := by decide +kernel
theorem dX5_setDelays_24 : decode cX5_setDelays 24 = .ok (.getfield 19, 3) := by decide +kernel
theorem dX5_setDelays_27 : decode cX5_setDelays 27 = .ok (.aload_n 0, 1) := by decide +kernel
theorem dX5_setDelays_28 : decode cX5_setDelays 28 = .ok (.getfield 12, 3) := by decide +kernel
theorem dX5_setDelays_31 : decode cX5_setDelays 31 = .ok (.invokevirtual 51, 3) := by decide +kernel
theorem dX5_setDelays_34 : decode cX5_setDelays 34 = .ok (.aload_n 0, 1) := by decide +kernel
theorem dX5_setDelays_35 : decode cX5_setDelays 35 = .ok (.getfield 12, 3) := by decide +kernel
theorem dX5_setDelays_38 : decode cX5_setDelays 38 = .ok (.iload_n 1, 1) := by decide +kernel
theorem dX5_setDelays_39 : decode cX5_setDelays 39 = .ok (.iload_n 2, 1) := by decide +kernel
theorem dX5_setDelays_40 : decode cX5_setDelays 40 = .ok (.iload_n 3, 1) := by decide +kernel
theorem dX5_setDelays_41 : decode cX5_setDelays 41 = .ok (.iload 4, 2) := by decide +kernel
theorem dX5_setDelays_43 : decode cX5_setDelays 43 = .ok (.invokevirtual 63, 3) := by decide +kernel
theorem dX5_setDelays_46 : decode cX5_setDelays 46 = .ok (.ifCond .eq 7, 3) := by decide +kernel
theorem dX5_setDelays_49 : decode cX5_setDelays 49 = .ok (.iconst 1, 1) := by decide +kernel
theorem dX5_setDelays_50 : decode cX5_setDelays 50 = .ok (.goto 4, 3) := by decide +kernel
theorem dX5_setDelays_53 : decode cX5_setDelays 53 = .ok (.iconst 0, 1) := by decide +kernel
theorem dX5_setDelays_54 : decode cX5_setDelays 54 = .ok (.ireturn, 1) := by decide +kernel
theorem dX5_setCondition_0 : decode cX5_setCondition 0 = .ok (.aload_n 0, 1) := by decide +kernel
theorem dX5_setCondition_1 : decode cX5_setCondition 1 = .ok (.getfield 12, 3) := by decide +kernel
theorem dX5_setCondition_4 : decode cX5_setCondition 4 = .ok (.iload_n 1, 1) := by decide +kernel
theorem dX5_setCondition_5 : decode cX5_setCondition 5 = .ok (.invokevirtual 59, 3) := by decide +kernel
theorem dX5_setCondition_8 : decode cX5_setCondition 8 = .ok (.ifCond .eq 19, 3) := by decide +kernel
theorem dX5_setCondition_11 : decode cX5_setCondition 11 = .ok (.iload_n 2, 1) := by decide +kernel
theorem dX5_setCondition_12 : decode cX5_setCondition 12 = .ok (.iconst 0, 1) := by decide +kernel
theorem dX5_setCondition_13 : decode cX5_setCondition 13 = .ok (.aload_n 0, 1) := by decide +kernel
theorem dX5_setCondition_14 : decode cX5_setCondition 14 = .ok (.getfield 12, 3) := by decide +kernel
theorem dX5_setCondition_17 : decode cX5_setCondition 17 = .ok (.iload_n 1, 1) := by decide +kernel
theorem dX5_setCondition_18 : decode cX5_setCondition 18 = .ok (.invokevirtual 67, 3) := by decide +kernel
theorem dX5_setCondition_21 : decode cX5_setCondition 21 = .ok (.invokestatic 71, 3) := by decide +kernel
theorem dX5_setCondition_24 : decode cX5_setCondition 24 = .ok (.ifCond .ne 5, 3) := by decide +kernel
theorem dX5_setCondition_27 : decode cX5_setCondition 27 = .ok (.iconst (-1), 1) := by decide +kernel
theorem dX5_setCondition_28 : decode cX5_setCondition 28 = .ok (.ireturn, 1) := by decide +kernel
theorem dX5_setCondition_29 : decode cX5_setCondition 29 = .ok (.iload_n 3, 1) := by decide +kernel
theorem dX5_setCondition_30 : decode cX5_setCondition 30 = .ok (.iconst 0, 1) := by decide +kernel
theorem dX5_setCondition_31 : decode cX5_setCondition 31 = .ok (.bipush 8, 2) := by decide +kernel
theorem dX5_setCondition_33 : decode cX5_setCondition 33 = .ok (.aload_n 0, 1) := by decide +kernel
theorem dX5_setCondition_34 : decode cX5_setCondition 34 = .ok (.getfield 12, 3) := by decide +kernel
theorem dX5_setCondition_37 : decode cX5_setCondition 37 = .ok (.getfield 47, 3) := by decide +kernel
theorem dX5_setCondition_40 : decode cX5_setCondition 40 = .ok (.iadd, 1) := by decide +kernel
theorem dX5_setCondition_41 : decode cX5_setCondition 41 = .ok (.iconst 1, 1) := by decide +kernel
theorem dX5_setCondition_42 : decode cX5_setCondition 42 = .ok (.isub, 1) := by decide +kernel
theorem dX5_setCondition_43 : decode cX5_setCondition 43 = .ok (.invokestatic 71, 3) := by decide +kernel
theorem dX5_setCondition_46 : decode cX5_setCondition 46 = .ok (.ifCond .eq 13, 3) := by decide +kernel
theorem dX5_setCondition_49 : decode cX5_setCondition 49 = .ok (.iload 4, 2) := by decide +kernel
theorem dX5_setCondition_51 : decode cX5_setCondition 51 = .ok (.iconst 0, 1) := by decide +kernel
theorem dX5_setCondition_52 : decode cX5_setCondition 52 = .ok (.iconst 2, 1) := by decide +kernel
theorem dX5_setCondition_53 : decode cX5_setCondition 53 = .ok (.invokestatic 71, 3) := by decide +kernel
theorem dX5_setCondition_56 : decode cX5_setCondition 56 = .ok (.ifCond .ne 5, 3) := by decide +kernel
theorem dX5_setCondition_59 : decode cX5_setCondition 59 = .ok (.iconst (-1), 1) := by decide +kernel
theorem dX5_setCondition_60 : decode cX5_setCondition 60 = .ok (.ireturn, 1) := by decide +kernel
theorem dX5_setCondition_61 : decode cX5_setCondition 61 = .ok (.iload_n 2, 1) := by decide +kernel
theorem dX5_setCondition_62 : decode cX5_setCondition 62 = .ok (.bipush 6, 2) := by decide +kernel
theorem dX5_setCondition_64 : decode cX5_setCondition 64 = .ok (.if_icmp .lt 6, 3) := by decide +kernel
theorem dX5_setCondition_67 : decode cX5_setCondition 67 = .ok (.bipush (-3), 2) := by decide +kernel
theorem dX5_setCondition_69 : decode cX5_setCondition 69 = .ok (.ireturn, 1) := by decide +kernel
theorem dX5_setCondition_70 : decode cX5_setCondition 70 = .ok (.aload_n 0, 1) := by decide +kernel
theorem dX5_setCondition_71 : decode cX5_setCondition 71 = .ok (.getfield 19, 3) := by decide +kernel
theorem dX5_setCondition_74 : decode cX5_setCondition 74 = .ok (.aload_n 0, 1) := by decide +kernel
theorem dX5_setCondition_75 : decode cX5_setCondition 75 = .ok (.getfield 12, 3) := by decide +kernel
theorem dX5_setCondition_78 : decode cX5_setCondition 78 = .ok (.invokevirtual 51, 3) := by decide +kernel
theorem dX5_setCondition_81 : decode cX5_setCondition 81 = .ok (.aload_n 0, 1) := by decide +kernel
theorem dX5_setCondition_82 : decode cX5_setCondition 82 = .ok (.getfield 12, 3) := by decide +kernel
theorem dX5_setCondition_85 : decode cX5_setCondition 85 = .ok (.iload_n 1, 1) := by decide +kernel
theorem dX5_setCondition_86 : decode cX5_setCondition 86 = .ok (.iload_n 2, 1) := by decide +kernel
theorem dX5_setCondition_87 : decode cX5_setCondition 87 = .ok (.iload_n 3, 1) := by decide +kernel
theorem dX5_setCondition_88 : decode cX5_setCondition 88 = .ok (.iload 4, 2) := by decide +kernel
theorem dX5_setCondition_90 : decode cX5_setCondition 90 = .ok (.invokevirtual 74, 3) := by decide +kernel
theorem dX5_setCondition_93 : decode cX5_setCondition 93 = .ok (.ireturn, 1) := by decide +kernel
theorem dX5_removeBranch_0 : decode cX5_removeBranch 0 = .ok (.aload_n 0, 1) := by decide +kernel
theorem dX5_removeBranch_1 : decode cX5_removeBranch 1 = .ok (.getfield 12, 3) := by decide +kernel
theorem dX5_removeBranch_4 : decode cX5_removeBranch 4 = .ok (.iload_n 1, 1) := by decide +kernel
theorem dX5_removeBranch_5 : decode cX5_removeBranch 5 = .ok (.invokevirtual 59, 3) := by decide +kernel
theorem dX5_removeBranch_8 : decode cX5_removeBranch 8 = .ok (.ifCond .eq 21, 3) := by decide +kernel
theorem dX5_removeBranch_11 : decode cX5_removeBranch 11 = .ok (.iload_n 2, 1) := by decide +kernel
theorem dX5_removeBranch_12 : decode cX5_removeBranch 12 = .ok (.iconst 0, 1) := by decide +kernel
theorem dX5_removeBranch_13 : decode cX5_removeBranch 13 = .ok (.aload_n 0, 1) := by decide +kernel
theorem dX5_removeBranch_14 : decode cX5_removeBranch 14 = .ok (.getfield 12, 3) := by decide +kernel
theorem dX5_removeBranch_17 : decode cX5_removeBranch 17 = .ok (.iload_n 1, 1) := by decide +kernel
theorem dX5_removeBranch_18 : decode cX5_removeBranch 18 = .ok (.invokevirtual 67, 3) := by decide +kernel
theorem dX5_removeBranch_21 : decode cX5_removeBranch 21 = .ok (.iconst 1, 1) := by decide +kernel
theorem dX5_removeBranch_22 : decode cX5_removeBranch 22 = .ok (.isub, 1) := by decide +kernel
theorem dX5_removeBranch_23 : decode cX5_removeBranch 23 = .ok (.invokestatic 71, 3) := by decide +kernel
theorem dX5_removeBranch_26 : decode cX5_removeBranch 26 = .ok (.ifCond .ne 5, 3) := by decide +kernel
theorem dX5_removeBranch_29 : decode cX5_removeBranch 29 = .ok (.iconst (-1), 1) := by decide +kernel
theorem dX5_removeBranch_30 : decode cX5_removeBranch 30 = .ok (.ireturn, 1) := by decide +kernel
theorem dX5_removeBranch_31 : decode cX5_removeBranch 31 = .ok (.aload_n 0, 1) := by decide +kernel
theorem dX5_removeBranch_32 : decode cX5_removeBranch 32 = .ok (.getfield 19, 3) := by decide +kernel
theorem dX5_removeBranch_35 : decode cX5_removeBranch 35 = .ok (.aload_n 0, 1) := by decide +kernel
theorem dX5_removeBranch_36 : decode cX5_removeBranch 36 = .ok (.getfield 12, 3) := by decide +kernel
theorem dX5_removeBranch_39 : decode cX5_removeBranch 39 = .ok (.invokevirtual 51, 3) := by decide +kernel
theorem dX5_removeBranch_42 : decode cX5_removeBranch 42 = .ok (.aload_n 0, 1) := by decide +kernel
theorem dX5_removeBranch_43 : decode cX5_removeBranch 43 = .ok (.getfield 12, 3) := by decide +kernel
theorem dX5_removeBranch_46 : decode cX5_removeBranch 46 = .ok (.iload_n 1, 1) := by decide +kernel
theorem dX5_removeBranch_47 : decode cX5_removeBranch 47 = .ok (.iload_n 2, 1) := by decide +kernel
theorem dX5_removeBranch_48 : decode cX5_removeBranch 48 = .ok (.invokevirtual 78, 3) := by decide +kernel
theorem dX5_removeBranch_51 : decode cX5_removeBranch 51 = .ok (.ireturn, 1) := by decide +kernel
theorem dX5_appendCharacter_0 : decode cX5_appendCharacter 0 = .ok (.iload_n 1, 1) := by decide +kernel
theorem dX5_appendCharacter_1 : decode cX5_appendCharacter 1 = .ok (.iconst 0, 1) := by decide +kernel
theorem dX5_appendCharacter_2 : decode cX5_appendCharacter 2 = .ok (.sipush 255, 3) := by decide +kernel
theorem dX5_appendCharacter_5 : decode cX5_appendCharacter 5 = .ok (.invokestatic 71, 3) := by decide +kernel
theorem dX5_appendCharacter_8 : decode cX5_appendCharacter 8 = .ok (.ifCond .ne 5, 3) := by decide +kernel
theorem dX5_appendCharacter_11 : decode cX5_appendCharacter 11 = .ok (.iconst (-1), 1) := by decide +kernel
theorem dX5_appendCharacter_12 : decode cX5_appendCharacter 12 = .ok (.ireturn, 1) := by decide +kernel
theorem dX5_appendCharacter_13 : decode cX5_appendCharacter 13 = .ok (.aload_n 0, 1) := by decide +kernel
theorem dX5_appendCharacter_14 : decode cX5_appendCharacter 14 = .ok (.getfield 26, 3) := by decide +kernel
theorem dX5_appendCharacter_17 : decode cX5_appendCharacter 17 = .ok (.getfield 82, 3) := by decide +kernel
theorem dX5_appendCharacter_20 : decode cX5_appendCharacter 20 = .ok (.bipush 60, 2) := by decide +kernel
theorem dX5_appendCharacter_22 : decode cX5_appendCharacter 22 = .ok (.if_icmp .lt 6, 3) := by decide +kernel
theorem dX5_appendCharacter_25 : decode cX5_appendCharacter 25 = .ok (.bipush (-3), 2) := by decide +kernel
theorem dX5_appendCharacter_27 : decode cX5_appendCharacter 27 = .ok (.ireturn, 1) := by decide +kernel
theorem dX5_appendCharacter_28 : decode cX5_appendCharacter 28 = .ok (.aload_n 0, 1) := by decide +kernel
theorem dX5_appendCharacter_29 : decode cX5_appendCharacter 29 = .ok (.getfield 26, 3) := by decide +kernel
theorem dX5_appendCharacter_32 : decode cX5_appendCharacter 32 = .ok (.iload_n 1, 1) := by decide +kernel
theorem dX5_appendCharacter_33 : decode cX5_appendCharacter 33 = .ok (.i2c, 1) := by decide +kernel
theorem dX5_appendCharacter_34 : decode cX5_appendCharacter 34 = .ok (.invokevirtual 85, 3) := by decide +kernel
theorem dX5_appendCharacter_37 : decode cX5_appendCharacter 37 = .ok (.aload_n 0, 1) := by decide +kernel
theorem dX5_appendCharacter_38 : decode cX5_appendCharacter 38 = .ok (.getfield 26, 3) := by decide +kernel
theorem dX5_appendCharacter_41 : decode cX5_appendCharacter 41 = .ok (.getfield 82, 3) := by decide +kernel
theorem dX5_appendCharacter_44 : decode cX5_appendCharacter 44 = .ok (.ireturn, 1) := by decide +kernel
theorem dX5_clearText_0 : decode cX5_clearText 0 = .ok (.aload_n 0, 1) := by decide +kernel
theorem dX5_clearText_1 : decode cX5_clearText 1 = .ok (.getfield 26, 3) := by decide +kernel
theorem dX5_clearText_4 : decode cX5_clearText 4 = .ok (.getfield 82, 3) := by decide +kernel
theorem dX5_clearText_7 : decode cX5_clearText 7 = .ok (.istore_n 1, 1) := by decide +kernel
theorem dX5_clearText_8 : decode cX5_clearText 8 = .ok (.aload_n 0, 1) := by decide +kernel
theorem dX5_clearText_9 : decode cX5_clearText 9 = .ok (.getfield 26, 3) := by decide +kernel
theorem dX5_clearText_12 : decode cX5_clearText 12 = .ok (.iconst 0, 1) := by decide +kernel
theorem dX5_clearText_13 : decode cX5_clearText 13 = .ok (.putfield 82, 3) := by decide +kernel
theorem dX5_clearText_16 : decode cX5_clearText 16 = .ok (.iload_n 1, 1) := by decide +kernel
theorem dX5_clearText_17 : decode cX5_clearText 17 = .ok (.ireturn, 1) := by decide +kernel
theorem dX5_load_0 : decode cX5_load 0 = .ok (.aload_n 0, 1) := by decide +kernel
theorem dX5_load_1 : decode cX5_load 1 = .ok (.getfield 12, 3) := by decide +kernel
theorem dX5_load_4 : decode cX5_load 4 = .ok (.iload_n 1, 1) := by decide +kernel
theorem dX5_load_5 : decode cX5_load 5 = .ok (.invokevirtual 59, 3) := by decide +kernel
theorem dX5_load_8 : decode cX5_load 8 = .ok (.ifCond .ne 5, 3) := by decide +kernel
theorem dX5_load_11 : decode cX5_load 11 = .ok (.iconst (-1), 1) := by decide +kernel
theorem dX5_load_12 : decode cX5_load 12 = .ok (.ireturn, 1) := by decide +kernel
theorem dX5_load_13 : decode cX5_load 13 = .ok (.aload_n 0, 1) := by decide +kernel
theorem dX5_load_14 : decode cX5_load 14 = .ok (.getfield 33, 3) := by decide +kernel
theorem dX5_load_17 : decode cX5_load 17 = .ok (.aload_n 0, 1) := by decide +kernel
theorem dX5_load_18 : decode cX5_load 18 = .ok (.getfield 26, 3) := by decide +kernel
theorem dX5_load_21 : decode cX5_load 21 = .ok (.aload_n 0, 1) := by decide +kernel
theorem dX5_load_22 : decode cX5_load 22 = .ok (.getfield 12, 3) := by decide +kernel
theorem dX5_load_25 : decode cX5_load 25 = .ok (.getfield 47, 3) := by decide +kernel
theorem dX5_load_28 : decode cX5_load 28 = .ok (.invokevirtual 89, 3) := by decide +kernel
theorem dX5_load_31 : decode cX5_load 31 = .ok (.istore_n 2, 1) := by decide +kernel
theorem dX5_load_32 : decode cX5_load 32 = .ok (.iload_n 2, 1) := by decide +kernel
theorem dX5_load_33 : decode cX5_load 33 = .ok (.iconst (-1), 1) := by decide +kernel
theorem dX5_load_34 : decode cX5_load 34 = .ok (.if_icmp .eq 8, 3) := by decide +kernel
theorem dX5_load_37 : decode cX5_load 37 = .ok (.bipush (-10), 2) := by decide +kernel
theorem dX5_load_39 : decode cX5_load 39 = .ok (.iload_n 2, 1) := by decide +kernel
theorem dX5_load_40 : decode cX5_load 40 = .ok (.isub, 1) := by decide +kernel
theorem dX5_load_41 : decode cX5_load 41 = .ok (.ireturn, 1) := by decide +kernel
theorem dX5_load_42 : decode cX5_load 42 = .ok (.aload_n 0, 1) := by decide +kernel
theorem dX5_load_43 : decode cX5_load 43 = .ok (.getfield 19, 3) := by decide +kernel
theorem dX5_load_46 : decode cX5_load 46 = .ok (.aload_n 0, 1) := by decide +kernel
theorem dX5_load_47 : decode cX5_load 47 = .ok (.getfield 12, 3) := by decide +kernel
theorem dX5_load_50 : decode cX5_load 50 = .ok (.invokevirtual 51, 3) := by decide +kernel
theorem dX5_load_53 : decode cX5_load 53 = .ok (.aload_n 0, 1) := by decide +kernel
theorem dX5_load_54 : decode cX5_load 54 = .ok (.getfield 12, 3) := by decide +kernel
theorem dX5_load_57 : decode cX5_load 57 = .ok (.iload_n 1, 1) := by decide +kernel
theorem dX5_load_58 : decode cX5_load 58 = .ok (.aload_n 0, 1) := by decide +kernel
theorem dX5_load_59 : decode cX5_load 59 = .ok (.getfield 33, 3) := by decide +kernel
theorem dX5_load_62 : decode cX5_load 62 = .ok (.getfield 93, 3) := by decide +kernel
theorem dX5_load_65 : decode cX5_load 65 = .ok (.aload_n 0, 1) := by decide +kernel
theorem dX5_load_66 : decode cX5_load 66 = .ok (.getfield 33, 3) := by decide +kernel
theorem dX5_load_69 : decode cX5_load 69 = .ok (.getfield 97, 3) := by decide +kernel
theorem dX5_load_72 : decode cX5_load 72 = .ok (.invokevirtual 100, 3) := by decide +kernel
theorem dX5_load_75 : decode cX5_load 75 = .ok (.aload_n 0, 1) := by decide +kernel
theorem dX5_load_76 : decode cX5_load 76 = .ok (.getfield 26, 3) := by decide +kernel
theorem dX5_load_79 : decode cX5_load 79 = .ok (.iconst 0, 1) := by decide +kernel
theorem dX5_load_80 : decode cX5_load 80 = .ok (.putfield 82, 3) := by decide +kernel
theorem dX5_load_83 : decode cX5_load 83 = .ok (.aload_n 0, 1) := by decide +kernel
theorem dX5_load_84 : decode cX5_load 84 = .ok (.getfield 33, 3) := by decide +kernel
theorem dX5_load_87 : decode cX5_load 87 = .ok (.getfield 97, 3) := by decide +kernel
theorem dX5_load_90 : decode cX5_load 90 = .ok (.ireturn, 1) := by decide +kernel
theorem dX5_press_0 : decode cX5_press 0 = .ok (.iload_n 1, 1) := by decide +kernel
theorem dX5_press_1 : decode cX5_press 1 = .ok (.invokestatic 104, 3) := by decide +kernel
theorem dX5_press_4 : decode cX5_press 4 = .ok (.ifCond .eq 12, 3) := by decide +kernel
theorem dX5_press_7 : decode cX5_press 7 = .ok (.iload_n 2, 1) := by decide +kernel
theorem dX5_press_8 : decode cX5_press 8 = .ok (.iconst 0, 1) := by decide +kernel
theorem dX5_press_9 : decode cX5_press 9 = .ok (.iconst 1, 1) := by decide +kernel
theorem dX5_press_10 : decode cX5_press 10 = .ok (.invokestatic 71, 3) := by decide +kernel
theorem dX5_press_13 : decode cX5_press 13 = .ok (.ifCond .ne 5, 3) := by decide +kernel
theorem dX5_press_16 : decode cX5_press 16 = .ok (.iconst (-1), 1) := by decide +kernel
theorem dX5_press_17 : decode cX5_press 17 = .ok (.ireturn, 1) := by decide +kernel
theorem dX5_press_18 : decode cX5_press 18 = .ok (.aload_n 0, 1) := by decide +kernel
theorem dX5_press_19 : decode cX5_press 19 = .ok (.getfield 12, 3) := by decide +kernel
theorem dX5_press_22 : decode cX5_press 22 = .ok (.getfield 107, 3) := by decide +kernel
theorem dX5_press_25 : decode cX5_press 25 = .ok (.iload_n 1, 1) := by decide +kernel
theorem dX5_press_26 : decode cX5_press 26 = .ok (.invokestatic 110, 3) := by decide +kernel
theorem dX5_press_29 : decode cX5_press 29 = .ok (.iload_n 2, 1) := by decide +kernel
theorem dX5_press_30 : decode cX5_press 30 = .ok (.iconst 1, 1) := by decide +kernel
theorem dX5_press_31 : decode cX5_press 31 = .ok (.if_icmp .ne 7, 3) := by decide +kernel
theorem dX5_press_34 : decode cX5_press 34 = .ok (.iconst 1, 1) := by decide +kernel
theorem dX5_press_35 : decode cX5_press 35 = .ok (.goto 4, 3) := by decide +kernel
theorem dX5_press_38 : decode cX5_press 38 = .ok (.iconst 0, 1) := by decide +kernel
theorem dX5_press_39 : decode cX5_press 39 = .ok (.if_icmp .ne 6, 3) := by decide +kernel
theorem dX5_press_42 : decode cX5_press 42 = .ok (.bipush (-2), 2) := by decide +kernel
theorem dX5_press_44 : decode cX5_press 44 = .ok (.ireturn, 1) := by decide +kernel
theorem dX5_press_45 : decode cX5_press 45 = .ok (.aload_n 0, 1) := by decide +kernel
theorem dX5_press_46 : decode cX5_press 46 = .ok (.getfield 19, 3) := by decide +kernel
theorem dX5_press_49 : decode cX5_press 49 = .ok (.aload_n 0, 1) := by decide +kernel
theorem dX5_press_50 : decode cX5_press 50 = .ok (.getfield 12, 3) := by decide +kernel
theorem dX5_press_53 : decode cX5_press 53 = .ok (.invokevirtual 51, 3) := by decide +kernel
theorem dX5_press_56 : decode cX5_press 56 = .ok (.aload_n 0, 1) := by decide +kernel
theorem dX5_press_57 : decode cX5_press 57 = .ok (.getfield 12, 3) := by decide +kernel
theorem dX5_press_60 : decode cX5_press 60 = .ok (.iload_n 1, 1) := by decide +kernel
theorem dX5_press_61 : decode cX5_press 61 = .ok (.invokevirtual 114, 3) := by decide +kernel
theorem dX5_press_64 : decode cX5_press 64 = .ok (.ireturn, 1) := by decide +kernel
theorem dX5_setFault_0 : decode cX5_setFault 0 = .ok (.aload_n 0, 1) := by decide +kernel
theorem dX5_setFault_1 : decode cX5_setFault 1 = .ok (.getfield 12, 3) := by decide +kernel
theorem dX5_setFault_4 : decode cX5_setFault 4 = .ok (.iload_n 1, 1) := by decide +kernel
theorem dX5_setFault_5 : decode cX5_setFault 5 = .ok (.invokevirtual 59, 3) := by decide +kernel
theorem dX5_setFault_8 : decode cX5_setFault 8 = .ok (.ifCond .eq 12, 3) := by decide +kernel
theorem dX5_setFault_11 : decode cX5_setFault 11 = .ok (.iload_n 2, 1) := by decide +kernel
theorem dX5_setFault_12 : decode cX5_setFault 12 = .ok (.iconst 0, 1) := by decide +kernel
theorem dX5_setFault_13 : decode cX5_setFault 13 = .ok (.iconst 2, 1) := by decide +kernel
theorem dX5_setFault_14 : decode cX5_setFault 14 = .ok (.invokestatic 71, 3) := by decide +kernel
theorem dX5_setFault_17 : decode cX5_setFault 17 = .ok (.ifCond .ne 5, 3) := by decide +kernel
theorem dX5_setFault_20 : decode cX5_setFault 20 = .ok (.iconst (-1), 1) := by decide +kernel
theorem dX5_setFault_21 : decode cX5_setFault 21 = .ok (.ireturn, 1) := by decide +kernel
theorem dX5_setFault_22 : decode cX5_setFault 22 = .ok (.aload_n 0, 1) := by decide +kernel
theorem dX5_setFault_23 : decode cX5_setFault 23 = .ok (.getfield 19, 3) := by decide +kernel
theorem dX5_setFault_26 : decode cX5_setFault 26 = .ok (.aload_n 0, 1) := by decide +kernel
theorem dX5_setFault_27 : decode cX5_setFault 27 = .ok (.getfield 12, 3) := by decide +kernel
theorem dX5_setFault_30 : decode cX5_setFault 30 = .ok (.invokevirtual 51, 3) := by decide +kernel
theorem dX5_setFault_33 : decode cX5_setFault 33 = .ok (.aload_n 0, 1) := by decide +kernel
theorem dX5_setFault_34 : decode cX5_setFault 34 = .ok (.getfield 12, 3) := by decide +kernel
theorem dX5_setFault_37 : decode cX5_setFault 37 = .ok (.iload_n 1, 1) := by decide +kernel
theorem dX5_setFault_38 : decode cX5_setFault 38 = .ok (.invokevirtual 117, 3) := by decide +kernel
theorem dX5_setFault_41 : decode cX5_setFault 41 = .ok (.istore_n 3, 1) := by decide +kernel
theorem dX5_setFault_42 : decode cX5_setFault 42 = .ok (.aload_n 0, 1) := by decide +kernel
theorem dX5_setFault_43 : decode cX5_setFault 43 = .ok (.getfield 12, 3) := by decide +kernel
theorem dX5_setFault_46 : decode cX5_setFault 46 = .ok (.iload_n 1, 1) := by decide +kernel
theorem dX5_setFault_47 : decode cX5_setFault 47 = .ok (.iload_n 2, 1) := by decide +kernel
theorem dX5_setFault_48 : decode cX5_setFault 48 = .ok (.invokevirtual 120, 3) := by decide +kernel
theorem dX5_setFault_51 : decode cX5_setFault 51 = .ok (.iload_n 3, 1) := by decide +kernel
theorem dX5_setFault_52 : decode cX5_setFault 52 = .ok (.ireturn, 1) := by decide +kernel
theorem dX5_stick_0 : decode cX5_stick 0 = .ok (.aload_n 0, 1) := by decide +kernel
theorem dX5_stick_1 : decode cX5_stick 1 = .ok (.getfield 12, 3) := by decide +kernel
theorem dX5_stick_4 : decode cX5_stick 4 = .ok (.iload_n 1, 1) := by decide +kernel
theorem dX5_stick_5 : decode cX5_stick 5 = .ok (.invokevirtual 59, 3) := by decide +kernel
theorem dX5_stick_8 : decode cX5_stick 8 = .ok (.ifCond .eq 12, 3) := by decide +kernel
theorem dX5_stick_11 : decode cX5_stick 11 = .ok (.iload_n 2, 1) := by decide +kernel
theorem dX5_stick_12 : decode cX5_stick 12 = .ok (.iconst 0, 1) := by decide +kernel
theorem dX5_stick_13 : decode cX5_stick 13 = .ok (.iconst 1, 1) := by decide +kernel
theorem dX5_stick_14 : decode cX5_stick 14 = .ok (.invokestatic 71, 3) := by decide +kernel
theorem dX5_stick_17 : decode cX5_stick 17 = .ok (.ifCond .ne 5, 3) := by decide +kernel
theorem dX5_stick_20 : decode cX5_stick 20 = .ok (.iconst (-1), 1) := by decide +kernel
theorem dX5_stick_21 : decode cX5_stick 21 = .ok (.ireturn, 1) := by decide +kernel
theorem dX5_stick_22 : decode cX5_stick 22 = .ok (.aload_n 0, 1) := by decide +kernel
theorem dX5_stick_23 : decode cX5_stick 23 = .ok (.getfield 19, 3) := by decide +kernel
theorem dX5_stick_26 : decode cX5_stick 26 = .ok (.aload_n 0, 1) := by decide +kernel
theorem dX5_stick_27 : decode cX5_stick 27 = .ok (.getfield 12, 3) := by decide +kernel
theorem dX5_stick_30 : decode cX5_stick 30 = .ok (.invokevirtual 51, 3) := by decide +kernel
theorem dX5_stick_33 : decode cX5_stick 33 = .ok (.aload_n 0, 1) := by decide +kernel
theorem dX5_stick_34 : decode cX5_stick 34 = .ok (.getfield 12, 3) := by decide +kernel
theorem dX5_stick_37 : decode cX5_stick 37 = .ok (.getfield 124, 3) := by decide +kernel
theorem dX5_stick_40 : decode cX5_stick 40 = .ok (.iload_n 1, 1) := by decide +kernel
theorem dX5_stick_41 : decode cX5_stick 41 = .ok (.invokestatic 127, 3) := by decide +kernel
theorem dX5_stick_44 : decode cX5_stick 44 = .ok (.istore_n 3, 1) := by decide +kernel
theorem dX5_stick_45 : decode cX5_stick 45 = .ok (.aload_n 0, 1) := by decide +kernel
theorem dX5_stick_46 : decode cX5_stick 46 = .ok (.getfield 12, 3) := by decide +kernel
theorem dX5_stick_49 : decode cX5_stick 49 = .ok (.iload_n 2, 1) := by decide +kernel
theorem dX5_stick_50 : decode cX5_stick 50 = .ok (.iconst 1, 1) := by decide +kernel
theorem dX5_stick_51 : decode cX5_stick 51 = .ok (.if_icmp .ne 17, 3) := by decide +kernel
theorem dX5_stick_54 : decode cX5_stick 54 = .ok (.aload_n 0, 1) := by decide +kernel
theorem dX5_stick_55 : decode cX5_stick 55 = .ok (.getfield 12, 3) := by decide +kernel
theorem dX5_stick_58 : decode cX5_stick 58 = .ok (.getfield 124, 3) := by decide +kernel
theorem dX5_stick_61 : decode cX5_stick 61 = .ok (.iconst 1, 1) := by decide +kernel
theorem dX5_stick_62 : decode cX5_stick 62 = .ok (.iload_n 1, 1) := by decide +kernel
theorem dX5_stick_63 : decode cX5_stick 63 = .ok (.ishl, 1) := by decide +kernel
theorem dX5_stick_64 : decode cX5_stick 64 = .ok (.ior, 1) := by decide +kernel
theorem dX5_stick_65 : decode cX5_stick 65 = .ok (.goto 16, 3) := by decide +kernel
theorem dX5_stick_68 : decode cX5_stick 68 = .ok (.aload_n 0, 1) := by decide +kernel
theorem dX5_stick_69 : decode cX5_stick 69 = .ok (.getfield 12, 3) := by decide +kernel
theorem dX5_stick_72 : decode cX5_stick 72 = .ok (.getfield 124, 3) := by decide +kernel
theorem dX5_stick_75 : decode cX5_stick 75 = .ok (.iconst 1, 1) := by decide +kernel
theorem dX5_stick_76 : decode cX5_stick 76 = .ok (.iload_n 1, 1) := by decide +kernel
theorem dX5_stick_77 : decode cX5_stick 77 = .ok (.ishl, 1) := by decide +kernel
theorem dX5_stick_78 : decode cX5_stick 78 = .ok (.iconst (-1), 1) := by decide +kernel
theorem dX5_stick_79 : decode cX5_stick 79 = .ok (.ixor, 1) := by decide +kernel
theorem dX5_stick_80 : decode cX5_stick 80 = .ok (.iand, 1) := by decide +kernel
theorem dX5_stick_81 : decode cX5_stick 81 = .ok (.putfield 124, 3) := by decide +kernel
theorem dX5_stick_84 : decode cX5_stick 84 = .ok (.iload_n 3, 1) := by decide +kernel
theorem dX5_stick_85 : decode cX5_stick 85 = .ok (.ireturn, 1) := by decide +kernel
theorem dX5_step_0 : decode cX5_step 0 = .ok (.aload_n 0, 1) := by decide +kernel
theorem dX5_step_1 : decode cX5_step 1 = .ok (.getfield 12, 3) := by decide +kernel
theorem dX5_step_4 : decode cX5_step 4 = .ok (.iconst 0, 1) := by decide +kernel
theorem dX5_step_5 : decode cX5_step 5 = .ok (.invokevirtual 130, 3) := by decide +kernel
theorem dX5_step_8 : decode cX5_step 8 = .ok (.istore_n 1, 1) := by decide +kernel
theorem dX5_step_9 : decode cX5_step 9 = .ok (.iload_n 1, 1) := by decide +kernel
theorem dX5_step_10 : decode cX5_step 10 = .ok (.iconst (-1), 1) := by decide +kernel
theorem dX5_step_11 : decode cX5_step 11 = .ok (.if_icmp .ne 6, 3) := by decide +kernel
theorem dX5_step_14 : decode cX5_step 14 = .ok (.bipush (-2), 2) := by decide +kernel
theorem dX5_step_16 : decode cX5_step 16 = .ok (.ireturn, 1) := by decide +kernel
theorem dX5_step_17 : decode cX5_step 17 = .ok (.aload_n 0, 1) := by decide +kernel
theorem dX5_step_18 : decode cX5_step 18 = .ok (.getfield 19, 3) := by decide +kernel
theorem dX5_step_21 : decode cX5_step 21 = .ok (.aload_n 0, 1) := by decide +kernel
theorem dX5_step_22 : decode cX5_step 22 = .ok (.getfield 12, 3) := by decide +kernel
theorem dX5_step_25 : decode cX5_step 25 = .ok (.invokevirtual 51, 3) := by decide +kernel
theorem dX5_step_28 : decode cX5_step 28 = .ok (.aload_n 0, 1) := by decide +kernel
theorem dX5_step_29 : decode cX5_step 29 = .ok (.getfield 12, 3) := by decide +kernel
theorem dX5_step_32 : decode cX5_step 32 = .ok (.iload_n 1, 1) := by decide +kernel
theorem dX5_step_33 : decode cX5_step 33 = .ok (.invokevirtual 134, 3) := by decide +kernel
theorem dX5_step_36 : decode cX5_step 36 = .ok (.istore_n 2, 1) := by decide +kernel
theorem dX5_step_37 : decode cX5_step 37 = .ok (.aload_n 0, 1) := by decide +kernel
theorem dX5_step_38 : decode cX5_step 38 = .ok (.getfield 12, 3) := by decide +kernel
theorem dX5_step_41 : decode cX5_step 41 = .ok (.iload_n 1, 1) := by decide +kernel
theorem dX5_step_42 : decode cX5_step 42 = .ok (.invokevirtual 137, 3) := by decide +kernel
theorem dX5_step_45 : decode cX5_step 45 = .ok (.bipush 10, 2) := by decide +kernel
theorem dX5_step_47 : decode cX5_step 47 = .ok (.iload_n 1, 1) := by decide +kernel
theorem dX5_step_48 : decode cX5_step 48 = .ok (.invokestatic 141, 3) := by decide +kernel
theorem dX5_step_51 : decode cX5_step 51 = .ok (.imul, 1) := by decide +kernel
theorem dX5_step_52 : decode cX5_step 52 = .ok (.iload_n 2, 1) := by decide +kernel
theorem dX5_step_53 : decode cX5_step 53 = .ok (.iadd, 1) := by decide +kernel
theorem dX5_step_54 : decode cX5_step 54 = .ok (.ireturn, 1) := by decide +kernel
theorem dX5_settle_0 : decode cX5_settle 0 = .ok (.iload_n 1, 1) := by decide +kernel
theorem dX5_settle_1 : decode cX5_settle 1 = .ok (.iconst 1, 1) := by decide +kernel
theorem dX5_settle_2 : decode cX5_settle 2 = .ok (.sipush 200, 3) := by decide +kernel
theorem dX5_settle_5 : decode cX5_settle 5 = .ok (.invokestatic 71, 3) := by decide +kernel
theorem dX5_settle_8 : decode cX5_settle 8 = .ok (.ifCond .ne 5, 3) := by decide +kernel
theorem dX5_settle_11 : decode cX5_settle 11 = .ok (.iconst (-1), 1) := by decide +kernel
theorem dX5_settle_12 : decode cX5_settle 12 = .ok (.ireturn, 1) := by decide +kernel
theorem dX5_settle_13 : decode cX5_settle 13 = .ok (.aload_n 0, 1) := by decide +kernel
theorem dX5_settle_14 : decode cX5_settle 14 = .ok (.getfield 19, 3) := by decide +kernel
theorem dX5_settle_17 : decode cX5_settle 17 = .ok (.aload_n 0, 1) := by decide +kernel
theorem dX5_settle_18 : decode cX5_settle 18 = .ok (.getfield 12, 3) := by decide +kernel
theorem dX5_settle_21 : decode cX5_settle 21 = .ok (.invokevirtual 51, 3) := by decide +kernel
theorem dX5_settle_24 : decode cX5_settle 24 = .ok (.aload_n 0, 1) := by decide +kernel
theorem dX5_settle_25 : decode cX5_settle 25 = .ok (.getfield 12, 3) := by decide +kernel
theorem dX5_settle_28 : decode cX5_settle 28 = .ok (.iload_n 1, 1) := by decide +kernel
theorem dX5_settle_29 : decode cX5_settle 29 = .ok (.ldc 144, 2) := by decide +kernel
theorem dX5_settle_31 : decode cX5_settle 31 = .ok (.iconst 0, 1) := by decide +kernel
theorem dX5_settle_32 : decode cX5_settle 32 = .ok (.invokevirtual 145, 3) := by decide +kernel
theorem dX5_settle_35 : decode cX5_settle 35 = .ok (.ireturn, 1) := by decide +kernel
theorem dX5_pass_0 : decode cX5_pass 0 = .ok (.iload_n 1, 1) := by decide +kernel
theorem dX5_pass_1 : decode cX5_pass 1 = .ok (.iconst 1, 1) := by decide +kernel
theorem dX5_pass_2 : decode cX5_pass 2 = .ok (.sipush 1000, 3) := by decide +kernel
theorem dX5_pass_5 : decode cX5_pass 5 = .ok (.invokestatic 71, 3) := by decide +kernel
theorem dX5_pass_8 : decode cX5_pass 8 = .ok (.ifCond .ne 5, 3) := by decide +kernel
theorem dX5_pass_11 : decode cX5_pass 11 = .ok (.iconst (-1), 1) := by decide +kernel
theorem dX5_pass_12 : decode cX5_pass 12 = .ok (.ireturn, 1) := by decide +kernel
theorem dX5_pass_13 : decode cX5_pass 13 = .ok (.aload_n 0, 1) := by decide +kernel
theorem dX5_pass_14 : decode cX5_pass 14 = .ok (.getfield 12, 3) := by decide +kernel
theorem dX5_pass_17 : decode cX5_pass 17 = .ok (.getfield 149, 3) := by decide +kernel
theorem dX5_pass_20 : decode cX5_pass 20 = .ok (.iload_n 1, 1) := by decide +kernel
theorem dX5_pass_21 : decode cX5_pass 21 = .ok (.iadd, 1) := by decide +kernel
theorem dX5_pass_22 : decode cX5_pass 22 = .ok (.istore_n 2, 1) := by decide +kernel
theorem dX5_pass_23 : decode cX5_pass 23 = .ok (.iload_n 2, 1) := by decide +kernel
theorem dX5_pass_24 : decode cX5_pass 24 = .ok (.ldc 152, 2) := by decide +kernel
theorem dX5_pass_26 : decode cX5_pass 26 = .ok (.if_icmp .le 6, 3) := by decide +kernel
theorem dX5_pass_29 : decode cX5_pass 29 = .ok (.bipush (-3), 2) := by decide +kernel
theorem dX5_pass_31 : decode cX5_pass 31 = .ok (.ireturn, 1) := by decide +kernel
theorem dX5_pass_32 : decode cX5_pass 32 = .ok (.aload_n 0, 1) := by decide +kernel
theorem dX5_pass_33 : decode cX5_pass 33 = .ok (.getfield 40, 3) := by decide +kernel
theorem dX5_pass_36 : decode cX5_pass 36 = .ok (.aload_n 0, 1) := by decide +kernel
theorem dX5_pass_37 : decode cX5_pass 37 = .ok (.getfield 12, 3) := by decide +kernel
theorem dX5_pass_40 : decode cX5_pass 40 = .ok (.invokevirtual 153, 3) := by decide +kernel
theorem dX5_pass_43 : decode cX5_pass 43 = .ok (.aload_n 0, 1) := by decide +kernel
theorem dX5_pass_44 : decode cX5_pass 44 = .ok (.getfield 40, 3) := by decide +kernel
theorem dX5_pass_47 : decode cX5_pass 47 = .ok (.sipush 201, 3) := by decide +kernel
theorem dX5_pass_50 : decode cX5_pass 50 = .ok (.iload_n 2, 1) := by decide +kernel
theorem dX5_pass_51 : decode cX5_pass 51 = .ok (.iconst 0, 1) := by decide +kernel
theorem dX5_pass_52 : decode cX5_pass 52 = .ok (.invokevirtual 145, 3) := by decide +kernel
theorem dX5_pass_55 : decode cX5_pass 55 = .ok (.istore_n 3, 1) := by decide +kernel
theorem dX5_pass_56 : decode cX5_pass 56 = .ok (.iload_n 3, 1) := by decide +kernel
theorem dX5_pass_57 : decode cX5_pass 57 = .ok (.sipush 200, 3) := by decide +kernel
theorem dX5_pass_60 : decode cX5_pass 60 = .ok (.if_icmp .le 6, 3) := by decide +kernel
theorem dX5_pass_63 : decode cX5_pass 63 = .ok (.bipush (-3), 2) := by decide +kernel
theorem dX5_pass_65 : decode cX5_pass 65 = .ok (.ireturn, 1) := by decide +kernel
theorem dX5_pass_66 : decode cX5_pass 66 = .ok (.aload_n 0, 1) := by decide +kernel
theorem dX5_pass_67 : decode cX5_pass 67 = .ok (.getfield 19, 3) := by decide +kernel
theorem dX5_pass_70 : decode cX5_pass 70 = .ok (.aload_n 0, 1) := by decide +kernel
theorem dX5_pass_71 : decode cX5_pass 71 = .ok (.getfield 12, 3) := by decide +kernel
theorem dX5_pass_74 : decode cX5_pass 74 = .ok (.invokevirtual 51, 3) := by decide +kernel
theorem dX5_pass_77 : decode cX5_pass 77 = .ok (.aload_n 0, 1) := by decide +kernel
theorem dX5_pass_78 : decode cX5_pass 78 = .ok (.getfield 12, 3) := by decide +kernel
theorem dX5_pass_81 : decode cX5_pass 81 = .ok (.aload_n 0, 1) := by decide +kernel
theorem dX5_pass_82 : decode cX5_pass 82 = .ok (.getfield 40, 3) := by decide +kernel
theorem dX5_pass_85 : decode cX5_pass 85 = .ok (.invokevirtual 153, 3) := by decide +kernel
theorem dX5_pass_88 : decode cX5_pass 88 = .ok (.aload_n 0, 1) := by decide +kernel
theorem dX5_pass_89 : decode cX5_pass 89 = .ok (.getfield 12, 3) := by decide +kernel
theorem dX5_pass_92 : decode cX5_pass 92 = .ok (.iload_n 2, 1) := by decide +kernel
theorem dX5_pass_93 : decode cX5_pass 93 = .ok (.putfield 149, 3) := by decide +kernel
theorem dX5_pass_96 : decode cX5_pass 96 = .ok (.iload_n 3, 1) := by decide +kernel
theorem dX5_pass_97 : decode cX5_pass 97 = .ok (.ireturn, 1) := by decide +kernel
theorem dX5_count_0 : decode cX5_count 0 = .ok (.iload_n 1, 1) := by decide +kernel
theorem dX5_count_1 : decode cX5_count 1 = .ok (.tableswitch 135 0 9 #[55, 63, 71, 79, 87, 95, 103, 111, 119, 127], 55) := by decide +kernel
theorem dX5_count_56 : decode cX5_count 56 = .ok (.aload_n 0, 1) := by decide +kernel
theorem dX5_count_57 : decode cX5_count 57 = .ok (.getfield 12, 3) := by decide +kernel
theorem dX5_count_60 : decode cX5_count 60 = .ok (.getfield 47, 3) := by decide +kernel
theorem dX5_count_63 : decode cX5_count 63 = .ok (.ireturn, 1) := by decide +kernel
theorem dX5_count_64 : decode cX5_count 64 = .ok (.aload_n 0, 1) := by decide +kernel
theorem dX5_count_65 : decode cX5_count 65 = .ok (.getfield 12, 3) := by decide +kernel
theorem dX5_count_68 : decode cX5_count 68 = .ok (.getfield 149, 3) := by decide +kernel
theorem dX5_count_71 : decode cX5_count 71 = .ok (.ireturn, 1) := by decide +kernel
theorem dX5_count_72 : decode cX5_count 72 = .ok (.aload_n 0, 1) := by decide +kernel
theorem dX5_count_73 : decode cX5_count 73 = .ok (.getfield 12, 3) := by decide +kernel
theorem dX5_count_76 : decode cX5_count 76 = .ok (.invokevirtual 156, 3) := by decide +kernel
theorem dX5_count_79 : decode cX5_count 79 = .ok (.ireturn, 1) := by decide +kernel
theorem dX5_count_80 : decode cX5_count 80 = .ok (.aload_n 0, 1) := by decide +kernel
theorem dX5_count_81 : decode cX5_count 81 = .ok (.getfield 12, 3) := by decide +kernel
theorem dX5_count_84 : decode cX5_count 84 = .ok (.getfield 107, 3) := by decide +kernel
theorem dX5_count_87 : decode cX5_count 87 = .ok (.ireturn, 1) := by decide +kernel
theorem dX5_count_88 : decode cX5_count 88 = .ok (.aload_n 0, 1) := by decide +kernel
theorem dX5_count_89 : decode cX5_count 89 = .ok (.getfield 12, 3) := by decide +kernel
theorem dX5_count_92 : decode cX5_count 92 = .ok (.getfield 160, 3) := by decide +kernel
theorem dX5_count_95 : decode cX5_count 95 = .ok (.ireturn, 1) := by decide +kernel
theorem dX5_count_96 : decode cX5_count 96 = .ok (.aload_n 0, 1) := by decide +kernel
theorem dX5_count_97 : decode cX5_count 97 = .ok (.getfield 12, 3) := by decide +kernel
theorem dX5_count_100 : decode cX5_count 100 = .ok (.getfield 163, 3) := by decide +kernel
theorem dX5_count_103 : decode cX5_count 103 = .ok (.ireturn, 1) := by decide +kernel
theorem dX5_count_104 : decode cX5_count 104 = .ok (.aload_n 0, 1) := by decide +kernel
theorem dX5_count_105 : decode cX5_count 105 = .ok (.getfield 12, 3) := by decide +kernel
theorem dX5_count_108 : decode cX5_count 108 = .ok (.invokevirtual 166, 3) := by decide +kernel
theorem dX5_count_111 : decode cX5_count 111 = .ok (.ireturn, 1) := by decide +kernel
theorem dX5_count_112 : decode cX5_count 112 = .ok (.aload_n 0, 1) := by decide +kernel
theorem dX5_count_113 : decode cX5_count 113 = .ok (.getfield 12, 3) := by decide +kernel
theorem dX5_count_116 : decode cX5_count 116 = .ok (.getfield 169, 3) := by decide +kernel
theorem dX5_count_119 : decode cX5_count 119 = .ok (.ireturn, 1) := by decide +kernel
theorem dX5_count_120 : decode cX5_count 120 = .ok (.aload_n 0, 1) := by decide +kernel
theorem dX5_count_121 : decode cX5_count 121 = .ok (.getfield 26, 3) := by decide +kernel
theorem dX5_count_124 : decode cX5_count 124 = .ok (.getfield 82, 3) := by decide +kernel
theorem dX5_count_127 : decode cX5_count 127 = .ok (.ireturn, 1) := by decide +kernel
theorem dX5_count_128 : decode cX5_count 128 = .ok (.aload_n 0, 1) := by decide +kernel
theorem dX5_count_129 : decode cX5_count 129 = .ok (.getfield 19, 3) := by decide +kernel
theorem dX5_count_132 : decode cX5_count 132 = .ok (.getfield 172, 3) := by decide +kernel
theorem dX5_count_135 : decode cX5_count 135 = .ok (.ireturn, 1) := by decide +kernel
theorem dX5_count_136 : decode cX5_count 136 = .ok (.iconst (-1), 1) := by decide +kernel
theorem dX5_count_137 : decode cX5_count 137 = .ok (.ireturn, 1) := by decide +kernel
theorem dX5_relay_0 : decode cX5_relay 0 = .ok (.aload_n 0, 1) := by decide +kernel
theorem dX5_relay_1 : decode cX5_relay 1 = .ok (.getfield 12, 3) := by decide +kernel
theorem dX5_relay_4 : decode cX5_relay 4 = .ok (.iload_n 1, 1) := by decide +kernel
theorem dX5_relay_5 : decode cX5_relay 5 = .ok (.invokevirtual 59, 3) := by decide +kernel
theorem dX5_relay_8 : decode cX5_relay 8 = .ok (.ifCond .ne 5, 3) := by decide +kernel
theorem dX5_relay_11 : decode cX5_relay 11 = .ok (.iconst (-1), 1) := by decide +kernel
theorem dX5_relay_12 : decode cX5_relay 12 = .ok (.ireturn, 1) := by decide +kernel
theorem dX5_relay_13 : decode cX5_relay 13 = .ok (.iload_n 2, 1) := by decide +kernel
theorem dX5_relay_14 : decode cX5_relay 14 = .ok (.tableswitch 157 0 7 #[46, 58, 70, 82, 91, 100, 112, 133], 46) := by decide +kernel
theorem dX5_relay_60 : decode cX5_relay 60 = .ok (.aload_n 0, 1) := by decide +kernel
theorem dX5_relay_61 : decode cX5_relay 61 = .ok (.getfield 12, 3) := by decide +kernel
theorem dX5_relay_64 : decode cX5_relay 64 = .ok (.getfield 173, 3) := by decide +kernel
theorem dX5_relay_67 : decode cX5_relay 67 = .ok (.iload_n 1, 1) := by decide +kernel
theorem dX5_relay_68 : decode cX5_relay 68 = .ok (.invokestatic 176, 3) := by decide +kernel
theorem dX5_relay_71 : decode cX5_relay 71 = .ok (.ireturn, 1) := by decide +kernel
theorem dX5_relay_72 : decode cX5_relay 72 = .ok (.aload_n 0, 1) := by decide +kernel
theorem dX5_relay_73 : decode cX5_relay 73 = .ok (.getfield 12, 3) := by decide +kernel
theorem dX5_relay_76 : decode cX5_relay 76 = .ok (.getfield 180, 3) := by decide +kernel
theorem dX5_relay_79 : decode cX5_relay 79 = .ok (.iload_n 1, 1) := by decide +kernel
theorem dX5_relay_80 : decode cX5_relay 80 = .ok (.invokestatic 176, 3) := by decide +kernel
theorem dX5_relay_83 : decode cX5_relay 83 = .ok (.ireturn, 1) := by decide +kernel
theorem dX5_relay_84 : decode cX5_relay 84 = .ok (.aload_n 0, 1) := by decide +kernel
theorem dX5_relay_85 : decode cX5_relay 85 = .ok (.getfield 12, 3) := by decide +kernel
theorem dX5_relay_88 : decode cX5_relay 88 = .ok (.getfield 183, 3) := by decide +kernel
theorem dX5_relay_91 : decode cX5_relay 91 = .ok (.iload_n 1, 1) := by decide +kernel
theorem dX5_relay_92 : decode cX5_relay 92 = .ok (.invokestatic 176, 3) := by decide +kernel
theorem dX5_relay_95 : decode cX5_relay 95 = .ok (.ireturn, 1) := by decide +kernel
theorem dX5_relay_96 : decode cX5_relay 96 = .ok (.aload_n 0, 1) := by decide +kernel
theorem dX5_relay_97 : decode cX5_relay 97 = .ok (.getfield 12, 3) := by decide +kernel
theorem dX5_relay_100 : decode cX5_relay 100 = .ok (.iload_n 1, 1) := by decide +kernel
theorem dX5_relay_101 : decode cX5_relay 101 = .ok (.invokevirtual 67, 3) := by decide +kernel
theorem dX5_relay_104 : decode cX5_relay 104 = .ok (.ireturn, 1) := by decide +kernel
theorem dX5_relay_105 : decode cX5_relay 105 = .ok (.aload_n 0, 1) := by decide +kernel
theorem dX5_relay_106 : decode cX5_relay 106 = .ok (.getfield 12, 3) := by decide +kernel
theorem dX5_relay_109 : decode cX5_relay 109 = .ok (.iload_n 1, 1) := by decide +kernel
theorem dX5_relay_110 : decode cX5_relay 110 = .ok (.invokevirtual 117, 3) := by decide +kernel
theorem dX5_relay_113 : decode cX5_relay 113 = .ok (.ireturn, 1) := by decide +kernel
theorem dX5_relay_114 : decode cX5_relay 114 = .ok (.aload_n 0, 1) := by decide +kernel
theorem dX5_relay_115 : decode cX5_relay 115 = .ok (.getfield 12, 3) := by decide +kernel
theorem dX5_relay_118 : decode cX5_relay 118 = .ok (.getfield 124, 3) := by decide +kernel
theorem dX5_relay_121 : decode cX5_relay 121 = .ok (.iload_n 1, 1) := by decide +kernel
theorem dX5_relay_122 : decode cX5_relay 122 = .ok (.invokestatic 127, 3) := by decide +kernel
theorem dX5_relay_125 : decode cX5_relay 125 = .ok (.ireturn, 1) := by decide +kernel
theorem dX5_relay_126 : decode cX5_relay 126 = .ok (.aload_n 0, 1) := by decide +kernel
theorem dX5_relay_127 : decode cX5_relay 127 = .ok (.getfield 12, 3) := by decide +kernel
theorem dX5_relay_130 : decode cX5_relay 130 = .ok (.iload_n 1, 1) := by decide +kernel
theorem dX5_relay_131 : decode cX5_relay 131 = .ok (.bipush 8, 2) := by decide +kernel
theorem dX5_relay_133 : decode cX5_relay 133 = .ok (.iload_n 1, 1) := by decide +kernel
theorem dX5_relay_134 : decode cX5_relay 134 = .ok (.iadd, 1) := by decide +kernel
theorem dX5_relay_135 : decode cX5_relay 135 = .ok (.invokevirtual 186, 3) := by decide +kernel
theorem dX5_relay_138 : decode cX5_relay 138 = .ok (.ifCond .eq 7, 3) := by decide +kernel
theorem dX5_relay_141 : decode cX5_relay 141 = .ok (.iconst 1, 1) := by decide +kernel
theorem dX5_relay_142 : decode cX5_relay 142 = .ok (.goto 4, 3) := by decide +kernel
theorem dX5_relay_145 : decode cX5_relay 145 = .ok (.iconst 0, 1) := by decide +kernel
theorem dX5_relay_146 : decode cX5_relay 146 = .ok (.ireturn, 1) := by decide +kernel
theorem dX5_relay_147 : decode cX5_relay 147 = .ok (.aload_n 0, 1) := by decide +kernel
theorem dX5_relay_148 : decode cX5_relay 148 = .ok (.getfield 12, 3) := by decide +kernel
theorem dX5_relay_151 : decode cX5_relay 151 = .ok (.iload_n 1, 1) := by decide +kernel
theorem dX5_relay_152 : decode cX5_relay 152 = .ok (.aload_n 0, 1) := by decide +kernel
theorem dX5_relay_153 : decode cX5_relay 153 = .ok (.getfield 12, 3) := by decide +kernel
theorem dX5_relay_156 : decode cX5_relay 156 = .ok (.invokevirtual 189, 3) := by decide +kernel
theorem dX5_relay_159 : decode cX5_relay 159 = .ok (.invokevirtual 192, 3) := by decide +kernel
theorem dX5_relay_162 : decode cX5_relay 162 = .ok (.ifCond .eq 7, 3) := by decide +kernel
theorem dX5_relay_165 : decode cX5_relay 165 = .ok (.iconst 1, 1) := by decide +kernel
theorem dX5_relay_166 : decode cX5_relay 166 = .ok (.goto 4, 3) := by decide +kernel
theorem dX5_relay_169 : decode cX5_relay 169 = .ok (.iconst 0, 1) := by decide +kernel
theorem dX5_relay_170 : decode cX5_relay 170 = .ok (.ireturn, 1) := by decide +kernel
theorem dX5_relay_171 : decode cX5_relay 171 = .ok (.iconst (-1), 1) := by decide +kernel
theorem dX5_relay_172 : decode cX5_relay 172 = .ok (.ireturn, 1) := by decide +kernel
theorem dX5_condition_0 : decode cX5_condition 0 = .ok (.aload_n 0, 1) := by decide +kernel
theorem dX5_condition_1 : decode cX5_condition 1 = .ok (.getfield 12, 3) := by decide +kernel
theorem dX5_condition_4 : decode cX5_condition 4 = .ok (.iload_n 1, 1) := by decide +kernel
theorem dX5_condition_5 : decode cX5_condition 5 = .ok (.invokevirtual 59, 3) := by decide +kernel
theorem dX5_condition_8 : decode cX5_condition 8 = .ok (.ifCond .eq 21, 3) := by decide +kernel
theorem dX5_condition_11 : decode cX5_condition 11 = .ok (.iload_n 2, 1) := by decide +kernel
theorem dX5_condition_12 : decode cX5_condition 12 = .ok (.iconst 0, 1) := by decide +kernel
theorem dX5_condition_13 : decode cX5_condition 13 = .ok (.aload_n 0, 1) := by decide +kernel
theorem dX5_condition_14 : decode cX5_condition 14 = .ok (.getfield 12, 3) := by decide +kernel
theorem dX5_condition_17 : decode cX5_condition 17 = .ok (.iload_n 1, 1) := by decide +kernel
theorem dX5_condition_18 : decode cX5_condition 18 = .ok (.invokevirtual 67, 3) := by decide +kernel
theorem dX5_condition_21 : decode cX5_condition 21 = .ok (.iconst 1, 1) := by decide +kernel
theorem dX5_condition_22 : decode cX5_condition 22 = .ok (.isub, 1) := by decide +kernel
theorem dX5_condition_23 : decode cX5_condition 23 = .ok (.invokestatic 71, 3) := by decide +kernel
theorem dX5_condition_26 : decode cX5_condition 26 = .ok (.ifCond .ne 5, 3) := by decide +kernel
theorem dX5_condition_29 : decode cX5_condition 29 = .ok (.iconst (-1), 1) := by decide +kernel
theorem dX5_condition_30 : decode cX5_condition 30 = .ok (.ireturn, 1) := by decide +kernel
theorem dX5_condition_31 : decode cX5_condition 31 = .ok (.iload_n 3, 1) := by decide +kernel
theorem dX5_condition_32 : decode cX5_condition 32 = .ok (.iconst 0, 1) := by decide +kernel
theorem dX5_condition_33 : decode cX5_condition 33 = .ok (.bipush 15, 2) := by decide +kernel
theorem dX5_condition_35 : decode cX5_condition 35 = .ok (.invokestatic 71, 3) := by decide +kernel
theorem dX5_condition_38 : decode cX5_condition 38 = .ok (.ifCond .ne 5, 3) := by decide +kernel
theorem dX5_condition_41 : decode cX5_condition 41 = .ok (.iconst (-1), 1) := by decide +kernel
theorem dX5_condition_42 : decode cX5_condition 42 = .ok (.ireturn, 1) := by decide +kernel
theorem dX5_condition_43 : decode cX5_condition 43 = .ok (.aload_n 0, 1) := by decide +kernel
theorem dX5_condition_44 : decode cX5_condition 44 = .ok (.getfield 12, 3) := by decide +kernel
theorem dX5_condition_47 : decode cX5_condition 47 = .ok (.iload_n 1, 1) := by decide +kernel
theorem dX5_condition_48 : decode cX5_condition 48 = .ok (.iload_n 2, 1) := by decide +kernel
theorem dX5_condition_49 : decode cX5_condition 49 = .ok (.invokevirtual 195, 3) := by decide +kernel
theorem dX5_condition_52 : decode cX5_condition 52 = .ok (.iload_n 3, 1) := by decide +kernel
theorem dX5_condition_53 : decode cX5_condition 53 = .ok (.invokestatic 198, 3) := by decide +kernel
theorem dX5_condition_56 : decode cX5_condition 56 = .ok (.ireturn, 1) := by decide +kernel
theorem dX5_event_0 : decode cX5_event 0 = .ok (.iload_n 1, 1) := by decide +kernel
theorem dX5_event_1 : decode cX5_event 1 = .ok (.ifCond .lt 12, 3) := by decide +kernel
theorem dX5_event_4 : decode cX5_event 4 = .ok (.iload_n 2, 1) := by decide +kernel
theorem dX5_event_5 : decode cX5_event 5 = .ok (.iconst 0, 1) := by decide +kernel
theorem dX5_event_6 : decode cX5_event 6 = .ok (.iconst 2, 1) := by decide +kernel
theorem dX5_event_7 : decode cX5_event 7 = .ok (.invokestatic 71, 3) := by decide +kernel
theorem dX5_event_10 : decode cX5_event 10 = .ok (.ifCond .ne 5, 3) := by decide +kernel
theorem dX5_event_13 : decode cX5_event 13 = .ok (.iconst (-1), 1) := by decide +kernel
theorem dX5_event_14 : decode cX5_event 14 = .ok (.ireturn, 1) := by decide +kernel
theorem dX5_event_15 : decode cX5_event 15 = .ok (.aload_n 0, 1) := by decide +kernel
theorem dX5_event_16 : decode cX5_event 16 = .ok (.getfield 12, 3) := by decide +kernel
theorem dX5_event_19 : decode cX5_event 19 = .ok (.iload_n 1, 1) := by decide +kernel
theorem dX5_event_20 : decode cX5_event 20 = .ok (.invokevirtual 203, 3) := by decide +kernel
theorem dX5_event_23 : decode cX5_event 23 = .ok (.istore_n 3, 1) := by decide +kernel
theorem dX5_event_24 : decode cX5_event 24 = .ok (.iload_n 3, 1) := by decide +kernel
theorem dX5_event_25 : decode cX5_event 25 = .ok (.iconst (-1), 1) := by decide +kernel
theorem dX5_event_26 : decode cX5_event 26 = .ok (.if_icmp .ne 6, 3) := by decide +kernel
theorem dX5_event_29 : decode cX5_event 29 = .ok (.bipush (-9), 2) := by decide +kernel
theorem dX5_event_31 : decode cX5_event 31 = .ok (.ireturn, 1) := by decide +kernel
theorem dX5_event_32 : decode cX5_event 32 = .ok (.iload_n 2, 1) := by decide +kernel
theorem dX5_event_33 : decode cX5_event 33 = .ok (.lookupswitch 44 #[(0, 27), (1, 39)], 27) := by decide +kernel
theorem dX5_event_60 : decode cX5_event 60 = .ok (.aload_n 0, 1) := by decide +kernel
theorem dX5_event_61 : decode cX5_event 61 = .ok (.getfield 12, 3) := by decide +kernel
theorem dX5_event_64 : decode cX5_event 64 = .ok (.getfield 206, 3) := by decide +kernel
theorem dX5_event_67 : decode cX5_event 67 = .ok (.iload_n 3, 1) := by decide +kernel
theorem dX5_event_68 : decode cX5_event 68 = .ok (.invokestatic 176, 3) := by decide +kernel
theorem dX5_event_71 : decode cX5_event 71 = .ok (.ireturn, 1) := by decide +kernel
theorem dX5_event_72 : decode cX5_event 72 = .ok (.iload_n 3, 1) := by decide +kernel
theorem dX5_event_73 : decode cX5_event 73 = .ok (.invokestatic 141, 3) := by decide +kernel
theorem dX5_event_76 : decode cX5_event 76 = .ok (.ireturn, 1) := by decide +kernel
theorem dX5_event_77 : decode cX5_event 77 = .ok (.aload_n 0, 1) := by decide +kernel
theorem dX5_event_78 : decode cX5_event 78 = .ok (.getfield 12, 3) := by decide +kernel
theorem dX5_event_81 : decode cX5_event 81 = .ok (.iload_n 3, 1) := by decide +kernel
theorem dX5_event_82 : decode cX5_event 82 = .ok (.invokevirtual 134, 3) := by decide +kernel
theorem dX5_event_85 : decode cX5_event 85 = .ok (.ireturn, 1) := by decide +kernel
theorem dX5_outcome_0 : decode cX5_outcome 0 = .ok (.iload_n 1, 1) := by decide +kernel
theorem dX5_outcome_1 : decode cX5_outcome 1 = .ok (.iconst 0, 1) := by decide +kernel
theorem dX5_outcome_2 : decode cX5_outcome 2 = .ok (.iconst 1, 1) := by decide +kernel
theorem dX5_outcome_3 : decode cX5_outcome 3 = .ok (.invokestatic 71, 3) := by decide +kernel
theorem dX5_outcome_6 : decode cX5_outcome 6 = .ok (.ifCond .eq 14, 3) := by decide +kernel
theorem dX5_outcome_9 : decode cX5_outcome 9 = .ok (.iload_n 2, 1) := by decide +kernel
theorem dX5_outcome_10 : decode cX5_outcome 10 = .ok (.iconst 1, 1) := by decide +kernel
theorem dX5_outcome_11 : decode cX5_outcome 11 = .ok (.sipush 200, 3) := by decide +kernel
theorem dX5_outcome_14 : decode cX5_outcome 14 = .ok (.invokestatic 71, 3) := by decide +kernel
theorem dX5_outcome_17 : decode cX5_outcome 17 = .ok (.ifCond .ne 5, 3) := by decide +kernel
theorem dX5_outcome_20 : decode cX5_outcome 20 = .ok (.iconst (-1), 1) := by decide +kernel
theorem dX5_outcome_21 : decode cX5_outcome 21 = .ok (.ireturn, 1) := by decide +kernel
theorem dX5_outcome_22 : decode cX5_outcome 22 = .ok (.aload_n 0, 1) := by decide +kernel
theorem dX5_outcome_23 : decode cX5_outcome 23 = .ok (.aload_n 0, 1) := by decide +kernel
theorem dX5_outcome_24 : decode cX5_outcome 24 = .ok (.getfield 12, 3) := by decide +kernel
theorem dX5_outcome_27 : decode cX5_outcome 27 = .ok (.iload_n 2, 1) := by decide +kernel
theorem dX5_outcome_28 : decode cX5_outcome 28 = .ok (.iload_n 1, 1) := by decide +kernel
theorem dX5_outcome_29 : decode cX5_outcome 29 = .ok (.iconst 1, 1) := by decide +kernel
theorem dX5_outcome_30 : decode cX5_outcome 30 = .ok (.if_icmp .ne 7, 3) := by decide +kernel
theorem dX5_outcome_33 : decode cX5_outcome 33 = .ok (.iconst 1, 1) := by decide +kernel
theorem dX5_outcome_34 : decode cX5_outcome 34 = .ok (.goto 4, 3) := by decide +kernel
theorem dX5_outcome_37 : decode cX5_outcome 37 = .ok (.iconst 0, 1) := by decide +kernel
theorem dX5_outcome_38 : decode cX5_outcome 38 = .ok (.invokevirtual 209, 3) := by decide +kernel
theorem dX5_outcome_41 : decode cX5_outcome 41 = .ok (.ireturn, 1) := by decide +kernel
theorem dX5_isRace_0 : decode cX5_isRace 0 = .ok (.aload_n 0, 1) := by decide +kernel
theorem dX5_isRace_1 : decode cX5_isRace 1 = .ok (.aload_n 0, 1) := by decide +kernel
theorem dX5_isRace_2 : decode cX5_isRace 2 = .ok (.getfield 12, 3) := by decide +kernel
theorem dX5_isRace_5 : decode cX5_isRace 5 = .ok (.invokevirtual 213, 3) := by decide +kernel
theorem dX5_isRace_8 : decode cX5_isRace 8 = .ok (.ireturn, 1) := by decide +kernel
theorem dX5_raceBy_0 : decode cX5_raceBy 0 = .ok (.iload_n 1, 1) := by decide +kernel
theorem dX5_raceBy_1 : decode cX5_raceBy 1 = .ok (.invokestatic 104, 3) := by decide +kernel
theorem dX5_raceBy_4 : decode cX5_raceBy 4 = .ok (.ifCond .ne 5, 3) := by decide +kernel
theorem dX5_raceBy_7 : decode cX5_raceBy 7 = .ok (.iconst (-1), 1) := by decide +kernel
theorem dX5_raceBy_8 : decode cX5_raceBy 8 = .ok (.ireturn, 1) := by decide +kernel
theorem dX5_raceBy_9 : decode cX5_raceBy 9 = .ok (.aload_n 0, 1) := by decide +kernel
theorem dX5_raceBy_10 : decode cX5_raceBy 10 = .ok (.getfield 37, 3) := by decide +kernel
theorem dX5_raceBy_13 : decode cX5_raceBy 13 = .ok (.aload_n 0, 1) := by decide +kernel
theorem dX5_raceBy_14 : decode cX5_raceBy 14 = .ok (.getfield 12, 3) := by decide +kernel
theorem dX5_raceBy_17 : decode cX5_raceBy 17 = .ok (.invokevirtual 153, 3) := by decide +kernel
theorem dX5_raceBy_20 : decode cX5_raceBy 20 = .ok (.aload_n 0, 1) := by decide +kernel
theorem dX5_raceBy_21 : decode cX5_raceBy 21 = .ok (.getfield 37, 3) := by decide +kernel
theorem dX5_raceBy_24 : decode cX5_raceBy 24 = .ok (.iload_n 1, 1) := by decide +kernel
theorem dX5_raceBy_25 : decode cX5_raceBy 25 = .ok (.invokevirtual 114, 3) := by decide +kernel
theorem dX5_raceBy_28 : decode cX5_raceBy 28 = .ok (.pop, 1) := by decide +kernel
theorem dX5_raceBy_29 : decode cX5_raceBy 29 = .ok (.aload_n 0, 1) := by decide +kernel
theorem dX5_raceBy_30 : decode cX5_raceBy 30 = .ok (.aload_n 0, 1) := by decide +kernel
theorem dX5_raceBy_31 : decode cX5_raceBy 31 = .ok (.getfield 37, 3) := by decide +kernel
theorem dX5_raceBy_34 : decode cX5_raceBy 34 = .ok (.invokevirtual 213, 3) := by decide +kernel
theorem dX5_raceBy_37 : decode cX5_raceBy 37 = .ok (.ireturn, 1) := by decide +kernel
theorem dX5_hazards_0 : decode cX5_hazards 0 = .ok (.iload_n 1, 1) := by decide +kernel
theorem dX5_hazards_1 : decode cX5_hazards 1 = .ok (.invokestatic 104, 3) := by decide +kernel
theorem dX5_hazards_4 : decode cX5_hazards 4 = .ok (.ifCond .ne 5, 3) := by decide +kernel
theorem dX5_hazards_7 : decode cX5_hazards 7 = .ok (.iconst (-1), 1) := by decide +kernel
theorem dX5_hazards_8 : decode cX5_hazards 8 = .ok (.ireturn, 1) := by decide +kernel
theorem dX5_hazards_9 : decode cX5_hazards 9 = .ok (.aload_n 0, 1) := by decide +kernel
theorem dX5_hazards_10 : decode cX5_hazards 10 = .ok (.getfield 40, 3) := by decide +kernel
theorem dX5_hazards_13 : decode cX5_hazards 13 = .ok (.aload_n 0, 1) := by decide +kernel
theorem dX5_hazards_14 : decode cX5_hazards 14 = .ok (.getfield 12, 3) := by decide +kernel
theorem dX5_hazards_17 : decode cX5_hazards 17 = .ok (.invokevirtual 153, 3) := by decide +kernel
theorem dX5_hazards_20 : decode cX5_hazards 20 = .ok (.aload_n 0, 1) := by decide +kernel
theorem dX5_hazards_21 : decode cX5_hazards 21 = .ok (.getfield 40, 3) := by decide +kernel
theorem dX5_hazards_24 : decode cX5_hazards 24 = .ok (.iload_n 1, 1) := by decide +kernel
theorem dX5_hazards_25 : decode cX5_hazards 25 = .ok (.invokevirtual 114, 3) := by decide +kernel
theorem dX5_hazards_28 : decode cX5_hazards 28 = .ok (.pop, 1) := by decide +kernel
theorem dX5_hazards_29 : decode cX5_hazards 29 = .ok (.aload_n 0, 1) := by decide +kernel
theorem dX5_hazards_30 : decode cX5_hazards 30 = .ok (.getfield 40, 3) := by decide +kernel
theorem dX5_hazards_33 : decode cX5_hazards 33 = .ok (.getfield 160, 3) := by decide +kernel
theorem dX5_hazards_36 : decode cX5_hazards 36 = .ok (.istore_n 2, 1) := by decide +kernel
theorem dX5_hazards_37 : decode cX5_hazards 37 = .ok (.iconst 0, 1) := by decide +kernel
theorem dX5_hazards_38 : decode cX5_hazards 38 = .ok (.istore_n 3, 1) := by decide +kernel
theorem dX5_hazards_39 : decode cX5_hazards 39 = .ok (.iload_n 3, 1) := by decide +kernel
theorem dX5_hazards_40 : decode cX5_hazards 40 = .ok (.sipush 200, 3) := by decide +kernel
theorem dX5_hazards_43 : decode cX5_hazards 43 = .ok (.if_icmp .ge 34, 3) := by decide +kernel
theorem dX5_hazards_46 : decode cX5_hazards 46 = .ok (.aload_n 0, 1) := by decide +kernel
theorem dX5_hazards_47 : decode cX5_hazards 47 = .ok (.getfield 40, 3) := by decide +kernel
theorem dX5_hazards_50 : decode cX5_hazards 50 = .ok (.iconst 1, 1) := by decide +kernel
theorem dX5_hazards_51 : decode cX5_hazards 51 = .ok (.ldc 144, 2) := by decide +kernel
theorem dX5_hazards_53 : decode cX5_hazards 53 = .ok (.iconst 0, 1) := by decide +kernel
theorem dX5_hazards_54 : decode cX5_hazards 54 = .ok (.invokevirtual 145, 3) := by decide +kernel
theorem dX5_hazards_57 : decode cX5_hazards 57 = .ok (.iconst 1, 1) := by decide +kernel
theorem dX5_hazards_58 : decode cX5_hazards 58 = .ok (.if_icmp .ne 19, 3) := by decide +kernel
theorem dX5_hazards_61 : decode cX5_hazards 61 = .ok (.iload_n 2, 1) := by decide +kernel
theorem dX5_hazards_62 : decode cX5_hazards 62 = .ok (.aload_n 0, 1) := by decide +kernel
theorem dX5_hazards_63 : decode cX5_hazards 63 = .ok (.getfield 40, 3) := by decide +kernel
theorem dX5_hazards_66 : decode cX5_hazards 66 = .ok (.getfield 160, 3) := by decide +kernel
theorem dX5_hazards_69 : decode cX5_hazards 69 = .ok (.iand, 1) := by decide +kernel
theorem dX5_hazards_70 : decode cX5_hazards 70 = .ok (.istore_n 2, 1) := by decide +kernel
theorem dX5_hazards_71 : decode cX5_hazards 71 = .ok (.iinc 3 1, 3) := by decide +kernel
theorem dX5_hazards_74 : decode cX5_hazards 74 = .ok (.goto (-35), 3) := by decide +kernel
theorem dX5_hazards_77 : decode cX5_hazards 77 = .ok (.aload_n 0, 1) := by decide +kernel
theorem dX5_hazards_78 : decode cX5_hazards 78 = .ok (.getfield 40, 3) := by decide +kernel
theorem dX5_hazards_81 : decode cX5_hazards 81 = .ok (.invokevirtual 217, 3) := by decide +kernel
theorem dX5_hazards_84 : decode cX5_hazards 84 = .ok (.ifCond .eq 25, 3) := by decide +kernel
theorem dX5_hazards_87 : decode cX5_hazards 87 = .ok (.aload_n 0, 1) := by decide +kernel
theorem dX5_hazards_88 : decode cX5_hazards 88 = .ok (.getfield 12, 3) := by decide +kernel
theorem dX5_hazards_91 : decode cX5_hazards 91 = .ok (.getfield 160, 3) := by decide +kernel
theorem dX5_hazards_94 : decode cX5_hazards 94 = .ok (.aload_n 0, 1) := by decide +kernel
theorem dX5_hazards_95 : decode cX5_hazards 95 = .ok (.getfield 40, 3) := by decide +kernel
theorem dX5_hazards_98 : decode cX5_hazards 98 = .ok (.getfield 160, 3) := by decide +kernel
theorem dX5_hazards_101 : decode cX5_hazards 101 = .ok (.iand, 1) := by decide +kernel
theorem dX5_hazards_102 : decode cX5_hazards 102 = .ok (.iload_n 2, 1) := by decide +kernel
theorem dX5_hazards_103 : decode cX5_hazards 103 = .ok (.iconst (-1), 1) := by decide +kernel
theorem dX5_hazards_104 : decode cX5_hazards 104 = .ok (.ixor, 1) := by decide +kernel
theorem dX5_hazards_105 : decode cX5_hazards 105 = .ok (.iand, 1) := by decide +kernel
theorem dX5_hazards_106 : decode cX5_hazards 106 = .ok (.goto 5, 3) := by decide +kernel
theorem dX5_hazards_109 : decode cX5_hazards 109 = .ok (.bipush (-9), 2) := by decide +kernel
theorem dX5_hazards_111 : decode cX5_hazards 111 = .ok (.ireturn, 1) := by decide +kernel
theorem dX5_stableStates_0 : decode cX5_stableStates 0 = .ok (.aload_n 0, 1) := by decide +kernel
theorem dX5_stableStates_1 : decode cX5_stableStates 1 = .ok (.getfield 40, 3) := by decide +kernel
theorem dX5_stableStates_4 : decode cX5_stableStates 4 = .ok (.aload_n 0, 1) := by decide +kernel
theorem dX5_stableStates_5 : decode cX5_stableStates 5 = .ok (.getfield 12, 3) := by decide +kernel
theorem dX5_stableStates_8 : decode cX5_stableStates 8 = .ok (.invokevirtual 153, 3) := by decide +kernel
theorem dX5_stableStates_11 : decode cX5_stableStates 11 = .ok (.aload_n 0, 1) := by decide +kernel
theorem dX5_stableStates_12 : decode cX5_stableStates 12 = .ok (.getfield 40, 3) := by decide +kernel
theorem dX5_stableStates_15 : decode cX5_stableStates 15 = .ok (.iconst 0, 1) := by decide +kernel
theorem dX5_stableStates_16 : decode cX5_stableStates 16 = .ok (.putfield 169, 3) := by decide +kernel
theorem dX5_stableStates_19 : decode cX5_stableStates 19 = .ok (.iconst 1, 1) := by decide +kernel
theorem dX5_stableStates_20 : decode cX5_stableStates 20 = .ok (.aload_n 0, 1) := by decide +kernel
theorem dX5_stableStates_21 : decode cX5_stableStates 21 = .ok (.getfield 12, 3) := by decide +kernel
theorem dX5_stableStates_24 : decode cX5_stableStates 24 = .ok (.getfield 47, 3) := by decide +kernel
theorem dX5_stableStates_27 : decode cX5_stableStates 27 = .ok (.ishl, 1) := by decide +kernel
theorem dX5_stableStates_28 : decode cX5_stableStates 28 = .ok (.istore_n 1, 1) := by decide +kernel
theorem dX5_stableStates_29 : decode cX5_stableStates 29 = .ok (.iconst 0, 1) := by decide +kernel
theorem dX5_stableStates_30 : decode cX5_stableStates 30 = .ok (.istore_n 2, 1) := by decide +kernel
theorem dX5_stableStates_31 : decode cX5_stableStates 31 = .ok (.iconst 0, 1) := by decide +kernel
theorem dX5_stableStates_32 : decode cX5_stableStates 32 = .ok (.istore_n 3, 1) := by decide +kernel
theorem dX5_stableStates_33 : decode cX5_stableStates 33 = .ok (.iload_n 3, 1) := by decide +kernel
theorem dX5_stableStates_34 : decode cX5_stableStates 34 = .ok (.iload_n 1, 1) := by decide +kernel
theorem dX5_stableStates_35 : decode cX5_stableStates 35 = .ok (.if_icmp .ge 50, 3) := by decide +kernel
theorem dX5_stableStates_38 : decode cX5_stableStates 38 = .ok (.aload_n 0, 1) := by decide +kernel
theorem dX5_stableStates_39 : decode cX5_stableStates 39 = .ok (.getfield 40, 3) := by decide +kernel
theorem dX5_stableStates_42 : decode cX5_stableStates 42 = .ok (.iload_n 3, 1) := by decide +kernel
theorem dX5_stableStates_43 : decode cX5_stableStates 43 = .ok (.putfield 163, 3) := by decide +kernel
theorem dX5_stableStates_46 : decode cX5_stableStates 46 = .ok (.iload_n 3, 1) := by decide +kernel
theorem dX5_stableStates_47 : decode cX5_stableStates 47 = .ok (.aload_n 0, 1) := by decide +kernel
theorem dX5_stableStates_48 : decode cX5_stableStates 48 = .ok (.getfield 12, 3) := by decide +kernel
theorem dX5_stableStates_51 : decode cX5_stableStates 51 = .ok (.getfield 163, 3) := by decide +kernel
theorem dX5_stableStates_54 : decode cX5_stableStates 54 = .ok (.ixor, 1) := by decide +kernel
theorem dX5_stableStates_55 : decode cX5_stableStates 55 = .ok (.aload_n 0, 1) := by decide +kernel
theorem dX5_stableStates_56 : decode cX5_stableStates 56 = .ok (.getfield 12, 3) := by decide +kernel
theorem dX5_stableStates_59 : decode cX5_stableStates 59 = .ok (.getfield 124, 3) := by decide +kernel
theorem dX5_stableStates_62 : decode cX5_stableStates 62 = .ok (.iand, 1) := by decide +kernel
theorem dX5_stableStates_63 : decode cX5_stableStates 63 = .ok (.ifCond .ne 16, 3) := by decide +kernel
theorem dX5_stableStates_66 : decode cX5_stableStates 66 = .ok (.aload_n 0, 1) := by decide +kernel
theorem dX5_stableStates_67 : decode cX5_stableStates 67 = .ok (.getfield 40, 3) := by decide +kernel
theorem dX5_stableStates_70 : decode cX5_stableStates 70 = .ok (.invokevirtual 221, 3) := by decide +kernel
theorem dX5_stableStates_73 : decode cX5_stableStates 73 = .ok (.ifCond .eq 6, 3) := by decide +kernel
theorem dX5_stableStates_76 : decode cX5_stableStates 76 = .ok (.iinc 2 1, 3) := by decide +kernel
theorem dX5_stableStates_79 : decode cX5_stableStates 79 = .ok (.iinc 3 1, 3) := by decide +kernel
theorem dX5_stableStates_82 : decode cX5_stableStates 82 = .ok (.goto (-49), 3) := by decide +kernel
theorem dX5_stableStates_85 : decode cX5_stableStates 85 = .ok (.iload_n 2, 1) := by decide +kernel
theorem dX5_stableStates_86 : decode cX5_stableStates 86 = .ok (.ireturn, 1) := by decide +kernel
theorem dX5_explain_0 : decode cX5_explain 0 = .ok (.iload_n 1, 1) := by decide +kernel
theorem dX5_explain_1 : decode cX5_explain 1 = .ok (.iconst 0, 1) := by decide +kernel
theorem dX5_explain_2 : decode cX5_explain 2 = .ok (.sipush 255, 3) := by decide +kernel
theorem dX5_explain_5 : decode cX5_explain 5 = .ok (.invokestatic 71, 3) := by decide +kernel
theorem dX5_explain_8 : decode cX5_explain 8 = .ok (.ifCond .ne 5, 3) := by decide +kernel
theorem dX5_explain_11 : decode cX5_explain 11 = .ok (.iconst (-1), 1) := by decide +kernel
theorem dX5_explain_12 : decode cX5_explain 12 = .ok (.ireturn, 1) := by decide +kernel
theorem dX5_explain_13 : decode cX5_explain 13 = .ok (.iconst 0, 1) := by decide +kernel
theorem dX5_explain_14 : decode cX5_explain 14 = .ok (.istore_n 2, 1) := by decide +kernel
theorem dX5_explain_15 : decode cX5_explain 15 = .ok (.iconst 0, 1) := by decide +kernel
theorem dX5_explain_16 : decode cX5_explain 16 = .ok (.istore_n 3, 1) := by decide +kernel
theorem dX5_explain_17 : decode cX5_explain 17 = .ok (.iload_n 3, 1) := by decide +kernel
theorem dX5_explain_18 : decode cX5_explain 18 = .ok (.aload_n 0, 1) := by decide +kernel
theorem dX5_explain_19 : decode cX5_explain 19 = .ok (.getfield 12, 3) := by decide +kernel
theorem dX5_explain_22 : decode cX5_explain 22 = .ok (.getfield 47, 3) := by decide +kernel
theorem dX5_explain_25 : decode cX5_explain 25 = .ok (.if_icmp .ge 89, 3) := by decide +kernel
theorem dX5_explain_28 : decode cX5_explain 28 = .ok (.iconst 1, 1) := by decide +kernel
theorem dX5_explain_29 : decode cX5_explain 29 = .ok (.istore 4, 2) := by decide +kernel
theorem dX5_explain_31 : decode cX5_explain 31 = .ok (.iload 4, 2) := by decide +kernel
theorem dX5_explain_33 : decode cX5_explain 33 = .ok (.iconst 2, 1) := by decide +kernel
theorem dX5_explain_34 : decode cX5_explain 34 = .ok (.if_icmp .gt 74, 3) := by decide +kernel
theorem dX5_explain_37 : decode cX5_explain 37 = .ok (.aload_n 0, 1) := by decide +kernel
theorem dX5_explain_38 : decode cX5_explain 38 = .ok (.getfield 12, 3) := by decide +kernel
theorem dX5_explain_41 : decode cX5_explain 41 = .ok (.iload_n 3, 1) := by decide +kernel
theorem dX5_explain_42 : decode cX5_explain 42 = .ok (.invokevirtual 117, 3) := by decide +kernel
theorem dX5_explain_45 : decode cX5_explain 45 = .ok (.ifCond .ne 63, 3) := by decide +kernel
theorem dX5_explain_48 : decode cX5_explain 48 = .ok (.aload_n 0, 1) := by decide +kernel
theorem dX5_explain_49 : decode cX5_explain 49 = .ok (.getfield 37, 3) := by decide +kernel
theorem dX5_explain_52 : decode cX5_explain 52 = .ok (.aload_n 0, 1) := by decide +kernel
theorem dX5_explain_53 : decode cX5_explain 53 = .ok (.getfield 12, 3) := by decide +kernel
theorem dX5_explain_56 : decode cX5_explain 56 = .ok (.invokevirtual 153, 3) := by decide +kernel
theorem dX5_explain_59 : decode cX5_explain 59 = .ok (.aload_n 0, 1) := by decide +kernel
theorem dX5_explain_60 : decode cX5_explain 60 = .ok (.getfield 37, 3) := by decide +kernel
theorem dX5_explain_63 : decode cX5_explain 63 = .ok (.iload_n 3, 1) := by decide +kernel
theorem dX5_explain_64 : decode cX5_explain 64 = .ok (.iload 4, 2) := by decide +kernel
theorem dX5_explain_66 : decode cX5_explain 66 = .ok (.invokevirtual 120, 3) := by decide +kernel
theorem dX5_explain_69 : decode cX5_explain 69 = .ok (.aload_n 0, 1) := by decide +kernel
theorem dX5_explain_70 : decode cX5_explain 70 = .ok (.aload_n 0, 1) := by decide +kernel
theorem dX5_explain_71 : decode cX5_explain 71 = .ok (.getfield 37, 3) := by decide +kernel
theorem dX5_explain_74 : decode cX5_explain 74 = .ok (.sipush 200, 3) := by decide +kernel
theorem dX5_explain_77 : decode cX5_explain 77 = .ok (.iconst 0, 1) := by decide +kernel
theorem dX5_explain_78 : decode cX5_explain 78 = .ok (.invokevirtual 209, 3) := by decide +kernel
theorem dX5_explain_81 : decode cX5_explain 81 = .ok (.iload_n 1, 1) := by decide +kernel
theorem dX5_explain_82 : decode cX5_explain 82 = .ok (.sipush 256, 3) := by decide +kernel
theorem dX5_explain_85 : decode cX5_explain 85 = .ok (.iadd, 1) := by decide +kernel
theorem dX5_explain_86 : decode cX5_explain 86 = .ok (.if_icmp .ne 16, 3) := by decide +kernel
theorem dX5_explain_89 : decode cX5_explain 89 = .ok (.iload_n 2, 1) := by decide +kernel
theorem dX5_explain_90 : decode cX5_explain 90 = .ok (.iconst 1, 1) := by decide +kernel
theorem dX5_explain_91 : decode cX5_explain 91 = .ok (.iconst 2, 1) := by decide +kernel
theorem dX5_explain_92 : decode cX5_explain 92 = .ok (.iload_n 3, 1) := by decide +kernel
theorem dX5_explain_93 : decode cX5_explain 93 = .ok (.imul, 1) := by decide +kernel
theorem dX5_explain_94 : decode cX5_explain 94 = .ok (.iload 4, 2) := by decide +kernel
theorem dX5_explain_96 : decode cX5_explain 96 = .ok (.iadd, 1) := by decide +kernel
theorem dX5_explain_97 : decode cX5_explain 97 = .ok (.iconst 1, 1) := by decide +kernel
theorem dX5_explain_98 : decode cX5_explain 98 = .ok (.isub, 1) := by decide +kernel
theorem dX5_explain_99 : decode cX5_explain 99 = .ok (.ishl, 1) := by decide +kernel
theorem dX5_explain_100 : decode cX5_explain 100 = .ok (.ior, 1) := by decide +kernel
theorem dX5_explain_101 : decode cX5_explain 101 = .ok (.istore_n 2, 1) := by decide +kernel
theorem dX5_explain_102 : decode cX5_explain 102 = .ok (.iinc 4 1, 3) := by decide +kernel
theorem dX5_explain_105 : decode cX5_explain 105 = .ok (.goto (-74), 3) := by decide +kernel
theorem dX5_explain_108 : decode cX5_explain 108 = .ok (.iinc 3 1, 3) := by decide +kernel
theorem dX5_explain_111 : decode cX5_explain 111 = .ok (.goto (-94), 3) := by decide +kernel
theorem dX5_explain_114 : decode cX5_explain 114 = .ok (.iload_n 2, 1) := by decide +kernel
theorem dX5_explain_115 : decode cX5_explain 115 = .ok (.ireturn, 1) := by decide +kernel
theorem dX5_undo_0 : decode cX5_undo 0 = .ok (.aload_n 0, 1) := by decide +kernel
theorem dX5_undo_1 : decode cX5_undo 1 = .ok (.getfield 19, 3) := by decide +kernel
theorem dX5_undo_4 : decode cX5_undo 4 = .ok (.aload_n 0, 1) := by decide +kernel
theorem dX5_undo_5 : decode cX5_undo 5 = .ok (.getfield 12, 3) := by decide +kernel
theorem dX5_undo_8 : decode cX5_undo 8 = .ok (.invokevirtual 224, 3) := by decide +kernel
theorem dX5_undo_11 : decode cX5_undo 11 = .ok (.ifCond .eq 13, 3) := by decide +kernel
theorem dX5_undo_14 : decode cX5_undo 14 = .ok (.aload_n 0, 1) := by decide +kernel
theorem dX5_undo_15 : decode cX5_undo 15 = .ok (.getfield 19, 3) := by decide +kernel
theorem dX5_undo_18 : decode cX5_undo 18 = .ok (.getfield 172, 3) := by decide +kernel
theorem dX5_undo_21 : decode cX5_undo 21 = .ok (.goto 5, 3) := by decide +kernel
theorem dX5_undo_24 : decode cX5_undo 24 = .ok (.bipush (-2), 2) := by decide +kernel
theorem dX5_undo_26 : decode cX5_undo 26 = .ok (.ireturn, 1) := by decide +kernel
theorem dX5_endingOf_0 : decode cX5_endingOf 0 = .ok (.aload_n 0, 1) := by decide +kernel
theorem dX5_endingOf_1 : decode cX5_endingOf 1 = .ok (.getfield 40, 3) := by decide +kernel
theorem dX5_endingOf_4 : decode cX5_endingOf 4 = .ok (.aload_n 1, 1) := by decide +kernel
theorem dX5_endingOf_5 : decode cX5_endingOf 5 = .ok (.invokevirtual 153, 3) := by decide +kernel
theorem dX5_endingOf_8 : decode cX5_endingOf 8 = .ok (.aload_n 0, 1) := by decide +kernel
theorem dX5_endingOf_9 : decode cX5_endingOf 9 = .ok (.getfield 40, 3) := by decide +kernel
theorem dX5_endingOf_12 : decode cX5_endingOf 12 = .ok (.iload_n 2, 1) := by decide +kernel
theorem dX5_endingOf_13 : decode cX5_endingOf 13 = .ok (.ldc 144, 2) := by decide +kernel
theorem dX5_endingOf_15 : decode cX5_endingOf 15 = .ok (.iload_n 3, 1) := by decide +kernel
theorem dX5_endingOf_16 : decode cX5_endingOf 16 = .ok (.invokevirtual 145, 3) := by decide +kernel
theorem dX5_endingOf_19 : decode cX5_endingOf 19 = .ok (.pop, 1) := by decide +kernel
theorem dX5_endingOf_20 : decode cX5_endingOf 20 = .ok (.aload_n 0, 1) := by decide +kernel
theorem dX5_endingOf_21 : decode cX5_endingOf 21 = .ok (.getfield 40, 3) := by decide +kernel
theorem dX5_endingOf_24 : decode cX5_endingOf 24 = .ok (.getfield 163, 3) := by decide +kernel
theorem dX5_endingOf_27 : decode cX5_endingOf 27 = .ok (.aload_n 0, 1) := by decide +kernel
theorem dX5_endingOf_28 : decode cX5_endingOf 28 = .ok (.getfield 40, 3) := by decide +kernel
theorem dX5_endingOf_31 : decode cX5_endingOf 31 = .ok (.invokevirtual 217, 3) := by decide +kernel
theorem dX5_endingOf_34 : decode cX5_endingOf 34 = .ok (.ifCond .eq 9, 3) := by decide +kernel
theorem dX5_endingOf_37 : decode cX5_endingOf 37 = .ok (.sipush 256, 3) := by decide +kernel
theorem dX5_endingOf_40 : decode cX5_endingOf 40 = .ok (.goto 4, 3) := by decide +kernel
theorem dX5_endingOf_43 : decode cX5_endingOf 43 = .ok (.iconst 0, 1) := by decide +kernel
theorem dX5_endingOf_44 : decode cX5_endingOf 44 = .ok (.iadd, 1) := by decide +kernel
theorem dX5_endingOf_45 : decode cX5_endingOf 45 = .ok (.ireturn, 1) := by decide +kernel
theorem dX5_raceIn_0 : decode cX5_raceIn 0 = .ok (.aload_n 0, 1) := by decide +kernel
theorem dX5_raceIn_1 : decode cX5_raceIn 1 = .ok (.aload_n 1, 1) := by decide +kernel
theorem dX5_raceIn_2 : decode cX5_raceIn 2 = .ok (.sipush 200, 3) := by decide +kernel
theorem dX5_raceIn_5 : decode cX5_raceIn 5 = .ok (.iconst 0, 1) := by decide +kernel
theorem dX5_raceIn_6 : decode cX5_raceIn 6 = .ok (.invokevirtual 209, 3) := by decide +kernel
theorem dX5_raceIn_9 : decode cX5_raceIn 9 = .ok (.istore_n 2, 1) := by decide +kernel
theorem dX5_raceIn_10 : decode cX5_raceIn 10 = .ok (.iload_n 2, 1) := by decide +kernel
theorem dX5_raceIn_11 : decode cX5_raceIn 11 = .ok (.aload_n 0, 1) := by decide +kernel
theorem dX5_raceIn_12 : decode cX5_raceIn 12 = .ok (.aload_n 1, 1) := by decide +kernel
theorem dX5_raceIn_13 : decode cX5_raceIn 13 = .ok (.sipush 200, 3) := by decide +kernel
theorem dX5_raceIn_16 : decode cX5_raceIn 16 = .ok (.iconst 1, 1) := by decide +kernel
theorem dX5_raceIn_17 : decode cX5_raceIn 17 = .ok (.invokevirtual 209, 3) := by decide +kernel
theorem dX5_raceIn_20 : decode cX5_raceIn 20 = .ok (.if_icmp .eq 7, 3) := by decide +kernel
theorem dX5_raceIn_23 : decode cX5_raceIn 23 = .ok (.iconst 1, 1) := by decide +kernel
theorem dX5_raceIn_24 : decode cX5_raceIn 24 = .ok (.goto 4, 3) := by decide +kernel
theorem dX5_raceIn_27 : decode cX5_raceIn 27 = .ok (.iconst 0, 1) := by decide +kernel
theorem dX5_raceIn_28 : decode cX5_raceIn 28 = .ok (.ireturn, 1) := by decide +kernel
theorem dX5_isKey_0 : decode cX5_isKey 0 = .ok (.iload_n 0, 1) := by decide +kernel
theorem dX5_isKey_1 : decode cX5_isKey 1 = .ok (.iconst 0, 1) := by decide +kernel
theorem dX5_isKey_2 : decode cX5_isKey 2 = .ok (.bipush 7, 2) := by decide +kernel
theorem dX5_isKey_4 : decode cX5_isKey 4 = .ok (.invokestatic 71, 3) := by decide +kernel
theorem dX5_isKey_7 : decode cX5_isKey 7 = .ok (.ireturn, 1) := by decide +kernel
theorem dX5_areDelays_0 : decode cX5_areDelays 0 = .ok (.iload_n 0, 1) := by decide +kernel
theorem dX5_areDelays_1 : decode cX5_areDelays 1 = .ok (.iconst 1, 1) := by decide +kernel
theorem dX5_areDelays_2 : decode cX5_areDelays 2 = .ok (.bipush 20, 2) := by decide +kernel
theorem dX5_areDelays_4 : decode cX5_areDelays 4 = .ok (.invokestatic 71, 3) := by decide +kernel
theorem dX5_areDelays_7 : decode cX5_areDelays 7 = .ok (.ifCond .eq 26, 3) := by decide +kernel
theorem dX5_areDelays_10 : decode cX5_areDelays 10 = .ok (.iload_n 1, 1) := by decide +kernel
theorem dX5_areDelays_11 : decode cX5_areDelays 11 = .ok (.iconst 1, 1) := by decide +kernel
theorem dX5_areDelays_12 : decode cX5_areDelays 12 = .ok (.bipush 20, 2) := by decide +kernel
theorem dX5_areDelays_14 : decode cX5_areDelays 14 = .ok (.invokestatic 71, 3) := by decide +kernel
theorem dX5_areDelays_17 : decode cX5_areDelays 17 = .ok (.ifCond .eq 16, 3) := by decide +kernel
theorem dX5_areDelays_20 : decode cX5_areDelays 20 = .ok (.iload_n 2, 1) := by decide +kernel
theorem dX5_areDelays_21 : decode cX5_areDelays 21 = .ok (.iconst 0, 1) := by decide +kernel
theorem dX5_areDelays_22 : decode cX5_areDelays 22 = .ok (.iconst 5, 1) := by decide +kernel
theorem dX5_areDelays_23 : decode cX5_areDelays 23 = .ok (.invokestatic 71, 3) := by decide +kernel
theorem dX5_areDelays_26 : decode cX5_areDelays 26 = .ok (.ifCond .eq 7, 3) := by decide +kernel
theorem dX5_areDelays_29 : decode cX5_areDelays 29 = .ok (.iconst 1, 1) := by decide +kernel
theorem dX5_areDelays_30 : decode cX5_areDelays 30 = .ok (.goto 4, 3) := by decide +kernel
theorem dX5_areDelays_33 : decode cX5_areDelays 33 = .ok (.iconst 0, 1) := by decide +kernel
theorem dX5_areDelays_34 : decode cX5_areDelays 34 = .ok (.ireturn, 1) := by decide +kernel
theorem dX5_isWithin_0 : decode cX5_isWithin 0 = .ok (.iload_n 1, 1) := by decide +kernel
theorem dX5_isWithin_1 : decode cX5_isWithin 1 = .ok (.iload_n 0, 1) := by decide +kernel
theorem dX5_isWithin_2 : decode cX5_isWithin 2 = .ok (.if_icmp .gt 12, 3) := by decide +kernel
theorem dX5_isWithin_5 : decode cX5_isWithin 5 = .ok (.iload_n 0, 1) := by decide +kernel
theorem dX5_isWithin_6 : decode cX5_isWithin 6 = .ok (.iload_n 2, 1) := by decide +kernel
theorem dX5_isWithin_7 : decode cX5_isWithin 7 = .ok (.if_icmp .gt 7, 3) := by decide +kernel
theorem dX5_isWithin_10 : decode cX5_isWithin 10 = .ok (.iconst 1, 1) := by decide +kernel
theorem dX5_isWithin_11 : decode cX5_isWithin 11 = .ok (.goto 4, 3) := by decide +kernel
theorem dX5_isWithin_14 : decode cX5_isWithin 14 = .ok (.iconst 0, 1) := by decide +kernel
theorem dX5_isWithin_15 : decode cX5_isWithin 15 = .ok (.ireturn, 1) := by decide +kernel
theorem dX5_bitOf_0 : decode cX5_bitOf 0 = .ok (.iload_n 0, 1) := by decide +kernel
theorem dX5_bitOf_1 : decode cX5_bitOf 1 = .ok (.iload_n 1, 1) := by decide +kernel
theorem dX5_bitOf_2 : decode cX5_bitOf 2 = .ok (.iushr, 1) := by decide +kernel
theorem dX5_bitOf_3 : decode cX5_bitOf 3 = .ok (.iconst 1, 1) := by decide +kernel
theorem dX5_bitOf_4 : decode cX5_bitOf 4 = .ok (.iand, 1) := by decide +kernel
theorem dX5_bitOf_5 : decode cX5_bitOf 5 = .ok (.ireturn, 1) := by decide +kernel
theorem dX5_isIn_0 : decode cX5_isIn 0 = .ok (.iload_n 0, 1) := by decide +kernel
theorem dX5_isIn_1 : decode cX5_isIn 1 = .ok (.iload_n 1, 1) := by decide +kernel
theorem dX5_isIn_2 : decode cX5_isIn 2 = .ok (.iushr, 1) := by decide +kernel
theorem dX5_isIn_3 : decode cX5_isIn 3 = .ok (.iconst 1, 1) := by decide +kernel
theorem dX5_isIn_4 : decode cX5_isIn 4 = .ok (.iand, 1) := by decide +kernel
theorem dX5_isIn_5 : decode cX5_isIn 5 = .ok (.iconst 1, 1) := by decide +kernel
theorem dX5_isIn_6 : decode cX5_isIn 6 = .ok (.if_icmp .ne 7, 3) := by decide +kernel
theorem dX5_isIn_9 : decode cX5_isIn 9 = .ok (.iconst 1, 1) := by decide +kernel
theorem dX5_isIn_10 : decode cX5_isIn 10 = .ok (.goto 4, 3) := by decide +kernel
theorem dX5_isIn_13 : decode cX5_isIn 13 = .ok (.iconst 0, 1) := by decide +kernel
theorem dX5_isIn_14 : decode cX5_isIn 14 = .ok (.ireturn, 1) := by decide +kernel
theorem dX5_at_0 : decode cX5_at 0 = .ok (.iconst 0, 1) := by decide +kernel
theorem dX5_at_1 : decode cX5_at 1 = .ok (.iload_n 1, 1) := by decide +kernel
theorem dX5_at_2 : decode cX5_at 2 = .ok (.if_icmp .gt 15, 3) := by decide +kernel
theorem dX5_at_5 : decode cX5_at 5 = .ok (.iload_n 1, 1) := by decide +kernel
theorem dX5_at_6 : decode cX5_at 6 = .ok (.aload_n 0, 1) := by decide +kernel
theorem dX5_at_7 : decode cX5_at 7 = .ok (.arraylength, 1) := by decide +kernel
theorem dX5_at_8 : decode cX5_at 8 = .ok (.if_icmp .ge 9, 3) := by decide +kernel
theorem dX5_at_11 : decode cX5_at 11 = .ok (.aload_n 0, 1) := by decide +kernel
theorem dX5_at_12 : decode cX5_at 12 = .ok (.iload_n 1, 1) := by decide +kernel
theorem dX5_at_13 : decode cX5_at 13 = .ok (.iaload, 1) := by decide +kernel
theorem dX5_at_14 : decode cX5_at 14 = .ok (.goto 4, 3) := by decide +kernel
theorem dX5_at_17 : decode cX5_at 17 = .ok (.iconst 0, 1) := by decide +kernel
theorem dX5_at_18 : decode cX5_at 18 = .ok (.ireturn, 1) := by decide +kernel
theorem dX5_put_0 : decode cX5_put 0 = .ok (.iconst 0, 1) := by decide +kernel
theorem dX5_put_1 : decode cX5_put 1 = .ok (.iload_n 1, 1) := by decide +kernel
theorem dX5_put_2 : decode cX5_put 2 = .ok (.if_icmp .gt 13, 3) := by decide +kernel
theorem dX5_put_5 : decode cX5_put 5 = .ok (.iload_n 1, 1) := by decide +kernel
theorem dX5_put_6 : decode cX5_put 6 = .ok (.aload_n 0, 1) := by decide +kernel
theorem dX5_put_7 : decode cX5_put 7 = .ok (.arraylength, 1) := by decide +kernel
theorem dX5_put_8 : decode cX5_put 8 = .ok (.if_icmp .ge 7, 3) := by decide +kernel
theorem dX5_put_11 : decode cX5_put 11 = .ok (.aload_n 0, 1) := by decide +kernel
theorem dX5_put_12 : decode cX5_put 12 = .ok (.iload_n 1, 1) := by decide +kernel
theorem dX5_put_13 : decode cX5_put 13 = .ok (.iload_n 2, 1) := by decide +kernel
theorem dX5_put_14 : decode cX5_put 14 = .ok (.iastore, 1) := by decide +kernel
theorem dX5_put_15 : decode cX5_put 15 = .ok (.return_, 1) := by decide +kernel
end
section
theorem dX6_init_0 : decode cX6_init 0 = .ok (.aload_n 0, 1) := by decide +kernel
theorem dX6_init_1 : decode cX6_init 1 = .ok (.invokespecial 1, 3) := by decide +kernel
theorem dX6_init_4 : decode cX6_init 4 = .ok (.aload_n 0, 1) := by decide +kernel
theorem dX6_init_5 : decode cX6_init 5 = .ok (.sipush 203, 3) := by decide +kernel
theorem dX6_init_8 : decode cX6_init 8 = .ok (.newarray .int, 2) := by decide +kernel
theorem dX6_init_10 : decode cX6_init 10 = .ok (.putfield 7, 3) := by decide +kernel
theorem dX6_init_13 : decode cX6_init 13 = .ok (.aload_n 0, 1) := by decide +kernel
theorem dX6_init_14 : decode cX6_init 14 = .ok (.sipush 1218, 3) := by decide +kernel
theorem dX6_init_17 : decode cX6_init 17 = .ok (.newarray .int, 2) := by decide +kernel
theorem dX6_init_19 : decode cX6_init 19 = .ok (.putfield 13, 3) := by decide +kernel
theorem dX6_init_22 : decode cX6_init 22 = .ok (.aload_n 0, 1) := by decide +kernel
theorem dX6_init_23 : decode cX6_init 23 = .ok (.sipush 203, 3) := by decide +kernel
theorem dX6_init_26 : decode cX6_init 26 = .ok (.newarray .int, 2) := by decide +kernel
theorem dX6_init_28 : decode cX6_init 28 = .ok (.putfield 16, 3) := by decide +kernel
theorem dX6_init_31 : decode cX6_init 31 = .ok (.aload_n 0, 1) := by decide +kernel
theorem dX6_init_32 : decode cX6_init 32 = .ok (.sipush 203, 3) := by decide +kernel
theorem dX6_init_35 : decode cX6_init 35 = .ok (.newarray .int, 2) := by decide +kernel
theorem dX6_init_37 : decode cX6_init 37 = .ok (.putfield 19, 3) := by decide +kernel
theorem dX6_init_40 : decode cX6_init 40 = .ok (.aload_n 0, 1) := by decide +kernel
theorem dX6_init_41 : decode cX6_init 41 = .ok (.bipush 60, 2) := by decide +kernel
theorem dX6_init_43 : decode cX6_init 43 = .ok (.newarray .byte, 2) := by decide +kernel
theorem dX6_init_45 : decode cX6_init 45 = .ok (.putfield 22, 3) := by decide +kernel
theorem dX6_init_48 : decode cX6_init 48 = .ok (.aload_n 0, 1) := by decide +kernel
theorem dX6_init_49 : decode cX6_init 49 = .ok (.iconst 0, 1) := by decide +kernel
theorem dX6_init_50 : decode cX6_init 50 = .ok (.putfield 26, 3) := by decide +kernel
theorem dX6_init_53 : decode cX6_init 53 = .ok (.return_, 1) := by decide +kernel
theorem dX6_in_0 : decode cX6_in 0 = .ok (.iload_n 0, 1) := by decide +kernel
theorem dX6_in_1 : decode cX6_in 1 = .ok (.iload_n 1, 1) := by decide +kernel
theorem dX6_in_2 : decode cX6_in 2 = .ok (.if_icmp .lt 12, 3) := by decide +kernel
theorem dX6_in_5 : decode cX6_in 5 = .ok (.iload_n 0, 1) := by decide +kernel
theorem dX6_in_6 : decode cX6_in 6 = .ok (.iload_n 2, 1) := by decide +kernel
theorem dX6_in_7 : decode cX6_in 7 = .ok (.if_icmp .gt 7, 3) := by decide +kernel
theorem dX6_in_10 : decode cX6_in 10 = .ok (.iconst 1, 1) := by decide +kernel
theorem dX6_in_11 : decode cX6_in 11 = .ok (.goto 4, 3) := by decide +kernel
theorem dX6_in_14 : decode cX6_in 14 = .ok (.iconst 0, 1) := by decide +kernel
theorem dX6_in_15 : decode cX6_in 15 = .ok (.ireturn, 1) := by decide +kernel
theorem dX6_notes_0 : decode cX6_notes 0 = .ok (.aload_n 0, 1) := by decide +kernel
theorem dX6_notes_1 : decode cX6_notes 1 = .ok (.getfield 30, 3) := by decide +kernel
theorem dX6_notes_4 : decode cX6_notes 4 = .ok (.bipush 6, 2) := by decide +kernel
theorem dX6_notes_6 : decode cX6_notes 6 = .ok (.if_icmp .ne 44, 3) := by decide +kernel
theorem dX6_notes_9 : decode cX6_notes 9 = .ok (.iconst 0, 1) := by decide +kernel
theorem dX6_notes_10 : decode cX6_notes 10 = .ok (.istore_n 1, 1) := by decide +kernel
theorem dX6_notes_11 : decode cX6_notes 11 = .ok (.iload_n 1, 1) := by decide +kernel
theorem dX6_notes_12 : decode cX6_notes 12 = .ok (.sipush 1015, 3) := by decide +kernel
theorem dX6_notes_15 : decode cX6_notes 15 = .ok (.if_icmp .ge 25, 3) := by decide +kernel
theorem dX6_notes_18 : decode cX6_notes 18 = .ok (.aload_n 0, 1) := by decide +kernel
theorem dX6_notes_19 : decode cX6_notes 19 = .ok (.getfield 13, 3) := by decide +kernel
theorem dX6_notes_22 : decode cX6_notes 22 = .ok (.iload_n 1, 1) := by decide +kernel
theorem dX6_notes_23 : decode cX6_notes 23 = .ok (.aload_n 0, 1) := by decide +kernel
theorem dX6_notes_24 : decode cX6_notes 24 = .ok (.getfield 13, 3) := by decide +kernel
theorem dX6_notes_27 : decode cX6_notes 27 = .ok (.iload_n 1, 1) := by decide +kernel
theorem dX6_notes_28 : decode cX6_notes 28 = .ok (.sipush 203, 3) := by decide +kernel
theorem dX6_notes_31 : decode cX6_notes 31 = .ok (.iadd, 1) := by decide +kernel
theorem dX6_notes_32 : decode cX6_notes 32 = .ok (.iaload, 1) := by decide +kernel
theorem dX6_notes_33 : decode cX6_notes 33 = .ok (.iastore, 1) := by decide +kernel
theorem dX6_notes_34 : decode cX6_notes 34 = .ok (.iinc 1 1, 3) := by decide +kernel
theorem dX6_notes_37 : decode cX6_notes 37 = .ok (.goto (-26), 3) := by decide +kernel
theorem dX6_notes_40 : decode cX6_notes 40 = .ok (.aload_n 0, 1) := by decide +kernel
theorem dX6_notes_41 : decode cX6_notes 41 = .ok (.dup, 1) := by decide +kernel
theorem dX6_notes_42 : decode cX6_notes 42 = .ok (.getfield 30, 3) := by decide +kernel
theorem dX6_notes_45 : decode cX6_notes 45 = .ok (.iconst 1, 1) := by decide +kernel
theorem dX6_notes_46 : decode cX6_notes 46 = .ok (.isub, 1) := by decide +kernel
theorem dX6_notes_47 : decode cX6_notes 47 = .ok (.putfield 30, 3) := by decide +kernel
theorem dX6_notes_50 : decode cX6_notes 50 = .ok (.iconst 0, 1) := by decide +kernel
theorem dX6_notes_51 : decode cX6_notes 51 = .ok (.istore_n 1, 1) := by decide +kernel
theorem dX6_notes_52 : decode cX6_notes 52 = .ok (.iload_n 1, 1) := by decide +kernel
theorem dX6_notes_53 : decode cX6_notes 53 = .ok (.sipush 203, 3) := by decide +kernel
theorem dX6_notes_56 : decode cX6_notes 56 = .ok (.if_icmp .ge 30, 3) := by decide +kernel
theorem dX6_notes_59 : decode cX6_notes 59 = .ok (.aload_n 0, 1) := by decide +kernel
theorem dX6_notes_60 : decode cX6_notes 60 = .ok (.getfield 13, 3) := by decide +kernel
theorem dX6_notes_63 : decode cX6_notes 63 = .ok (.sipush 203, 3) := by decide +kernel
theorem dX6_notes_66 : decode cX6_notes 66 = .ok (.aload_n 0, 1) := by decide +kernel
theorem dX6_notes_67 : decode cX6_notes 67 = .ok (.getfield 30, 3) := by decide +kernel
theorem dX6_notes_70 : decode cX6_notes 70 = .ok (.imul, 1) := by decide +kernel
theorem dX6_notes_71 : decode cX6_notes 71 = .ok (.iload_n 1, 1) := by decide +kernel
theorem dX6_notes_72 : decode cX6_notes 72 = .ok (.iadd, 1) := by decide +kernel
theorem dX6_notes_73 : decode cX6_notes 73 = .ok (.aload_n 0, 1) := by decide +kernel
theorem dX6_notes_74 : decode cX6_notes 74 = .ok (.getfield 7, 3) := by decide +kernel
theorem dX6_notes_77 : decode cX6_notes 77 = .ok (.iload_n 1, 1) := by decide +kernel
theorem dX6_notes_78 : decode cX6_notes 78 = .ok (.iaload, 1) := by decide +kernel
theorem dX6_notes_79 : decode cX6_notes 79 = .ok (.iastore, 1) := by decide +kernel
theorem dX6_notes_80 : decode cX6_notes 80 = .ok (.iinc 1 1, 3) := by decide +kernel
theorem dX6_notes_83 : decode cX6_notes 83 = .ok (.goto (-31), 3) := by decide +kernel
theorem dX6_notes_86 : decode cX6_notes 86 = .ok (.aload_n 0, 1) := by decide +kernel
theorem dX6_notes_87 : decode cX6_notes 87 = .ok (.dup, 1) := by decide +kernel
theorem dX6_notes_88 : decode cX6_notes 88 = .ok (.getfield 30, 3) := by decide +kernel
theorem dX6_notes_91 : decode cX6_notes 91 = .ok (.iconst 1, 1) := by decide +kernel
theorem dX6_notes_92 : decode cX6_notes 92 = .ok (.iadd, 1) := by decide +kernel
theorem dX6_notes_93 : decode cX6_notes 93 = .ok (.putfield 30, 3) := by decide +kernel
theorem dX6_notes_96 : decode cX6_notes 96 = .ok (.return_, 1) := by decide +kernel
theorem dX6_undo_0 : decode cX6_undo 0 = .ok (.aload_n 0, 1) := by decide +kernel
theorem dX6_undo_1 : decode cX6_undo 1 = .ok (.getfield 30, 3) := by decide +kernel
theorem dX6_undo_4 : decode cX6_undo 4 = .ok (.ifCond .ne 6, 3) := by decide +kernel
theorem dX6_undo_7 : decode cX6_undo 7 = .ok (.bipush (-2), 2) := by decide +kernel
theorem dX6_undo_9 : decode cX6_undo 9 = .ok (.ireturn, 1) := by decide +kernel
theorem dX6_undo_10 : decode cX6_undo 10 = .ok (.aload_n 0, 1) := by decide +kernel
theorem dX6_undo_11 : decode cX6_undo 11 = .ok (.dup, 1) := by decide +kernel
theorem dX6_undo_12 : decode cX6_undo 12 = .ok (.getfield 30, 3) := by decide +kernel
theorem dX6_undo_15 : decode cX6_undo 15 = .ok (.iconst 1, 1) := by decide +kernel
theorem dX6_undo_16 : decode cX6_undo 16 = .ok (.isub, 1) := by decide +kernel
theorem dX6_undo_17 : decode cX6_undo 17 = .ok (.putfield 30, 3) := by decide +kernel
theorem dX6_undo_20 : decode cX6_undo 20 = .ok (.iconst 0, 1) := by decide +kernel
theorem dX6_undo_21 : decode cX6_undo 21 = .ok (.istore_n 1, 1) := by decide +kernel
theorem dX6_undo_22 : decode cX6_undo 22 = .ok (.iload_n 1, 1) := by decide +kernel
theorem dX6_undo_23 : decode cX6_undo 23 = .ok (.sipush 203, 3) := by decide +kernel
theorem dX6_undo_26 : decode cX6_undo 26 = .ok (.if_icmp .ge 30, 3) := by decide +kernel
theorem dX6_undo_29 : decode cX6_undo 29 = .ok (.aload_n 0, 1) := by decide +kernel
theorem dX6_undo_30 : decode cX6_undo 30 = .ok (.getfield 7, 3) := by decide +kernel
theorem dX6_undo_33 : decode cX6_undo 33 = .ok (.iload_n 1, 1) := by decide +kernel
theorem dX6_undo_34 : decode cX6_undo 34 = .ok (.aload_n 0, 1) := by decide +kernel
theorem dX6_undo_35 : decode cX6_undo 35 = .ok (.getfield 13, 3) := by decide +kernel
theorem dX6_undo_38 : decode cX6_undo 38 = .ok (.sipush 203, 3) := by decide +kernel
theorem dX6_undo_41 : decode cX6_undo 41 = .ok (.aload_n 0, 1) := by decide +kernel
theorem dX6_undo_42 : decode cX6_undo 42 = .ok (.getfield 30, 3) := by decide +kernel
theorem dX6_undo_45 : decode cX6_undo 45 = .ok (.imul, 1) := by decide +kernel
theorem dX6_undo_46 : decode cX6_undo 46 = .ok (.iload_n 1, 1) := by decide +kernel
theorem dX6_undo_47 : decode cX6_undo 47 = .ok (.iadd, 1) := by decide +kernel
theorem dX6_undo_48 : decode cX6_undo 48 = .ok (.iaload, 1) := by decide +kernel
theorem dX6_undo_49 : decode cX6_undo 49 = .ok (.iastore, 1) := by decide +kernel
theorem dX6_undo_50 : decode cX6_undo 50 = .ok (.iinc 1 1, 3) := by decide +kernel
theorem dX6_undo_53 : decode cX6_undo 53 = .ok (.goto (-31), 3) := by decide +kernel
theorem dX6_undo_56 : decode cX6_undo 56 = .ok (.aload_n 0, 1) := by decide +kernel
theorem dX6_undo_57 : decode cX6_undo 57 = .ok (.getfield 30, 3) := by decide +kernel
theorem dX6_undo_60 : decode cX6_undo 60 = .ok (.ireturn, 1) := by decide +kernel
theorem dX6_keeps_0 : decode cX6_keeps 0 = .ok (.iconst 0, 1) := by decide +kernel
theorem dX6_keeps_1 : decode cX6_keeps 1 = .ok (.istore_n 1, 1) := by decide +kernel
theorem dX6_keeps_2 : decode cX6_keeps 2 = .ok (.iload_n 1, 1) := by decide +kernel
theorem dX6_keeps_3 : decode cX6_keeps 3 = .ok (.sipush 203, 3) := by decide +kernel
theorem dX6_keeps_6 : decode cX6_keeps 6 = .ok (.if_icmp .ge 21, 3) := by decide +kernel
theorem dX6_keeps_9 : decode cX6_keeps 9 = .ok (.aload_n 0, 1) := by decide +kernel
theorem dX6_keeps_10 : decode cX6_keeps 10 = .ok (.getfield 16, 3) := by decide +kernel
theorem dX6_keeps_13 : decode cX6_keeps 13 = .ok (.iload_n 1, 1) := by decide +kernel
theorem dX6_keeps_14 : decode cX6_keeps 14 = .ok (.aload_n 0, 1) := by decide +kernel
theorem dX6_keeps_15 : decode cX6_keeps 15 = .ok (.getfield 7, 3) := by decide +kernel
theorem dX6_keeps_18 : decode cX6_keeps 18 = .ok (.iload_n 1, 1) := by decide +kernel
theorem dX6_keeps_19 : decode cX6_keeps 19 = .ok (.iaload, 1) := by decide +kernel
theorem dX6_keeps_20 : decode cX6_keeps 20 = .ok (.iastore, 1) := by decide +kernel
theorem dX6_keeps_21 : decode cX6_keeps 21 = .ok (.iinc 1 1, 3) := by decide +kernel
theorem dX6_keeps_24 : decode cX6_keeps 24 = .ok (.goto (-22), 3) := by decide +kernel
theorem dX6_keeps_27 : decode cX6_keeps 27 = .ok (.return_, 1) := by decide +kernel
theorem dX6_restores_0 : decode cX6_restores 0 = .ok (.iconst 0, 1) := by decide +kernel
theorem dX6_restores_1 : decode cX6_restores 1 = .ok (.istore_n 1, 1) := by decide +kernel
theorem dX6_restores_2 : decode cX6_restores 2 = .ok (.iload_n 1, 1) := by decide +kernel
theorem dX6_restores_3 : decode cX6_restores 3 = .ok (.sipush 203, 3) := by decide +kernel
theorem dX6_restores_6 : decode cX6_restores 6 = .ok (.if_icmp .ge 21, 3) := by decide +kernel
theorem dX6_restores_9 : decode cX6_restores 9 = .ok (.aload_n 0, 1) := by decide +kernel
theorem dX6_restores_10 : decode cX6_restores 10 = .ok (.getfield 7, 3) := by decide +kernel
theorem dX6_restores_13 : decode cX6_restores 13 = .ok (.iload_n 1, 1) := by decide +kernel
theorem dX6_restores_14 : decode cX6_restores 14 = .ok (.aload_n 0, 1) := by decide +kernel
theorem dX6_restores_15 : decode cX6_restores 15 = .ok (.getfield 16, 3) := by decide +kernel
theorem dX6_restores_18 : decode cX6_restores 18 = .ok (.iload_n 1, 1) := by decide +kernel
theorem dX6_restores_19 : decode cX6_restores 19 = .ok (.iaload, 1) := by decide +kernel
theorem dX6_restores_20 : decode cX6_restores 20 = .ok (.iastore, 1) := by decide +kernel
theorem dX6_restores_21 : decode cX6_restores 21 = .ok (.iinc 1 1, 3) := by decide +kernel
theorem dX6_restores_24 : decode cX6_restores 24 = .ok (.goto (-22), 3) := by decide +kernel
theorem dX6_restores_27 : decode cX6_restores 27 = .ok (.return_, 1) := by decide +kernel
theorem dX6_isRelay_0 : decode cX6_isRelay 0 = .ok (.iload_n 1, 1) := by decide +kernel
theorem dX6_isRelay_1 : decode cX6_isRelay 1 = .ok (.iconst 0, 1) := by decide +kernel
theorem dX6_isRelay_2 : decode cX6_isRelay 2 = .ok (.aload_n 0, 1) := by decide +kernel
theorem dX6_isRelay_3 : decode cX6_isRelay 3 = .ok (.getfield 7, 3) := by decide +kernel
theorem dX6_isRelay_6 : decode cX6_isRelay 6 = .ok (.iconst 1, 1) := by decide +kernel
theorem dX6_isRelay_7 : decode cX6_isRelay 7 = .ok (.iaload, 1) := by decide +kernel
theorem dX6_isRelay_8 : decode cX6_isRelay 8 = .ok (.iconst 1, 1) := by decide +kernel
theorem dX6_isRelay_9 : decode cX6_isRelay 9 = .ok (.isub, 1) := by decide +kernel
theorem dX6_isRelay_10 : decode cX6_isRelay 10 = .ok (.invokestatic 33, 3) := by decide +kernel
theorem dX6_isRelay_13 : decode cX6_isRelay 13 = .ok (.ireturn, 1) := by decide +kernel
theorem dX6_of_0 : decode cX6_of 0 = .ok (.aload_n 0, 1) := by decide +kernel
theorem dX6_of_1 : decode cX6_of 1 = .ok (.getfield 7, 3) := by decide +kernel
theorem dX6_of_4 : decode cX6_of 4 = .ok (.iconst 3, 1) := by decide +kernel
theorem dX6_of_5 : decode cX6_of 5 = .ok (.bipush 25, 2) := by decide +kernel
theorem dX6_of_7 : decode cX6_of 7 = .ok (.iload_n 1, 1) := by decide +kernel
theorem dX6_of_8 : decode cX6_of 8 = .ok (.imul, 1) := by decide +kernel
theorem dX6_of_9 : decode cX6_of 9 = .ok (.iadd, 1) := by decide +kernel
theorem dX6_of_10 : decode cX6_of 10 = .ok (.iload_n 2, 1) := by decide +kernel
theorem dX6_of_11 : decode cX6_of 11 = .ok (.iadd, 1) := by decide +kernel
theorem dX6_of_12 : decode cX6_of 12 = .ok (.iaload, 1) := by decide +kernel
theorem dX6_of_13 : decode cX6_of 13 = .ok (.ireturn, 1) := by decide +kernel
theorem dX6_puts_0 : decode cX6_puts 0 = .ok (.aload_n 0, 1) := by decide +kernel
theorem dX6_puts_1 : decode cX6_puts 1 = .ok (.getfield 7, 3) := by decide +kernel
theorem dX6_puts_4 : decode cX6_puts 4 = .ok (.iconst 3, 1) := by decide +kernel
theorem dX6_puts_5 : decode cX6_puts 5 = .ok (.bipush 25, 2) := by decide +kernel
theorem dX6_puts_7 : decode cX6_puts 7 = .ok (.iload_n 1, 1) := by decide +kernel
theorem dX6_puts_8 : decode cX6_puts 8 = .ok (.imul, 1) := by decide +kernel
theorem dX6_puts_9 : decode cX6_puts 9 = .ok (.iadd, 1) := by decide +kernel
theorem dX6_puts_10 : decode cX6_puts 10 = .ok (.iload_n 2, 1) := by decide +kernel
theorem dX6_puts_11 : decode cX6_puts 11 = .ok (.iadd, 1) := by decide +kernel
theorem dX6_puts_12 : decode cX6_puts 12 = .ok (.iload_n 3, 1) := by decide +kernel
theorem dX6_puts_13 : decode cX6_puts 13 = .ok (.iastore, 1) := by decide +kernel
theorem dX6_puts_14 : decode cX6_puts 14 = .ok (.return_, 1) := by decide +kernel
theorem dX6_set_0 : decode cX6_set 0 = .ok (.iconst 0, 1) := by decide +kernel
theorem dX6_set_1 : decode cX6_set 1 = .ok (.istore_n 2, 1) := by decide +kernel
theorem dX6_set_2 : decode cX6_set 2 = .ok (.iconst 0, 1) := by decide +kernel
theorem dX6_set_3 : decode cX6_set 3 = .ok (.istore_n 3, 1) := by decide +kernel
theorem dX6_set_4 : decode cX6_set 4 = .ok (.iload_n 3, 1) := by decide +kernel
theorem dX6_set_5 : decode cX6_set 5 = .ok (.aload_n 0, 1) := by decide +kernel
theorem dX6_set_6 : decode cX6_set 6 = .ok (.getfield 7, 3) := by decide +kernel
theorem dX6_set_9 : decode cX6_set 9 = .ok (.iconst 1, 1) := by decide +kernel
theorem dX6_set_10 : decode cX6_set 10 = .ok (.iaload, 1) := by decide +kernel
theorem dX6_set_11 : decode cX6_set 11 = .ok (.if_icmp .ge 28, 3) := by decide +kernel
theorem dX6_set_14 : decode cX6_set 14 = .ok (.iload_n 2, 1) := by decide +kernel
theorem dX6_set_15 : decode cX6_set 15 = .ok (.aload_n 0, 1) := by decide +kernel
theorem dX6_set_16 : decode cX6_set 16 = .ok (.iload_n 3, 1) := by decide +kernel
theorem dX6_set_17 : decode cX6_set 17 = .ok (.iload_n 1, 1) := by decide +kernel
theorem dX6_set_18 : decode cX6_set 18 = .ok (.invokevirtual 37, 3) := by decide +kernel
theorem dX6_set_21 : decode cX6_set 21 = .ok (.ifCond .eq 9, 3) := by decide +kernel
theorem dX6_set_24 : decode cX6_set 24 = .ok (.iconst 1, 1) := by decide +kernel
theorem dX6_set_25 : decode cX6_set 25 = .ok (.iload_n 3, 1) := by decide +kernel
theorem dX6_set_26 : decode cX6_set 26 = .ok (.ishl, 1) := by decide +kernel
theorem dX6_set_27 : decode cX6_set 27 = .ok (.goto 4, 3) := by decide +kernel
theorem dX6_set_30 : decode cX6_set 30 = .ok (.iconst 0, 1) := by decide +kernel
theorem dX6_set_31 : decode cX6_set 31 = .ok (.ior, 1) := by decide +kernel
theorem dX6_set_32 : decode cX6_set 32 = .ok (.istore_n 2, 1) := by decide +kernel
theorem dX6_set_33 : decode cX6_set 33 = .ok (.iinc 3 1, 3) := by decide +kernel
theorem dX6_set_36 : decode cX6_set 36 = .ok (.goto (-32), 3) := by decide +kernel
theorem dX6_set_39 : decode cX6_set 39 = .ok (.iload_n 2, 1) := by decide +kernel
theorem dX6_set_40 : decode cX6_set 40 = .ok (.ireturn, 1) := by decide +kernel
theorem dX6_closed_0 : decode cX6_closed 0 = .ok (.iconst 0, 1) := by decide +kernel
theorem dX6_closed_1 : decode cX6_closed 1 = .ok (.istore_n 1, 1) := by decide +kernel
theorem dX6_closed_2 : decode cX6_closed 2 = .ok (.iconst 0, 1) := by decide +kernel
theorem dX6_closed_3 : decode cX6_closed 3 = .ok (.istore_n 2, 1) := by decide +kernel
theorem dX6_closed_4 : decode cX6_closed 4 = .ok (.iload_n 2, 1) := by decide +kernel
theorem dX6_closed_5 : decode cX6_closed 5 = .ok (.aload_n 0, 1) := by decide +kernel
theorem dX6_closed_6 : decode cX6_closed 6 = .ok (.getfield 7, 3) := by decide +kernel
theorem dX6_closed_9 : decode cX6_closed 9 = .ok (.iconst 1, 1) := by decide +kernel
theorem dX6_closed_10 : decode cX6_closed 10 = .ok (.iaload, 1) := by decide +kernel
theorem dX6_closed_11 : decode cX6_closed 11 = .ok (.if_icmp .ge 69, 3) := by decide +kernel
theorem dX6_closed_14 : decode cX6_closed 14 = .ok (.aload_n 0, 1) := by decide +kernel
theorem dX6_closed_15 : decode cX6_closed 15 = .ok (.iload_n 2, 1) := by decide +kernel
theorem dX6_closed_16 : decode cX6_closed 16 = .ok (.bipush 6, 2) := by decide +kernel
theorem dX6_closed_18 : decode cX6_closed 18 = .ok (.invokevirtual 37, 3) := by decide +kernel
theorem dX6_closed_21 : decode cX6_closed 21 = .ok (.iconst 2, 1) := by decide +kernel
theorem dX6_closed_22 : decode cX6_closed 22 = .ok (.if_icmp .eq 32, 3) := by decide +kernel
theorem dX6_closed_25 : decode cX6_closed 25 = .ok (.aload_n 0, 1) := by decide +kernel
theorem dX6_closed_26 : decode cX6_closed 26 = .ok (.iload_n 2, 1) := by decide +kernel
theorem dX6_closed_27 : decode cX6_closed 27 = .ok (.bipush 6, 2) := by decide +kernel
theorem dX6_closed_29 : decode cX6_closed 29 = .ok (.invokevirtual 37, 3) := by decide +kernel
theorem dX6_closed_32 : decode cX6_closed 32 = .ok (.ifCond .ne 26, 3) := by decide +kernel
theorem dX6_closed_35 : decode cX6_closed 35 = .ok (.aload_n 0, 1) := by decide +kernel
theorem dX6_closed_36 : decode cX6_closed 36 = .ok (.iload_n 2, 1) := by decide +kernel
theorem dX6_closed_37 : decode cX6_closed 37 = .ok (.iconst 3, 1) := by decide +kernel
theorem dX6_closed_38 : decode cX6_closed 38 = .ok (.invokevirtual 37, 3) := by decide +kernel
theorem dX6_closed_41 : decode cX6_closed 41 = .ok (.iconst 1, 1) := by decide +kernel
theorem dX6_closed_42 : decode cX6_closed 42 = .ok (.if_icmp .ne 16, 3) := by decide +kernel
theorem dX6_closed_45 : decode cX6_closed 45 = .ok (.aload_n 0, 1) := by decide +kernel
theorem dX6_closed_46 : decode cX6_closed 46 = .ok (.iload_n 2, 1) := by decide +kernel
theorem dX6_closed_47 : decode cX6_closed 47 = .ok (.iconst 5, 1) := by decide +kernel
theorem dX6_closed_48 : decode cX6_closed 48 = .ok (.invokevirtual 37, 3) := by decide +kernel
theorem dX6_closed_51 : decode cX6_closed 51 = .ok (.ifCond .ne 7, 3) := by decide +kernel
theorem dX6_closed_54 : decode cX6_closed 54 = .ok (.iconst 1, 1) := by decide +kernel
theorem dX6_closed_55 : decode cX6_closed 55 = .ok (.goto 4, 3) := by decide +kernel
theorem dX6_closed_58 : decode cX6_closed 58 = .ok (.iconst 0, 1) := by decide +kernel
theorem dX6_closed_59 : decode cX6_closed 59 = .ok (.istore_n 3, 1) := by decide +kernel
theorem dX6_closed_60 : decode cX6_closed 60 = .ok (.iload_n 1, 1) := by decide +kernel
theorem dX6_closed_61 : decode cX6_closed 61 = .ok (.iload_n 3, 1) := by decide +kernel
theorem dX6_closed_62 : decode cX6_closed 62 = .ok (.ifCond .eq 9, 3) := by decide +kernel
theorem dX6_closed_65 : decode cX6_closed 65 = .ok (.iconst 1, 1) := by decide +kernel
theorem dX6_closed_66 : decode cX6_closed 66 = .ok (.iload_n 2, 1) := by decide +kernel
theorem dX6_closed_67 : decode cX6_closed 67 = .ok (.ishl, 1) := by decide +kernel
theorem dX6_closed_68 : decode cX6_closed 68 = .ok (.goto 4, 3) := by decide +kernel
theorem dX6_closed_71 : decode cX6_closed 71 = .ok (.iconst 0, 1) := by decide +kernel
theorem dX6_closed_72 : decode cX6_closed 72 = .ok (.ior, 1) := by decide +kernel
theorem dX6_closed_73 : decode cX6_closed 73 = .ok (.istore_n 1, 1) := by decide +kernel
theorem dX6_closed_74 : decode cX6_closed 74 = .ok (.iinc 2 1, 3) := by decide +kernel
theorem dX6_closed_77 : decode cX6_closed 77 = .ok (.goto (-73), 3) := by decide +kernel
theorem dX6_closed_80 : decode cX6_closed 80 = .ok (.iload_n 1, 1) := by decide +kernel
theorem dX6_closed_81 : decode cX6_closed 81 = .ok (.ireturn, 1) := by decide +kernel
theorem dX6_conducts_0 : decode cX6_conducts 0 = .ok (.iconst 0, 1) := by decide +kernel
theorem dX6_conducts_1 : decode cX6_conducts 1 = .ok (.istore_n 3, 1) := by decide +kernel
theorem dX6_conducts_2 : decode cX6_conducts 2 = .ok (.iconst 0, 1) := by decide +kernel
theorem dX6_conducts_3 : decode cX6_conducts 3 = .ok (.istore 4, 2) := by decide +kernel
theorem dX6_conducts_5 : decode cX6_conducts 5 = .ok (.iload 4, 2) := by decide +kernel
theorem dX6_conducts_7 : decode cX6_conducts 7 = .ok (.aload_n 0, 1) := by decide +kernel
theorem dX6_conducts_8 : decode cX6_conducts 8 = .ok (.iload_n 1, 1) := by decide +kernel
theorem dX6_conducts_9 : decode cX6_conducts 9 = .ok (.bipush 12, 2) := by decide +kernel
theorem dX6_conducts_11 : decode cX6_conducts 11 = .ok (.invokevirtual 37, 3) := by decide +kernel
theorem dX6_conducts_14 : decode cX6_conducts 14 = .ok (.if_icmp .ge 65, 3) := by decide +kernel
theorem dX6_conducts_17 : decode cX6_conducts 17 = .ok (.aload_n 0, 1) := by decide +kernel
theorem dX6_conducts_18 : decode cX6_conducts 18 = .ok (.iload_n 1, 1) := by decide +kernel
theorem dX6_conducts_19 : decode cX6_conducts 19 = .ok (.bipush 13, 2) := by decide +kernel
theorem dX6_conducts_21 : decode cX6_conducts 21 = .ok (.iconst 2, 1) := by decide +kernel
theorem dX6_conducts_22 : decode cX6_conducts 22 = .ok (.iload 4, 2) := by decide +kernel
theorem dX6_conducts_24 : decode cX6_conducts 24 = .ok (.imul, 1) := by decide +kernel
theorem dX6_conducts_25 : decode cX6_conducts 25 = .ok (.iadd, 1) := by decide +kernel
theorem dX6_conducts_26 : decode cX6_conducts 26 = .ok (.invokevirtual 37, 3) := by decide +kernel
theorem dX6_conducts_29 : decode cX6_conducts 29 = .ok (.istore 5, 2) := by decide +kernel
theorem dX6_conducts_31 : decode cX6_conducts 31 = .ok (.aload_n 0, 1) := by decide +kernel
theorem dX6_conducts_32 : decode cX6_conducts 32 = .ok (.iload_n 1, 1) := by decide +kernel
theorem dX6_conducts_33 : decode cX6_conducts 33 = .ok (.bipush 13, 2) := by decide +kernel
theorem dX6_conducts_35 : decode cX6_conducts 35 = .ok (.iconst 2, 1) := by decide +kernel
theorem dX6_conducts_36 : decode cX6_conducts 36 = .ok (.iload 4, 2) := by decide +kernel
theorem dX6_conducts_38 : decode cX6_conducts 38 = .ok (.imul, 1) := by decide +kernel
theorem dX6_conducts_39 : decode cX6_conducts 39 = .ok (.iadd, 1) := by decide +kernel
theorem dX6_conducts_40 : decode cX6_conducts 40 = .ok (.iconst 1, 1) := by decide +kernel
theorem dX6_conducts_41 : decode cX6_conducts 41 = .ok (.iadd, 1) := by decide +kernel
theorem dX6_conducts_42 : decode cX6_conducts 42 = .ok (.invokevirtual 37, 3) := by decide +kernel
theorem dX6_conducts_45 : decode cX6_conducts 45 = .ok (.istore 6, 2) := by decide +kernel
theorem dX6_conducts_47 : decode cX6_conducts 47 = .ok (.iload_n 3, 1) := by decide +kernel
theorem dX6_conducts_48 : decode cX6_conducts 48 = .ok (.ifCond .ne 19, 3) := by decide +kernel
theorem dX6_conducts_51 : decode cX6_conducts 51 = .ok (.iload 5, 2) := by decide +kernel
theorem dX6_conducts_53 : decode cX6_conducts 53 = .ok (.iload_n 2, 1) := by decide +kernel
theorem dX6_conducts_54 : decode cX6_conducts 54 = .ok (.iconst (-1), 1) := by decide +kernel
theorem dX6_conducts_55 : decode cX6_conducts 55 = .ok (.ixor, 1) := by decide +kernel
theorem dX6_conducts_56 : decode cX6_conducts 56 = .ok (.iand, 1) := by decide +kernel
theorem dX6_conducts_57 : decode cX6_conducts 57 = .ok (.ifCond .ne 14, 3) := by decide +kernel
theorem dX6_conducts_60 : decode cX6_conducts 60 = .ok (.iload 6, 2) := by decide +kernel
theorem dX6_conducts_62 : decode cX6_conducts 62 = .ok (.iload_n 2, 1) := by decide +kernel
theorem dX6_conducts_63 : decode cX6_conducts 63 = .ok (.iand, 1) := by decide +kernel
theorem dX6_conducts_64 : decode cX6_conducts 64 = .ok (.ifCond .ne 7, 3) := by decide +kernel
theorem dX6_conducts_67 : decode cX6_conducts 67 = .ok (.iconst 1, 1) := by decide +kernel
theorem dX6_conducts_68 : decode cX6_conducts 68 = .ok (.goto 4, 3) := by decide +kernel
theorem dX6_conducts_71 : decode cX6_conducts 71 = .ok (.iconst 0, 1) := by decide +kernel
theorem dX6_conducts_72 : decode cX6_conducts 72 = .ok (.istore_n 3, 1) := by decide +kernel
theorem dX6_conducts_73 : decode cX6_conducts 73 = .ok (.iinc 4 1, 3) := by decide +kernel
theorem dX6_conducts_76 : decode cX6_conducts 76 = .ok (.goto (-71), 3) := by decide +kernel
theorem dX6_conducts_79 : decode cX6_conducts 79 = .ok (.iload_n 3, 1) := by decide +kernel
theorem dX6_conducts_80 : decode cX6_conducts 80 = .ok (.ireturn, 1) := by decide +kernel
theorem dX6_looks_0 : decode cX6_looks 0 = .ok (.aload_n 0, 1) := by decide +kernel
theorem dX6_looks_1 : decode cX6_looks 1 = .ok (.getfield 7, 3) := by decide +kernel
theorem dX6_looks_4 : decode cX6_looks 4 = .ok (.iconst 0, 1) := by decide +kernel
theorem dX6_looks_5 : decode cX6_looks 5 = .ok (.iaload, 1) := by decide +kernel
theorem dX6_looks_6 : decode cX6_looks 6 = .ok (.aload_n 0, 1) := by decide +kernel
theorem dX6_looks_7 : decode cX6_looks 7 = .ok (.invokevirtual 41, 3) := by decide +kernel
theorem dX6_looks_10 : decode cX6_looks 10 = .ok (.bipush 8, 2) := by decide +kernel
theorem dX6_looks_12 : decode cX6_looks 12 = .ok (.ishl, 1) := by decide +kernel
theorem dX6_looks_13 : decode cX6_looks 13 = .ok (.ior, 1) := by decide +kernel
theorem dX6_looks_14 : decode cX6_looks 14 = .ok (.istore_n 1, 1) := by decide +kernel
theorem dX6_looks_15 : decode cX6_looks 15 = .ok (.iconst 0, 1) := by decide +kernel
theorem dX6_looks_16 : decode cX6_looks 16 = .ok (.istore_n 2, 1) := by decide +kernel
theorem dX6_looks_17 : decode cX6_looks 17 = .ok (.iconst 0, 1) := by decide +kernel
theorem dX6_looks_18 : decode cX6_looks 18 = .ok (.istore_n 3, 1) := by decide +kernel
theorem dX6_looks_19 : decode cX6_looks 19 = .ok (.iload_n 3, 1) := by decide +kernel
theorem dX6_looks_20 : decode cX6_looks 20 = .ok (.aload_n 0, 1) := by decide +kernel
theorem dX6_looks_21 : decode cX6_looks 21 = .ok (.getfield 7, 3) := by decide +kernel
theorem dX6_looks_24 : decode cX6_looks 24 = .ok (.iconst 1, 1) := by decide +kernel
theorem dX6_looks_25 : decode cX6_looks 25 = .ok (.iaload, 1) := by decide +kernel
theorem dX6_looks_26 : decode cX6_looks 26 = .ok (.if_icmp .ge 154, 3) := by decide +kernel
theorem dX6_looks_29 : decode cX6_looks 29 = .ok (.aload_n 0, 1) := by decide +kernel
theorem dX6_looks_30 : decode cX6_looks 30 = .ok (.iload_n 3, 1) := by decide +kernel
theorem dX6_looks_31 : decode cX6_looks 31 = .ok (.iload_n 1, 1) := by decide +kernel
theorem dX6_looks_32 : decode cX6_looks 32 = .ok (.invokevirtual 45, 3) := by decide +kernel
theorem dX6_looks_35 : decode cX6_looks 35 = .ok (.ifCond .eq 7, 3) := by decide +kernel
theorem dX6_looks_38 : decode cX6_looks 38 = .ok (.iconst 1, 1) := by decide +kernel
theorem dX6_looks_39 : decode cX6_looks 39 = .ok (.goto 4, 3) := by decide +kernel
theorem dX6_looks_42 : decode cX6_looks 42 = .ok (.iconst 0, 1) := by decide +kernel
theorem dX6_looks_43 : decode cX6_looks 43 = .ok (.istore 4, 2) := by decide +kernel
theorem dX6_looks_45 : decode cX6_looks 45 = .ok (.iload 4, 2) := by decide +kernel
theorem dX6_looks_47 : decode cX6_looks 47 = .ok (.aload_n 0, 1) := by decide +kernel
theorem dX6_looks_48 : decode cX6_looks 48 = .ok (.iload_n 3, 1) := by decide +kernel
theorem dX6_looks_49 : decode cX6_looks 49 = .ok (.iconst 4, 1) := by decide +kernel
theorem dX6_looks_50 : decode cX6_looks 50 = .ok (.invokevirtual 37, 3) := by decide +kernel
theorem dX6_looks_53 : decode cX6_looks 53 = .ok (.if_icmp .eq 121, 3) := by decide +kernel
theorem dX6_looks_56 : decode cX6_looks 56 = .ok (.iinc 2 1, 3) := by decide +kernel
theorem dX6_looks_59 : decode cX6_looks 59 = .ok (.aload_n 0, 1) := by decide +kernel
theorem dX6_looks_60 : decode cX6_looks 60 = .ok (.iload_n 3, 1) := by decide +kernel
theorem dX6_looks_61 : decode cX6_looks 61 = .ok (.iconst 4, 1) := by decide +kernel
theorem dX6_looks_62 : decode cX6_looks 62 = .ok (.iload 4, 2) := by decide +kernel
theorem dX6_looks_64 : decode cX6_looks 64 = .ok (.invokevirtual 49, 3) := by decide +kernel
theorem dX6_looks_67 : decode cX6_looks 67 = .ok (.aload_n 0, 1) := by decide +kernel
theorem dX6_looks_68 : decode cX6_looks 68 = .ok (.iload_n 3, 1) := by decide +kernel
theorem dX6_looks_69 : decode cX6_looks 69 = .ok (.iconst 3, 1) := by decide +kernel
theorem dX6_looks_70 : decode cX6_looks 70 = .ok (.invokevirtual 37, 3) := by decide +kernel
theorem dX6_looks_73 : decode cX6_looks 73 = .ok (.iload 4, 2) := by decide +kernel
theorem dX6_looks_75 : decode cX6_looks 75 = .ok (.if_icmp .eq 7, 3) := by decide +kernel
theorem dX6_looks_78 : decode cX6_looks 78 = .ok (.iconst 1, 1) := by decide +kernel
theorem dX6_looks_79 : decode cX6_looks 79 = .ok (.goto 4, 3) := by decide +kernel
theorem dX6_looks_82 : decode cX6_looks 82 = .ok (.iconst 0, 1) := by decide +kernel
theorem dX6_looks_83 : decode cX6_looks 83 = .ok (.istore 5, 2) := by decide +kernel
theorem dX6_looks_85 : decode cX6_looks 85 = .ok (.aload_n 0, 1) := by decide +kernel
theorem dX6_looks_86 : decode cX6_looks 86 = .ok (.iload_n 3, 1) := by decide +kernel
theorem dX6_looks_87 : decode cX6_looks 87 = .ok (.bipush 8, 2) := by decide +kernel
theorem dX6_looks_89 : decode cX6_looks 89 = .ok (.iload 5, 2) := by decide +kernel
theorem dX6_looks_91 : decode cX6_looks 91 = .ok (.ifCond .eq 10, 3) := by decide +kernel
theorem dX6_looks_94 : decode cX6_looks 94 = .ok (.iconst 2, 1) := by decide +kernel
theorem dX6_looks_95 : decode cX6_looks 95 = .ok (.iload 4, 2) := by decide +kernel
theorem dX6_looks_97 : decode cX6_looks 97 = .ok (.isub, 1) := by decide +kernel
theorem dX6_looks_98 : decode cX6_looks 98 = .ok (.goto 28, 3) := by decide +kernel
theorem dX6_looks_101 : decode cX6_looks 101 = .ok (.aload_n 0, 1) := by decide +kernel
theorem dX6_looks_102 : decode cX6_looks 102 = .ok (.iload_n 3, 1) := by decide +kernel
theorem dX6_looks_103 : decode cX6_looks 103 = .ok (.bipush 8, 2) := by decide +kernel
theorem dX6_looks_105 : decode cX6_looks 105 = .ok (.invokevirtual 37, 3) := by decide +kernel
theorem dX6_looks_108 : decode cX6_looks 108 = .ok (.iconst 1, 1) := by decide +kernel
theorem dX6_looks_109 : decode cX6_looks 109 = .ok (.iload 4, 2) := by decide +kernel
theorem dX6_looks_111 : decode cX6_looks 111 = .ok (.iadd, 1) := by decide +kernel
theorem dX6_looks_112 : decode cX6_looks 112 = .ok (.if_icmp .ne 7, 3) := by decide +kernel
theorem dX6_looks_115 : decode cX6_looks 115 = .ok (.iconst 0, 1) := by decide +kernel
theorem dX6_looks_116 : decode cX6_looks 116 = .ok (.goto 10, 3) := by decide +kernel
theorem dX6_looks_119 : decode cX6_looks 119 = .ok (.aload_n 0, 1) := by decide +kernel
theorem dX6_looks_120 : decode cX6_looks 120 = .ok (.iload_n 3, 1) := by decide +kernel
theorem dX6_looks_121 : decode cX6_looks 121 = .ok (.bipush 8, 2) := by decide +kernel
theorem dX6_looks_123 : decode cX6_looks 123 = .ok (.invokevirtual 37, 3) := by decide +kernel
theorem dX6_looks_126 : decode cX6_looks 126 = .ok (.invokevirtual 49, 3) := by decide +kernel
theorem dX6_looks_129 : decode cX6_looks 129 = .ok (.aload_n 0, 1) := by decide +kernel
theorem dX6_looks_130 : decode cX6_looks 130 = .ok (.iload_n 3, 1) := by decide +kernel
theorem dX6_looks_131 : decode cX6_looks 131 = .ok (.bipush 9, 2) := by decide +kernel
theorem dX6_looks_133 : decode cX6_looks 133 = .ok (.iload 5, 2) := by decide +kernel
theorem dX6_looks_135 : decode cX6_looks 135 = .ok (.ifCond .eq 29, 3) := by decide +kernel
theorem dX6_looks_138 : decode cX6_looks 138 = .ok (.aload_n 0, 1) := by decide +kernel
theorem dX6_looks_139 : decode cX6_looks 139 = .ok (.getfield 7, 3) := by decide +kernel
theorem dX6_looks_142 : decode cX6_looks 142 = .ok (.iconst 2, 1) := by decide +kernel
theorem dX6_looks_143 : decode cX6_looks 143 = .ok (.iaload, 1) := by decide +kernel
theorem dX6_looks_144 : decode cX6_looks 144 = .ok (.aload_n 0, 1) := by decide +kernel
theorem dX6_looks_145 : decode cX6_looks 145 = .ok (.iload_n 3, 1) := by decide +kernel
theorem dX6_looks_146 : decode cX6_looks 146 = .ok (.iload 4, 2) := by decide +kernel
theorem dX6_looks_148 : decode cX6_looks 148 = .ok (.iconst 1, 1) := by decide +kernel
theorem dX6_looks_149 : decode cX6_looks 149 = .ok (.if_icmp .ne 7, 3) := by decide +kernel
theorem dX6_looks_152 : decode cX6_looks 152 = .ok (.iconst 0, 1) := by decide +kernel
theorem dX6_looks_153 : decode cX6_looks 153 = .ok (.goto 4, 3) := by decide +kernel
theorem dX6_looks_156 : decode cX6_looks 156 = .ok (.iconst 1, 1) := by decide +kernel
theorem dX6_looks_157 : decode cX6_looks 157 = .ok (.invokevirtual 37, 3) := by decide +kernel
theorem dX6_looks_160 : decode cX6_looks 160 = .ok (.iadd, 1) := by decide +kernel
theorem dX6_looks_161 : decode cX6_looks 161 = .ok (.goto 10, 3) := by decide +kernel
theorem dX6_looks_164 : decode cX6_looks 164 = .ok (.aload_n 0, 1) := by decide +kernel
theorem dX6_looks_165 : decode cX6_looks 165 = .ok (.iload_n 3, 1) := by decide +kernel
theorem dX6_looks_166 : decode cX6_looks 166 = .ok (.bipush 9, 2) := by decide +kernel
theorem dX6_looks_168 : decode cX6_looks 168 = .ok (.invokevirtual 37, 3) := by decide +kernel
theorem dX6_looks_171 : decode cX6_looks 171 = .ok (.invokevirtual 49, 3) := by decide +kernel
theorem dX6_looks_174 : decode cX6_looks 174 = .ok (.iinc 3 1, 3) := by decide +kernel
theorem dX6_looks_177 : decode cX6_looks 177 = .ok (.goto (-158), 3) := by decide +kernel
theorem dX6_looks_180 : decode cX6_looks 180 = .ok (.iload_n 2, 1) := by decide +kernel
theorem dX6_looks_181 : decode cX6_looks 181 = .ok (.ireturn, 1) := by decide +kernel
theorem dX6_timeOf_0 : decode cX6_timeOf 0 = .ok (.iload_n 1, 1) := by decide +kernel
theorem dX6_timeOf_1 : decode cX6_timeOf 1 = .ok (.iconst 4, 1) := by decide +kernel
theorem dX6_timeOf_2 : decode cX6_timeOf 2 = .ok (.irem, 1) := by decide +kernel
theorem dX6_timeOf_3 : decode cX6_timeOf 3 = .ok (.iconst 2, 1) := by decide +kernel
theorem dX6_timeOf_4 : decode cX6_timeOf 4 = .ok (.if_icmp .ne 15, 3) := by decide +kernel
theorem dX6_timeOf_7 : decode cX6_timeOf 7 = .ok (.aload_n 0, 1) := by decide +kernel
theorem dX6_timeOf_8 : decode cX6_timeOf 8 = .ok (.iload_n 1, 1) := by decide +kernel
theorem dX6_timeOf_9 : decode cX6_timeOf 9 = .ok (.iconst 4, 1) := by decide +kernel
theorem dX6_timeOf_10 : decode cX6_timeOf 10 = .ok (.idiv, 1) := by decide +kernel
theorem dX6_timeOf_11 : decode cX6_timeOf 11 = .ok (.bipush 11, 2) := by decide +kernel
theorem dX6_timeOf_13 : decode cX6_timeOf 13 = .ok (.invokevirtual 37, 3) := by decide +kernel
theorem dX6_timeOf_16 : decode cX6_timeOf 16 = .ok (.goto 12, 3) := by decide +kernel
theorem dX6_timeOf_19 : decode cX6_timeOf 19 = .ok (.aload_n 0, 1) := by decide +kernel
theorem dX6_timeOf_20 : decode cX6_timeOf 20 = .ok (.iload_n 1, 1) := by decide +kernel
theorem dX6_timeOf_21 : decode cX6_timeOf 21 = .ok (.iconst 4, 1) := by decide +kernel
theorem dX6_timeOf_22 : decode cX6_timeOf 22 = .ok (.idiv, 1) := by decide +kernel
theorem dX6_timeOf_23 : decode cX6_timeOf 23 = .ok (.bipush 9, 2) := by decide +kernel
theorem dX6_timeOf_25 : decode cX6_timeOf 25 = .ok (.invokevirtual 37, 3) := by decide +kernel
theorem dX6_timeOf_28 : decode cX6_timeOf 28 = .ok (.ireturn, 1) := by decide +kernel
theorem dX6_waits_0 : decode cX6_waits 0 = .ok (.iload_n 1, 1) := by decide +kernel
theorem dX6_waits_1 : decode cX6_waits 1 = .ok (.iconst 4, 1) := by decide +kernel
theorem dX6_waits_2 : decode cX6_waits 2 = .ok (.irem, 1) := by decide +kernel
theorem dX6_waits_3 : decode cX6_waits 3 = .ok (.istore_n 2, 1) := by decide +kernel
theorem dX6_waits_4 : decode cX6_waits 4 = .ok (.iload_n 2, 1) := by decide +kernel
theorem dX6_waits_5 : decode cX6_waits 5 = .ok (.iconst 2, 1) := by decide +kernel
theorem dX6_waits_6 : decode cX6_waits 6 = .ok (.if_icmp .ne 24, 3) := by decide +kernel
theorem dX6_waits_9 : decode cX6_waits 9 = .ok (.aload_n 0, 1) := by decide +kernel
theorem dX6_waits_10 : decode cX6_waits 10 = .ok (.iload_n 1, 1) := by decide +kernel
theorem dX6_waits_11 : decode cX6_waits 11 = .ok (.iconst 4, 1) := by decide +kernel
theorem dX6_waits_12 : decode cX6_waits 12 = .ok (.idiv, 1) := by decide +kernel
theorem dX6_waits_13 : decode cX6_waits 13 = .ok (.bipush 10, 2) := by decide +kernel
theorem dX6_waits_15 : decode cX6_waits 15 = .ok (.invokevirtual 37, 3) := by decide +kernel
theorem dX6_waits_18 : decode cX6_waits 18 = .ok (.iconst 1, 1) := by decide +kernel
theorem dX6_waits_19 : decode cX6_waits 19 = .ok (.if_icmp .ne 7, 3) := by decide +kernel
theorem dX6_waits_22 : decode cX6_waits 22 = .ok (.iconst 1, 1) := by decide +kernel
theorem dX6_waits_23 : decode cX6_waits 23 = .ok (.goto 32, 3) := by decide +kernel
theorem dX6_waits_26 : decode cX6_waits 26 = .ok (.iconst 0, 1) := by decide +kernel
theorem dX6_waits_27 : decode cX6_waits 27 = .ok (.goto 28, 3) := by decide +kernel
theorem dX6_waits_30 : decode cX6_waits 30 = .ok (.iload_n 2, 1) := by decide +kernel
theorem dX6_waits_31 : decode cX6_waits 31 = .ok (.iconst 2, 1) := by decide +kernel
theorem dX6_waits_32 : decode cX6_waits 32 = .ok (.if_icmp .ge 22, 3) := by decide +kernel
theorem dX6_waits_35 : decode cX6_waits 35 = .ok (.aload_n 0, 1) := by decide +kernel
theorem dX6_waits_36 : decode cX6_waits 36 = .ok (.iload_n 1, 1) := by decide +kernel
theorem dX6_waits_37 : decode cX6_waits 37 = .ok (.iconst 4, 1) := by decide +kernel
theorem dX6_waits_38 : decode cX6_waits 38 = .ok (.idiv, 1) := by decide +kernel
theorem dX6_waits_39 : decode cX6_waits 39 = .ok (.bipush 8, 2) := by decide +kernel
theorem dX6_waits_41 : decode cX6_waits 41 = .ok (.invokevirtual 37, 3) := by decide +kernel
theorem dX6_waits_44 : decode cX6_waits 44 = .ok (.iload_n 2, 1) := by decide +kernel
theorem dX6_waits_45 : decode cX6_waits 45 = .ok (.iconst 1, 1) := by decide +kernel
theorem dX6_waits_46 : decode cX6_waits 46 = .ok (.iadd, 1) := by decide +kernel
theorem dX6_waits_47 : decode cX6_waits 47 = .ok (.if_icmp .ne 7, 3) := by decide +kernel
theorem dX6_waits_50 : decode cX6_waits 50 = .ok (.iconst 1, 1) := by decide +kernel
theorem dX6_waits_51 : decode cX6_waits 51 = .ok (.goto 4, 3) := by decide +kernel
theorem dX6_waits_54 : decode cX6_waits 54 = .ok (.iconst 0, 1) := by decide +kernel
theorem dX6_waits_55 : decode cX6_waits 55 = .ok (.ireturn, 1) := by decide +kernel
theorem dX6_isAhead_0 : decode cX6_isAhead 0 = .ok (.aload_n 0, 1) := by decide +kernel
theorem dX6_isAhead_1 : decode cX6_isAhead 1 = .ok (.iload_n 1, 1) := by decide +kernel
theorem dX6_isAhead_2 : decode cX6_isAhead 2 = .ok (.invokevirtual 53, 3) := by decide +kernel
theorem dX6_isAhead_5 : decode cX6_isAhead 5 = .ok (.aload_n 0, 1) := by decide +kernel
theorem dX6_isAhead_6 : decode cX6_isAhead 6 = .ok (.iload_n 2, 1) := by decide +kernel
theorem dX6_isAhead_7 : decode cX6_isAhead 7 = .ok (.invokevirtual 53, 3) := by decide +kernel
theorem dX6_isAhead_10 : decode cX6_isAhead 10 = .ok (.if_icmp .eq 22, 3) := by decide +kernel
theorem dX6_isAhead_13 : decode cX6_isAhead 13 = .ok (.aload_n 0, 1) := by decide +kernel
theorem dX6_isAhead_14 : decode cX6_isAhead 14 = .ok (.iload_n 1, 1) := by decide +kernel
theorem dX6_isAhead_15 : decode cX6_isAhead 15 = .ok (.invokevirtual 53, 3) := by decide +kernel
theorem dX6_isAhead_18 : decode cX6_isAhead 18 = .ok (.aload_n 0, 1) := by decide +kernel
theorem dX6_isAhead_19 : decode cX6_isAhead 19 = .ok (.iload_n 2, 1) := by decide +kernel
theorem dX6_isAhead_20 : decode cX6_isAhead 20 = .ok (.invokevirtual 53, 3) := by decide +kernel
theorem dX6_isAhead_23 : decode cX6_isAhead 23 = .ok (.if_icmp .ge 7, 3) := by decide +kernel
theorem dX6_isAhead_26 : decode cX6_isAhead 26 = .ok (.iconst 1, 1) := by decide +kernel
theorem dX6_isAhead_27 : decode cX6_isAhead 27 = .ok (.goto 4, 3) := by decide +kernel
theorem dX6_isAhead_30 : decode cX6_isAhead 30 = .ok (.iconst 0, 1) := by decide +kernel
theorem dX6_isAhead_31 : decode cX6_isAhead 31 = .ok (.ireturn, 1) := by decide +kernel
theorem dX6_isAhead_32 : decode cX6_isAhead 32 = .ok (.iload_n 1, 1) := by decide +kernel
theorem dX6_isAhead_33 : decode cX6_isAhead 33 = .ok (.iconst 4, 1) := by decide +kernel
theorem dX6_isAhead_34 : decode cX6_isAhead 34 = .ok (.idiv, 1) := by decide +kernel
theorem dX6_isAhead_35 : decode cX6_isAhead 35 = .ok (.iload_n 2, 1) := by decide +kernel
theorem dX6_isAhead_36 : decode cX6_isAhead 36 = .ok (.iconst 4, 1) := by decide +kernel
theorem dX6_isAhead_37 : decode cX6_isAhead 37 = .ok (.idiv, 1) := by decide +kernel
theorem dX6_isAhead_38 : decode cX6_isAhead 38 = .ok (.if_icmp .ne 16, 3) := by decide +kernel
theorem dX6_isAhead_41 : decode cX6_isAhead 41 = .ok (.iload_n 1, 1) := by decide +kernel
theorem dX6_isAhead_42 : decode cX6_isAhead 42 = .ok (.iload_n 2, 1) := by decide +kernel
theorem dX6_isAhead_43 : decode cX6_isAhead 43 = .ok (.if_icmp .ge 7, 3) := by decide +kernel
theorem dX6_isAhead_46 : decode cX6_isAhead 46 = .ok (.iconst 1, 1) := by decide +kernel
theorem dX6_isAhead_47 : decode cX6_isAhead 47 = .ok (.goto 34, 3) := by decide +kernel
theorem dX6_isAhead_50 : decode cX6_isAhead 50 = .ok (.iconst 0, 1) := by decide +kernel
theorem dX6_isAhead_51 : decode cX6_isAhead 51 = .ok (.goto 30, 3) := by decide +kernel
theorem dX6_isAhead_54 : decode cX6_isAhead 54 = .ok (.iload_n 3, 1) := by decide +kernel
theorem dX6_isAhead_55 : decode cX6_isAhead 55 = .ok (.ifCond .eq 16, 3) := by decide +kernel
theorem dX6_isAhead_58 : decode cX6_isAhead 58 = .ok (.iload_n 1, 1) := by decide +kernel
theorem dX6_isAhead_59 : decode cX6_isAhead 59 = .ok (.iload_n 2, 1) := by decide +kernel
theorem dX6_isAhead_60 : decode cX6_isAhead 60 = .ok (.if_icmp .le 7, 3) := by decide +kernel
theorem dX6_isAhead_63 : decode cX6_isAhead 63 = .ok (.iconst 1, 1) := by decide +kernel
theorem dX6_isAhead_64 : decode cX6_isAhead 64 = .ok (.goto 17, 3) := by decide +kernel
theorem dX6_isAhead_67 : decode cX6_isAhead 67 = .ok (.iconst 0, 1) := by decide +kernel
theorem dX6_isAhead_68 : decode cX6_isAhead 68 = .ok (.goto 13, 3) := by decide +kernel
theorem dX6_isAhead_71 : decode cX6_isAhead 71 = .ok (.iload_n 1, 1) := by decide +kernel
theorem dX6_isAhead_72 : decode cX6_isAhead 72 = .ok (.iload_n 2, 1) := by decide +kernel
theorem dX6_isAhead_73 : decode cX6_isAhead 73 = .ok (.if_icmp .ge 7, 3) := by decide +kernel
theorem dX6_isAhead_76 : decode cX6_isAhead 76 = .ok (.iconst 1, 1) := by decide +kernel
theorem dX6_isAhead_77 : decode cX6_isAhead 77 = .ok (.goto 4, 3) := by decide +kernel
theorem dX6_isAhead_80 : decode cX6_isAhead 80 = .ok (.iconst 0, 1) := by decide +kernel
theorem dX6_isAhead_81 : decode cX6_isAhead 81 = .ok (.ireturn, 1) := by decide +kernel
theorem dX6_next_0 : decode cX6_next 0 = .ok (.bipush (-9), 2) := by decide +kernel
theorem dX6_next_2 : decode cX6_next 2 = .ok (.istore_n 2, 1) := by decide +kernel
theorem dX6_next_3 : decode cX6_next 3 = .ok (.iconst 0, 1) := by decide +kernel
theorem dX6_next_4 : decode cX6_next 4 = .ok (.istore_n 3, 1) := by decide +kernel
theorem dX6_next_5 : decode cX6_next 5 = .ok (.iload_n 3, 1) := by decide +kernel
theorem dX6_next_6 : decode cX6_next 6 = .ok (.iconst 4, 1) := by decide +kernel
theorem dX6_next_7 : decode cX6_next 7 = .ok (.aload_n 0, 1) := by decide +kernel
theorem dX6_next_8 : decode cX6_next 8 = .ok (.getfield 7, 3) := by decide +kernel
theorem dX6_next_11 : decode cX6_next 11 = .ok (.iconst 1, 1) := by decide +kernel
theorem dX6_next_12 : decode cX6_next 12 = .ok (.iaload, 1) := by decide +kernel
theorem dX6_next_13 : decode cX6_next 13 = .ok (.imul, 1) := by decide +kernel
theorem dX6_next_14 : decode cX6_next 14 = .ok (.if_icmp .ge 39, 3) := by decide +kernel
theorem dX6_next_17 : decode cX6_next 17 = .ok (.aload_n 0, 1) := by decide +kernel
theorem dX6_next_18 : decode cX6_next 18 = .ok (.iload_n 3, 1) := by decide +kernel
theorem dX6_next_19 : decode cX6_next 19 = .ok (.invokevirtual 57, 3) := by decide +kernel
theorem dX6_next_22 : decode cX6_next 22 = .ok (.ifCond .eq 23, 3) := by decide +kernel
theorem dX6_next_25 : decode cX6_next 25 = .ok (.iload_n 2, 1) := by decide +kernel
theorem dX6_next_26 : decode cX6_next 26 = .ok (.bipush (-9), 2) := by decide +kernel
theorem dX6_next_28 : decode cX6_next 28 = .ok (.if_icmp .eq 13, 3) := by decide +kernel
theorem dX6_next_31 : decode cX6_next 31 = .ok (.aload_n 0, 1) := by decide +kernel
theorem dX6_next_32 : decode cX6_next 32 = .ok (.iload_n 3, 1) := by decide +kernel
theorem dX6_next_33 : decode cX6_next 33 = .ok (.iload_n 2, 1) := by decide +kernel
theorem dX6_next_34 : decode cX6_next 34 = .ok (.iload_n 1, 1) := by decide +kernel
theorem dX6_next_35 : decode cX6_next 35 = .ok (.invokevirtual 61, 3) := by decide +kernel
theorem dX6_next_38 : decode cX6_next 38 = .ok (.ifCond .eq 7, 3) := by decide +kernel
theorem dX6_next_41 : decode cX6_next 41 = .ok (.iload_n 3, 1) := by decide +kernel
theorem dX6_next_42 : decode cX6_next 42 = .ok (.goto 4, 3) := by decide +kernel
theorem dX6_next_45 : decode cX6_next 45 = .ok (.iload_n 2, 1) := by decide +kernel
theorem dX6_next_46 : decode cX6_next 46 = .ok (.istore_n 2, 1) := by decide +kernel
theorem dX6_next_47 : decode cX6_next 47 = .ok (.iinc 3 1, 3) := by decide +kernel
theorem dX6_next_50 : decode cX6_next 50 = .ok (.goto (-45), 3) := by decide +kernel
theorem dX6_next_53 : decode cX6_next 53 = .ok (.iload_n 2, 1) := by decide +kernel
theorem dX6_next_54 : decode cX6_next 54 = .ok (.ireturn, 1) := by decide +kernel
theorem dX6_happens_0 : decode cX6_happens 0 = .ok (.iload_n 1, 1) := by decide +kernel
theorem dX6_happens_1 : decode cX6_happens 1 = .ok (.iconst 4, 1) := by decide +kernel
theorem dX6_happens_2 : decode cX6_happens 2 = .ok (.idiv, 1) := by decide +kernel
theorem dX6_happens_3 : decode cX6_happens 3 = .ok (.istore_n 2, 1) := by decide +kernel
theorem dX6_happens_4 : decode cX6_happens 4 = .ok (.iload_n 1, 1) := by decide +kernel
theorem dX6_happens_5 : decode cX6_happens 5 = .ok (.iconst 4, 1) := by decide +kernel
theorem dX6_happens_6 : decode cX6_happens 6 = .ok (.irem, 1) := by decide +kernel
theorem dX6_happens_7 : decode cX6_happens 7 = .ok (.istore_n 3, 1) := by decide +kernel
theorem dX6_happens_8 : decode cX6_happens 8 = .ok (.aload_n 0, 1) := by decide +kernel
theorem dX6_happens_9 : decode cX6_happens 9 = .ok (.getfield 7, 3) := by decide +kernel
theorem dX6_happens_12 : decode cX6_happens 12 = .ok (.iconst 2, 1) := by decide +kernel
theorem dX6_happens_13 : decode cX6_happens 13 = .ok (.aload_n 0, 1) := by decide +kernel
theorem dX6_happens_14 : decode cX6_happens 14 = .ok (.iload_n 1, 1) := by decide +kernel
theorem dX6_happens_15 : decode cX6_happens 15 = .ok (.invokevirtual 53, 3) := by decide +kernel
theorem dX6_happens_18 : decode cX6_happens 18 = .ok (.iastore, 1) := by decide +kernel
theorem dX6_happens_19 : decode cX6_happens 19 = .ok (.iload_n 3, 1) := by decide +kernel
theorem dX6_happens_20 : decode cX6_happens 20 = .ok (.iconst 2, 1) := by decide +kernel
theorem dX6_happens_21 : decode cX6_happens 21 = .ok (.if_icmp .ne 21, 3) := by decide +kernel
theorem dX6_happens_24 : decode cX6_happens 24 = .ok (.aload_n 0, 1) := by decide +kernel
theorem dX6_happens_25 : decode cX6_happens 25 = .ok (.iload_n 2, 1) := by decide +kernel
theorem dX6_happens_26 : decode cX6_happens 26 = .ok (.bipush 10, 2) := by decide +kernel
theorem dX6_happens_28 : decode cX6_happens 28 = .ok (.iconst 0, 1) := by decide +kernel
theorem dX6_happens_29 : decode cX6_happens 29 = .ok (.invokevirtual 49, 3) := by decide +kernel
theorem dX6_happens_32 : decode cX6_happens 32 = .ok (.aload_n 0, 1) := by decide +kernel
theorem dX6_happens_33 : decode cX6_happens 33 = .ok (.iload_n 2, 1) := by decide +kernel
theorem dX6_happens_34 : decode cX6_happens 34 = .ok (.iconst 5, 1) := by decide +kernel
theorem dX6_happens_35 : decode cX6_happens 35 = .ok (.iconst 0, 1) := by decide +kernel
theorem dX6_happens_36 : decode cX6_happens 36 = .ok (.invokevirtual 49, 3) := by decide +kernel
theorem dX6_happens_39 : decode cX6_happens 39 = .ok (.goto 74, 3) := by decide +kernel
theorem dX6_happens_42 : decode cX6_happens 42 = .ok (.aload_n 0, 1) := by decide +kernel
theorem dX6_happens_43 : decode cX6_happens 43 = .ok (.iload_n 2, 1) := by decide +kernel
theorem dX6_happens_44 : decode cX6_happens 44 = .ok (.bipush 8, 2) := by decide +kernel
theorem dX6_happens_46 : decode cX6_happens 46 = .ok (.iconst 0, 1) := by decide +kernel
theorem dX6_happens_47 : decode cX6_happens 47 = .ok (.invokevirtual 49, 3) := by decide +kernel
theorem dX6_happens_50 : decode cX6_happens 50 = .ok (.aload_n 0, 1) := by decide +kernel
theorem dX6_happens_51 : decode cX6_happens 51 = .ok (.iload_n 2, 1) := by decide +kernel
theorem dX6_happens_52 : decode cX6_happens 52 = .ok (.bipush 7, 2) := by decide +kernel
theorem dX6_happens_54 : decode cX6_happens 54 = .ok (.invokevirtual 37, 3) := by decide +kernel
theorem dX6_happens_57 : decode cX6_happens 57 = .ok (.ifCond .ne 56, 3) := by decide +kernel
theorem dX6_happens_60 : decode cX6_happens 60 = .ok (.aload_n 0, 1) := by decide +kernel
theorem dX6_happens_61 : decode cX6_happens 61 = .ok (.iload_n 2, 1) := by decide +kernel
theorem dX6_happens_62 : decode cX6_happens 62 = .ok (.iconst 3, 1) := by decide +kernel
theorem dX6_happens_63 : decode cX6_happens 63 = .ok (.iconst 1, 1) := by decide +kernel
theorem dX6_happens_64 : decode cX6_happens 64 = .ok (.iload_n 3, 1) := by decide +kernel
theorem dX6_happens_65 : decode cX6_happens 65 = .ok (.isub, 1) := by decide +kernel
theorem dX6_happens_66 : decode cX6_happens 66 = .ok (.invokevirtual 49, 3) := by decide +kernel
theorem dX6_happens_69 : decode cX6_happens 69 = .ok (.aload_n 0, 1) := by decide +kernel
theorem dX6_happens_70 : decode cX6_happens 70 = .ok (.iload_n 2, 1) := by decide +kernel
theorem dX6_happens_71 : decode cX6_happens 71 = .ok (.iconst 2, 1) := by decide +kernel
theorem dX6_happens_72 : decode cX6_happens 72 = .ok (.invokevirtual 37, 3) := by decide +kernel
theorem dX6_happens_75 : decode cX6_happens 75 = .ok (.ifCond .le 38, 3) := by decide +kernel
theorem dX6_happens_78 : decode cX6_happens 78 = .ok (.aload_n 0, 1) := by decide +kernel
theorem dX6_happens_79 : decode cX6_happens 79 = .ok (.iload_n 2, 1) := by decide +kernel
theorem dX6_happens_80 : decode cX6_happens 80 = .ok (.iconst 5, 1) := by decide +kernel
theorem dX6_happens_81 : decode cX6_happens 81 = .ok (.iconst 1, 1) := by decide +kernel
theorem dX6_happens_82 : decode cX6_happens 82 = .ok (.invokevirtual 49, 3) := by decide +kernel
theorem dX6_happens_85 : decode cX6_happens 85 = .ok (.aload_n 0, 1) := by decide +kernel
theorem dX6_happens_86 : decode cX6_happens 86 = .ok (.iload_n 2, 1) := by decide +kernel
theorem dX6_happens_87 : decode cX6_happens 87 = .ok (.bipush 10, 2) := by decide +kernel
theorem dX6_happens_89 : decode cX6_happens 89 = .ok (.iconst 1, 1) := by decide +kernel
theorem dX6_happens_90 : decode cX6_happens 90 = .ok (.invokevirtual 49, 3) := by decide +kernel
theorem dX6_happens_93 : decode cX6_happens 93 = .ok (.aload_n 0, 1) := by decide +kernel
theorem dX6_happens_94 : decode cX6_happens 94 = .ok (.iload_n 2, 1) := by decide +kernel
theorem dX6_happens_95 : decode cX6_happens 95 = .ok (.bipush 11, 2) := by decide +kernel
theorem dX6_happens_97 : decode cX6_happens 97 = .ok (.aload_n 0, 1) := by decide +kernel
theorem dX6_happens_98 : decode cX6_happens 98 = .ok (.getfield 7, 3) := by decide +kernel
theorem dX6_happens_101 : decode cX6_happens 101 = .ok (.iconst 2, 1) := by decide +kernel
theorem dX6_happens_102 : decode cX6_happens 102 = .ok (.iaload, 1) := by decide +kernel
theorem dX6_happens_103 : decode cX6_happens 103 = .ok (.aload_n 0, 1) := by decide +kernel
theorem dX6_happens_104 : decode cX6_happens 104 = .ok (.iload_n 2, 1) := by decide +kernel
theorem dX6_happens_105 : decode cX6_happens 105 = .ok (.iconst 2, 1) := by decide +kernel
theorem dX6_happens_106 : decode cX6_happens 106 = .ok (.invokevirtual 37, 3) := by decide +kernel
theorem dX6_happens_109 : decode cX6_happens 109 = .ok (.iadd, 1) := by decide +kernel
theorem dX6_happens_110 : decode cX6_happens 110 = .ok (.invokevirtual 49, 3) := by decide +kernel
theorem dX6_happens_113 : decode cX6_happens 113 = .ok (.aload_n 0, 1) := by decide +kernel
theorem dX6_happens_114 : decode cX6_happens 114 = .ok (.dup, 1) := by decide +kernel
theorem dX6_happens_115 : decode cX6_happens 115 = .ok (.getfield 65, 3) := by decide +kernel
theorem dX6_happens_118 : decode cX6_happens 118 = .ok (.aload_n 0, 1) := by decide +kernel
theorem dX6_happens_119 : decode cX6_happens 119 = .ok (.invokevirtual 68, 3) := by decide +kernel
theorem dX6_happens_122 : decode cX6_happens 122 = .ok (.iadd, 1) := by decide +kernel
theorem dX6_happens_123 : decode cX6_happens 123 = .ok (.putfield 65, 3) := by decide +kernel
theorem dX6_happens_126 : decode cX6_happens 126 = .ok (.return_, 1) := by decide +kernel
theorem dX6_settles_0 : decode cX6_settles 0 = .ok (.iconst 0, 1) := by decide +kernel
theorem dX6_settles_1 : decode cX6_settles 1 = .ok (.istore_n 3, 1) := by decide +kernel
theorem dX6_settles_2 : decode cX6_settles 2 = .ok (.aload_n 0, 1) := by decide +kernel
theorem dX6_settles_3 : decode cX6_settles 3 = .ok (.iload_n 1, 1) := by decide +kernel
theorem dX6_settles_4 : decode cX6_settles 4 = .ok (.invokevirtual 71, 3) := by decide +kernel
theorem dX6_settles_7 : decode cX6_settles 7 = .ok (.istore 4, 2) := by decide +kernel
theorem dX6_settles_9 : decode cX6_settles 9 = .ok (.iload_n 3, 1) := by decide +kernel
theorem dX6_settles_10 : decode cX6_settles 10 = .ok (.iload_n 2, 1) := by decide +kernel
theorem dX6_settles_11 : decode cX6_settles 11 = .ok (.if_icmp .ge 29, 3) := by decide +kernel
theorem dX6_settles_14 : decode cX6_settles 14 = .ok (.iload 4, 2) := by decide +kernel
theorem dX6_settles_16 : decode cX6_settles 16 = .ok (.bipush (-9), 2) := by decide +kernel
theorem dX6_settles_18 : decode cX6_settles 18 = .ok (.if_icmp .eq 22, 3) := by decide +kernel
theorem dX6_settles_21 : decode cX6_settles 21 = .ok (.aload_n 0, 1) := by decide +kernel
theorem dX6_settles_22 : decode cX6_settles 22 = .ok (.iload 4, 2) := by decide +kernel
theorem dX6_settles_24 : decode cX6_settles 24 = .ok (.invokevirtual 75, 3) := by decide +kernel
theorem dX6_settles_27 : decode cX6_settles 27 = .ok (.iinc 3 1, 3) := by decide +kernel
theorem dX6_settles_30 : decode cX6_settles 30 = .ok (.aload_n 0, 1) := by decide +kernel
theorem dX6_settles_31 : decode cX6_settles 31 = .ok (.iload_n 1, 1) := by decide +kernel
theorem dX6_settles_32 : decode cX6_settles 32 = .ok (.invokevirtual 71, 3) := by decide +kernel
theorem dX6_settles_35 : decode cX6_settles 35 = .ok (.istore 4, 2) := by decide +kernel
theorem dX6_settles_37 : decode cX6_settles 37 = .ok (.goto (-28), 3) := by decide +kernel
theorem dX6_settles_40 : decode cX6_settles 40 = .ok (.iload_n 3, 1) := by decide +kernel
theorem dX6_settles_41 : decode cX6_settles 41 = .ok (.ireturn, 1) := by decide +kernel
theorem dX6_addRelay_0 : decode cX6_addRelay 0 = .ok (.iload_n 1, 1) := by decide +kernel
theorem dX6_addRelay_1 : decode cX6_addRelay 1 = .ok (.iconst 1, 1) := by decide +kernel
theorem dX6_addRelay_2 : decode cX6_addRelay 2 = .ok (.bipush 20, 2) := by decide +kernel
theorem dX6_addRelay_4 : decode cX6_addRelay 4 = .ok (.invokestatic 33, 3) := by decide +kernel
theorem dX6_addRelay_7 : decode cX6_addRelay 7 = .ok (.ifCond .eq 22, 3) := by decide +kernel
theorem dX6_addRelay_10 : decode cX6_addRelay 10 = .ok (.iload_n 2, 1) := by decide +kernel
theorem dX6_addRelay_11 : decode cX6_addRelay 11 = .ok (.iconst 1, 1) := by decide +kernel
theorem dX6_addRelay_12 : decode cX6_addRelay 12 = .ok (.bipush 20, 2) := by decide +kernel
theorem dX6_addRelay_14 : decode cX6_addRelay 14 = .ok (.invokestatic 33, 3) := by decide +kernel
theorem dX6_addRelay_17 : decode cX6_addRelay 17 = .ok (.ifCond .eq 12, 3) := by decide +kernel
theorem dX6_addRelay_20 : decode cX6_addRelay 20 = .ok (.iload_n 3, 1) := by decide +kernel
theorem dX6_addRelay_21 : decode cX6_addRelay 21 = .ok (.iconst 0, 1) := by decide +kernel
theorem dX6_addRelay_22 : decode cX6_addRelay 22 = .ok (.iconst 5, 1) := by decide +kernel
theorem dX6_addRelay_23 : decode cX6_addRelay 23 = .ok (.invokestatic 33, 3) := by decide +kernel
theorem dX6_addRelay_26 : decode cX6_addRelay 26 = .ok (.ifCond .ne 5, 3) := by decide +kernel
theorem dX6_addRelay_29 : decode cX6_addRelay 29 = .ok (.iconst (-1), 1) := by decide +kernel
theorem dX6_addRelay_30 : decode cX6_addRelay 30 = .ok (.ireturn, 1) := by decide +kernel
theorem dX6_addRelay_31 : decode cX6_addRelay 31 = .ok (.aload_n 0, 1) := by decide +kernel
theorem dX6_addRelay_32 : decode cX6_addRelay 32 = .ok (.getfield 7, 3) := by decide +kernel
theorem dX6_addRelay_35 : decode cX6_addRelay 35 = .ok (.iconst 1, 1) := by decide +kernel
theorem dX6_addRelay_36 : decode cX6_addRelay 36 = .ok (.iaload, 1) := by decide +kernel
theorem dX6_addRelay_37 : decode cX6_addRelay 37 = .ok (.bipush 8, 2) := by decide +kernel
theorem dX6_addRelay_39 : decode cX6_addRelay 39 = .ok (.if_icmp .ne 6, 3) := by decide +kernel
theorem dX6_addRelay_42 : decode cX6_addRelay 42 = .ok (.bipush (-3), 2) := by decide +kernel
theorem dX6_addRelay_44 : decode cX6_addRelay 44 = .ok (.ireturn, 1) := by decide +kernel
theorem dX6_addRelay_45 : decode cX6_addRelay 45 = .ok (.aload_n 0, 1) := by decide +kernel
theorem dX6_addRelay_46 : decode cX6_addRelay 46 = .ok (.invokevirtual 79, 3) := by decide +kernel
theorem dX6_addRelay_49 : decode cX6_addRelay 49 = .ok (.aload_n 0, 1) := by decide +kernel
theorem dX6_addRelay_50 : decode cX6_addRelay 50 = .ok (.getfield 7, 3) := by decide +kernel
theorem dX6_addRelay_53 : decode cX6_addRelay 53 = .ok (.iconst 1, 1) := by decide +kernel
theorem dX6_addRelay_54 : decode cX6_addRelay 54 = .ok (.iaload, 1) := by decide +kernel
theorem dX6_addRelay_55 : decode cX6_addRelay 55 = .ok (.istore 4, 2) := by decide +kernel
theorem dX6_addRelay_57 : decode cX6_addRelay 57 = .ok (.aload_n 0, 1) := by decide +kernel
theorem dX6_addRelay_58 : decode cX6_addRelay 58 = .ok (.getfield 7, 3) := by decide +kernel
theorem dX6_addRelay_61 : decode cX6_addRelay 61 = .ok (.iconst 1, 1) := by decide +kernel
theorem dX6_addRelay_62 : decode cX6_addRelay 62 = .ok (.dup2, 1) := by decide +kernel
theorem dX6_addRelay_63 : decode cX6_addRelay 63 = .ok (.iaload, 1) := by decide +kernel
theorem dX6_addRelay_64 : decode cX6_addRelay 64 = .ok (.iconst 1, 1) := by decide +kernel
theorem dX6_addRelay_65 : decode cX6_addRelay 65 = .ok (.iadd, 1) := by decide +kernel
theorem dX6_addRelay_66 : decode cX6_addRelay 66 = .ok (.iastore, 1) := by decide +kernel
theorem dX6_addRelay_67 : decode cX6_addRelay 67 = .ok (.iconst 0, 1) := by decide +kernel
theorem dX6_addRelay_68 : decode cX6_addRelay 68 = .ok (.istore 5, 2) := by decide +kernel
theorem dX6_addRelay_70 : decode cX6_addRelay 70 = .ok (.iload 5, 2) := by decide +kernel
theorem dX6_addRelay_72 : decode cX6_addRelay 72 = .ok (.bipush 25, 2) := by decide +kernel
theorem dX6_addRelay_74 : decode cX6_addRelay 74 = .ok (.if_icmp .ge 18, 3) := by decide +kernel
theorem dX6_addRelay_77 : decode cX6_addRelay 77 = .ok (.aload_n 0, 1) := by decide +kernel
theorem dX6_addRelay_78 : decode cX6_addRelay 78 = .ok (.iload 4, 2) := by decide +kernel
theorem dX6_addRelay_80 : decode cX6_addRelay 80 = .ok (.iload 5, 2) := by decide +kernel
theorem dX6_addRelay_82 : decode cX6_addRelay 82 = .ok (.iconst 0, 1) := by decide +kernel
theorem dX6_addRelay_83 : decode cX6_addRelay 83 = .ok (.invokevirtual 49, 3) := by decide +kernel
theorem dX6_addRelay_86 : decode cX6_addRelay 86 = .ok (.iinc 5 1, 3) := by decide +kernel
theorem dX6_addRelay_89 : decode cX6_addRelay 89 = .ok (.goto (-19), 3) := by decide +kernel
theorem dX6_addRelay_92 : decode cX6_addRelay 92 = .ok (.aload_n 0, 1) := by decide +kernel
theorem dX6_addRelay_93 : decode cX6_addRelay 93 = .ok (.iload 4, 2) := by decide +kernel
theorem dX6_addRelay_95 : decode cX6_addRelay 95 = .ok (.iconst 0, 1) := by decide +kernel
theorem dX6_addRelay_96 : decode cX6_addRelay 96 = .ok (.iload_n 1, 1) := by decide +kernel
theorem dX6_addRelay_97 : decode cX6_addRelay 97 = .ok (.invokevirtual 49, 3) := by decide +kernel
theorem dX6_addRelay_100 : decode cX6_addRelay 100 = .ok (.aload_n 0, 1) := by decide +kernel
theorem dX6_addRelay_101 : decode cX6_addRelay 101 = .ok (.iload 4, 2) := by decide +kernel
theorem dX6_addRelay_103 : decode cX6_addRelay 103 = .ok (.iconst 1, 1) := by decide +kernel
theorem dX6_addRelay_104 : decode cX6_addRelay 104 = .ok (.iload_n 2, 1) := by decide +kernel
theorem dX6_addRelay_105 : decode cX6_addRelay 105 = .ok (.invokevirtual 49, 3) := by decide +kernel
theorem dX6_addRelay_108 : decode cX6_addRelay 108 = .ok (.aload_n 0, 1) := by decide +kernel
theorem dX6_addRelay_109 : decode cX6_addRelay 109 = .ok (.iload 4, 2) := by decide +kernel
theorem dX6_addRelay_111 : decode cX6_addRelay 111 = .ok (.iconst 2, 1) := by decide +kernel
theorem dX6_addRelay_112 : decode cX6_addRelay 112 = .ok (.iload_n 3, 1) := by decide +kernel
theorem dX6_addRelay_113 : decode cX6_addRelay 113 = .ok (.invokevirtual 49, 3) := by decide +kernel
theorem dX6_addRelay_116 : decode cX6_addRelay 116 = .ok (.iload 4, 2) := by decide +kernel
theorem dX6_addRelay_118 : decode cX6_addRelay 118 = .ok (.ireturn, 1) := by decide +kernel
theorem dX6_setDelays_0 : decode cX6_setDelays 0 = .ok (.aload_n 0, 1) := by decide +kernel
theorem dX6_setDelays_1 : decode cX6_setDelays 1 = .ok (.iload_n 1, 1) := by decide +kernel
theorem dX6_setDelays_2 : decode cX6_setDelays 2 = .ok (.invokevirtual 82, 3) := by decide +kernel
theorem dX6_setDelays_5 : decode cX6_setDelays 5 = .ok (.ifCond .eq 33, 3) := by decide +kernel
theorem dX6_setDelays_8 : decode cX6_setDelays 8 = .ok (.iload_n 2, 1) := by decide +kernel
theorem dX6_setDelays_9 : decode cX6_setDelays 9 = .ok (.iconst 1, 1) := by decide +kernel
theorem dX6_setDelays_10 : decode cX6_setDelays 10 = .ok (.bipush 20, 2) := by decide +kernel
theorem dX6_setDelays_12 : decode cX6_setDelays 12 = .ok (.invokestatic 33, 3) := by decide +kernel
theorem dX6_setDelays_15 : decode cX6_setDelays 15 = .ok (.ifCond .eq 23, 3) := by decide +kernel
theorem dX6_setDelays_18 : decode cX6_setDelays 18 = .ok (.iload_n 3, 1) := by decide +kernel
theorem dX6_setDelays_19 : decode cX6_setDelays 19 = .ok (.iconst 1, 1) := by decide +kernel
theorem dX6_setDelays_20 : decode cX6_setDelays 20 = .ok (.bipush 20, 2) := by decide +kernel
theorem dX6_setDelays_22 : decode cX6_setDelays 22 = .ok (.invokestatic 33, 3) := by decide +kernel
theorem dX6_setDelays_25 : decode cX6_setDelays 25 = .ok (.ifCond .eq 13, 3) := by decide +kernel
theorem dX6_setDelays_28 : decode cX6_setDelays 28 = .ok (.iload 4, 2) := by decide +kernel
theorem dX6_setDelays_30 : decode cX6_setDelays 30 = .ok (.iconst 0, 1) := by decide +kernel
theorem dX6_setDelays_31 : decode cX6_setDelays 31 = .ok (.iconst 5, 1) := by decide +kernel
theorem dX6_setDelays_32 : decode cX6_setDelays 32 = .ok (.invokestatic 33, 3) := by decide +kernel
theorem dX6_setDelays_35 : decode cX6_setDelays 35 = .ok (.ifCond .ne 5, 3) := by decide +kernel
theorem dX6_setDelays_38 : decode cX6_setDelays 38 = .ok (.iconst (-1), 1) := by decide +kernel
theorem dX6_setDelays_39 : decode cX6_setDelays 39 = .ok (.ireturn, 1) := by decide +kernel
theorem dX6_setDelays_40 : decode cX6_setDelays 40 = .ok (.aload_n 0, 1) := by decide +kernel
theorem dX6_setDelays_41 : decode cX6_setDelays 41 = .ok (.invokevirtual 79, 3) := by decide +kernel
theorem dX6_setDelays_44 : decode cX6_setDelays 44 = .ok (.aload_n 0, 1) := by decide +kernel
theorem dX6_setDelays_45 : decode cX6_setDelays 45 = .ok (.iload_n 1, 1) := by decide +kernel
theorem dX6_setDelays_46 : decode cX6_setDelays 46 = .ok (.iconst 0, 1) := by decide +kernel
theorem dX6_setDelays_47 : decode cX6_setDelays 47 = .ok (.invokevirtual 37, 3) := by decide +kernel
theorem dX6_setDelays_50 : decode cX6_setDelays 50 = .ok (.iload_n 2, 1) := by decide +kernel
theorem dX6_setDelays_51 : decode cX6_setDelays 51 = .ok (.if_icmp .ne 28, 3) := by decide +kernel
theorem dX6_setDelays_54 : decode cX6_setDelays 54 = .ok (.aload_n 0, 1) := by decide +kernel
theorem dX6_setDelays_55 : decode cX6_setDelays 55 = .ok (.iload_n 1, 1) := by decide +kernel
theorem dX6_setDelays_56 : decode cX6_setDelays 56 = .ok (.iconst 1, 1) := by decide +kernel
theorem dX6_setDelays_57 : decode cX6_setDelays 57 = .ok (.invokevirtual 37, 3) := by decide +kernel
theorem dX6_setDelays_60 : decode cX6_setDelays 60 = .ok (.iload_n 3, 1) := by decide +kernel
theorem dX6_setDelays_61 : decode cX6_setDelays 61 = .ok (.if_icmp .ne 18, 3) := by decide +kernel
theorem dX6_setDelays_64 : decode cX6_setDelays 64 = .ok (.aload_n 0, 1) := by decide +kernel
theorem dX6_setDelays_65 : decode cX6_setDelays 65 = .ok (.iload_n 1, 1) := by decide +kernel
theorem dX6_setDelays_66 : decode cX6_setDelays 66 = .ok (.iconst 2, 1) := by decide +kernel
theorem dX6_setDelays_67 : decode cX6_setDelays 67 = .ok (.invokevirtual 37, 3) := by decide +kernel
theorem dX6_setDelays_70 : decode cX6_setDelays 70 = .ok (.iload 4, 2) := by decide +kernel
theorem dX6_setDelays_72 : decode cX6_setDelays 72 = .ok (.if_icmp .ne 7, 3) := by decide +kernel
theorem dX6_setDelays_75 : decode cX6_setDelays 75 = .ok (.iconst 1, 1) := by decide +kernel
theorem dX6_setDelays_76 : decode cX6_setDelays 76 = .ok (.goto 4, 3) := by decide +kernel
theorem dX6_setDelays_79 : decode cX6_setDelays 79 = .ok (.iconst 0, 1) := by decide +kernel
theorem dX6_setDelays_80 : decode cX6_setDelays 80 = .ok (.istore 5, 2) := by decide +kernel
theorem dX6_setDelays_82 : decode cX6_setDelays 82 = .ok (.aload_n 0, 1) := by decide +kernel
theorem dX6_setDelays_83 : decode cX6_setDelays 83 = .ok (.iload_n 1, 1) := by decide +kernel
theorem dX6_setDelays_84 : decode cX6_setDelays 84 = .ok (.iconst 0, 1) := by decide +kernel
theorem dX6_setDelays_85 : decode cX6_setDelays 85 = .ok (.iload_n 2, 1) := by decide +kernel
theorem dX6_setDelays_86 : decode cX6_setDelays 86 = .ok (.invokevirtual 49, 3) := by decide +kernel
theorem dX6_setDelays_89 : decode cX6_setDelays 89 = .ok (.aload_n 0, 1) := by decide +kernel
theorem dX6_setDelays_90 : decode cX6_setDelays 90 = .ok (.iload_n 1, 1) := by decide +kernel
theorem dX6_setDelays_91 : decode cX6_setDelays 91 = .ok (.iconst 1, 1) := by decide +kernel
theorem dX6_setDelays_92 : decode cX6_setDelays 92 = .ok (.iload_n 3, 1) := by decide +kernel
theorem dX6_setDelays_93 : decode cX6_setDelays 93 = .ok (.invokevirtual 49, 3) := by decide +kernel
theorem dX6_setDelays_96 : decode cX6_setDelays 96 = .ok (.aload_n 0, 1) := by decide +kernel
theorem dX6_setDelays_97 : decode cX6_setDelays 97 = .ok (.iload_n 1, 1) := by decide +kernel
theorem dX6_setDelays_98 : decode cX6_setDelays 98 = .ok (.iconst 2, 1) := by decide +kernel
theorem dX6_setDelays_99 : decode cX6_setDelays 99 = .ok (.iload 4, 2) := by decide +kernel
theorem dX6_setDelays_101 : decode cX6_setDelays 101 = .ok (.invokevirtual 49, 3) := by decide +kernel
theorem dX6_setDelays_104 : decode cX6_setDelays 104 = .ok (.iload 5, 2) := by decide +kernel
theorem dX6_setDelays_106 : decode cX6_setDelays 106 = .ok (.ifCond .eq 7, 3) := by decide +kernel
theorem dX6_setDelays_109 : decode cX6_setDelays 109 = .ok (.iconst 0, 1) := by decide +kernel
theorem dX6_setDelays_110 : decode cX6_setDelays 110 = .ok (.goto 4, 3) := by decide +kernel
theorem dX6_setDelays_113 : decode cX6_setDelays 113 = .ok (.iconst 1, 1) := by decide +kernel
theorem dX6_setDelays_114 : decode cX6_setDelays 114 = .ok (.ireturn, 1) := by decide +kernel
theorem dX6_isSubject_0 : decode cX6_isSubject 0 = .ok (.iload_n 1, 1) := by decide +kernel
theorem dX6_isSubject_1 : decode cX6_isSubject 1 = .ok (.iconst 0, 1) := by decide +kernel
theorem dX6_isSubject_2 : decode cX6_isSubject 2 = .ok (.bipush 7, 2) := by decide +kernel
theorem dX6_isSubject_4 : decode cX6_isSubject 4 = .ok (.aload_n 0, 1) := by decide +kernel
theorem dX6_isSubject_5 : decode cX6_isSubject 5 = .ok (.getfield 7, 3) := by decide +kernel
theorem dX6_isSubject_8 : decode cX6_isSubject 8 = .ok (.iconst 1, 1) := by decide +kernel
theorem dX6_isSubject_9 : decode cX6_isSubject 9 = .ok (.iaload, 1) := by decide +kernel
theorem dX6_isSubject_10 : decode cX6_isSubject 10 = .ok (.iadd, 1) := by decide +kernel
theorem dX6_isSubject_11 : decode cX6_isSubject 11 = .ok (.invokestatic 33, 3) := by decide +kernel
theorem dX6_isSubject_14 : decode cX6_isSubject 14 = .ok (.ifCond .eq 24, 3) := by decide +kernel
theorem dX6_isSubject_17 : decode cX6_isSubject 17 = .ok (.iload_n 1, 1) := by decide +kernel
theorem dX6_isSubject_18 : decode cX6_isSubject 18 = .ok (.bipush 8, 2) := by decide +kernel
theorem dX6_isSubject_20 : decode cX6_isSubject 20 = .ok (.if_icmp .lt 14, 3) := by decide +kernel
theorem dX6_isSubject_23 : decode cX6_isSubject 23 = .ok (.aload_n 0, 1) := by decide +kernel
theorem dX6_isSubject_24 : decode cX6_isSubject 24 = .ok (.iload_n 1, 1) := by decide +kernel
theorem dX6_isSubject_25 : decode cX6_isSubject 25 = .ok (.bipush 8, 2) := by decide +kernel
theorem dX6_isSubject_27 : decode cX6_isSubject 27 = .ok (.isub, 1) := by decide +kernel
theorem dX6_isSubject_28 : decode cX6_isSubject 28 = .ok (.invokevirtual 82, 3) := by decide +kernel
theorem dX6_isSubject_31 : decode cX6_isSubject 31 = .ok (.ifCond .eq 7, 3) := by decide +kernel
theorem dX6_isSubject_34 : decode cX6_isSubject 34 = .ok (.iconst 1, 1) := by decide +kernel
theorem dX6_isSubject_35 : decode cX6_isSubject 35 = .ok (.goto 4, 3) := by decide +kernel
theorem dX6_isSubject_38 : decode cX6_isSubject 38 = .ok (.iconst 0, 1) := by decide +kernel
theorem dX6_isSubject_39 : decode cX6_isSubject 39 = .ok (.ireturn, 1) := by decide +kernel
theorem dX6_how_0 : decode cX6_how 0 = .ok (.aload_n 0, 1) := by decide +kernel
theorem dX6_how_1 : decode cX6_how 1 = .ok (.iload_n 1, 1) := by decide +kernel
theorem dX6_how_2 : decode cX6_how 2 = .ok (.bipush 13, 2) := by decide +kernel
theorem dX6_how_4 : decode cX6_how 4 = .ok (.iconst 2, 1) := by decide +kernel
theorem dX6_how_5 : decode cX6_how 5 = .ok (.iload_n 2, 1) := by decide +kernel
theorem dX6_how_6 : decode cX6_how 6 = .ok (.imul, 1) := by decide +kernel
theorem dX6_how_7 : decode cX6_how 7 = .ok (.iadd, 1) := by decide +kernel
theorem dX6_how_8 : decode cX6_how 8 = .ok (.invokevirtual 37, 3) := by decide +kernel
theorem dX6_how_11 : decode cX6_how 11 = .ok (.iload_n 3, 1) := by decide +kernel
theorem dX6_how_12 : decode cX6_how 12 = .ok (.ishr, 1) := by decide +kernel
theorem dX6_how_13 : decode cX6_how 13 = .ok (.iconst 1, 1) := by decide +kernel
theorem dX6_how_14 : decode cX6_how 14 = .ok (.iand, 1) := by decide +kernel
theorem dX6_how_15 : decode cX6_how 15 = .ok (.istore 4, 2) := by decide +kernel
theorem dX6_how_17 : decode cX6_how 17 = .ok (.aload_n 0, 1) := by decide +kernel
theorem dX6_how_18 : decode cX6_how 18 = .ok (.iload_n 1, 1) := by decide +kernel
theorem dX6_how_19 : decode cX6_how 19 = .ok (.bipush 13, 2) := by decide +kernel
theorem dX6_how_21 : decode cX6_how 21 = .ok (.iconst 2, 1) := by decide +kernel
theorem dX6_how_22 : decode cX6_how 22 = .ok (.iload_n 2, 1) := by decide +kernel
theorem dX6_how_23 : decode cX6_how 23 = .ok (.imul, 1) := by decide +kernel
theorem dX6_how_24 : decode cX6_how 24 = .ok (.iadd, 1) := by decide +kernel
theorem dX6_how_25 : decode cX6_how 25 = .ok (.iconst 1, 1) := by decide +kernel
theorem dX6_how_26 : decode cX6_how 26 = .ok (.iadd, 1) := by decide +kernel
theorem dX6_how_27 : decode cX6_how 27 = .ok (.invokevirtual 37, 3) := by decide +kernel
theorem dX6_how_30 : decode cX6_how 30 = .ok (.iload_n 3, 1) := by decide +kernel
theorem dX6_how_31 : decode cX6_how 31 = .ok (.ishr, 1) := by decide +kernel
theorem dX6_how_32 : decode cX6_how 32 = .ok (.iconst 1, 1) := by decide +kernel
theorem dX6_how_33 : decode cX6_how 33 = .ok (.iand, 1) := by decide +kernel
theorem dX6_how_34 : decode cX6_how 34 = .ok (.istore 5, 2) := by decide +kernel
theorem dX6_how_36 : decode cX6_how 36 = .ok (.iload 4, 2) := by decide +kernel
theorem dX6_how_38 : decode cX6_how 38 = .ok (.iconst 1, 1) := by decide +kernel
theorem dX6_how_39 : decode cX6_how 39 = .ok (.if_icmp .ne 7, 3) := by decide +kernel
theorem dX6_how_42 : decode cX6_how 42 = .ok (.iconst 1, 1) := by decide +kernel
theorem dX6_how_43 : decode cX6_how 43 = .ok (.goto 7, 3) := by decide +kernel
theorem dX6_how_46 : decode cX6_how 46 = .ok (.iconst 2, 1) := by decide +kernel
theorem dX6_how_47 : decode cX6_how 47 = .ok (.iload 5, 2) := by decide +kernel
theorem dX6_how_49 : decode cX6_how 49 = .ok (.imul, 1) := by decide +kernel
theorem dX6_how_50 : decode cX6_how 50 = .ok (.ireturn, 1) := by decide +kernel
theorem dX6_conditions_0 : decode cX6_conditions 0 = .ok (.iconst 1, 1) := by decide +kernel
theorem dX6_conditions_1 : decode cX6_conditions 1 = .ok (.iload_n 3, 1) := by decide +kernel
theorem dX6_conditions_2 : decode cX6_conditions 2 = .ok (.ishl, 1) := by decide +kernel
theorem dX6_conditions_3 : decode cX6_conditions 3 = .ok (.istore 5, 2) := by decide +kernel
theorem dX6_conditions_5 : decode cX6_conditions 5 = .ok (.aload_n 0, 1) := by decide +kernel
theorem dX6_conditions_6 : decode cX6_conditions 6 = .ok (.iload_n 1, 1) := by decide +kernel
theorem dX6_conditions_7 : decode cX6_conditions 7 = .ok (.bipush 13, 2) := by decide +kernel
theorem dX6_conditions_9 : decode cX6_conditions 9 = .ok (.iconst 2, 1) := by decide +kernel
theorem dX6_conditions_10 : decode cX6_conditions 10 = .ok (.iload_n 2, 1) := by decide +kernel
theorem dX6_conditions_11 : decode cX6_conditions 11 = .ok (.imul, 1) := by decide +kernel
theorem dX6_conditions_12 : decode cX6_conditions 12 = .ok (.iadd, 1) := by decide +kernel
theorem dX6_conditions_13 : decode cX6_conditions 13 = .ok (.invokevirtual 37, 3) := by decide +kernel
theorem dX6_conditions_16 : decode cX6_conditions 16 = .ok (.iload 5, 2) := by decide +kernel
theorem dX6_conditions_18 : decode cX6_conditions 18 = .ok (.iconst (-1), 1) := by decide +kernel
theorem dX6_conditions_19 : decode cX6_conditions 19 = .ok (.ixor, 1) := by decide +kernel
theorem dX6_conditions_20 : decode cX6_conditions 20 = .ok (.iand, 1) := by decide +kernel
theorem dX6_conditions_21 : decode cX6_conditions 21 = .ok (.istore 6, 2) := by decide +kernel
theorem dX6_conditions_23 : decode cX6_conditions 23 = .ok (.aload_n 0, 1) := by decide +kernel
theorem dX6_conditions_24 : decode cX6_conditions 24 = .ok (.iload_n 1, 1) := by decide +kernel
theorem dX6_conditions_25 : decode cX6_conditions 25 = .ok (.bipush 13, 2) := by decide +kernel
theorem dX6_conditions_27 : decode cX6_conditions 27 = .ok (.iconst 2, 1) := by decide +kernel
theorem dX6_conditions_28 : decode cX6_conditions 28 = .ok (.iload_n 2, 1) := by decide +kernel
theorem dX6_conditions_29 : decode cX6_conditions 29 = .ok (.imul, 1) := by decide +kernel
theorem dX6_conditions_30 : decode cX6_conditions 30 = .ok (.iadd, 1) := by decide +kernel
theorem dX6_conditions_31 : decode cX6_conditions 31 = .ok (.iconst 1, 1) := by decide +kernel
theorem dX6_conditions_32 : decode cX6_conditions 32 = .ok (.iadd, 1) := by decide +kernel
theorem dX6_conditions_33 : decode cX6_conditions 33 = .ok (.invokevirtual 37, 3) := by decide +kernel
theorem dX6_conditions_36 : decode cX6_conditions 36 = .ok (.iload 5, 2) := by decide +kernel
theorem dX6_conditions_38 : decode cX6_conditions 38 = .ok (.iconst (-1), 1) := by decide +kernel
theorem dX6_conditions_39 : decode cX6_conditions 39 = .ok (.ixor, 1) := by decide +kernel
theorem dX6_conditions_40 : decode cX6_conditions 40 = .ok (.iand, 1) := by decide +kernel
theorem dX6_conditions_41 : decode cX6_conditions 41 = .ok (.istore 7, 2) := by decide +kernel
theorem dX6_conditions_43 : decode cX6_conditions 43 = .ok (.aload_n 0, 1) := by decide +kernel
theorem dX6_conditions_44 : decode cX6_conditions 44 = .ok (.iload_n 1, 1) := by decide +kernel
theorem dX6_conditions_45 : decode cX6_conditions 45 = .ok (.bipush 13, 2) := by decide +kernel
theorem dX6_conditions_47 : decode cX6_conditions 47 = .ok (.iconst 2, 1) := by decide +kernel
theorem dX6_conditions_48 : decode cX6_conditions 48 = .ok (.iload_n 2, 1) := by decide +kernel
theorem dX6_conditions_49 : decode cX6_conditions 49 = .ok (.imul, 1) := by decide +kernel
theorem dX6_conditions_50 : decode cX6_conditions 50 = .ok (.iadd, 1) := by decide +kernel
theorem dX6_conditions_51 : decode cX6_conditions 51 = .ok (.iload 4, 2) := by decide +kernel
theorem dX6_conditions_53 : decode cX6_conditions 53 = .ok (.iconst 1, 1) := by decide +kernel
theorem dX6_conditions_54 : decode cX6_conditions 54 = .ok (.if_icmp .ne 11, 3) := by decide +kernel
theorem dX6_conditions_57 : decode cX6_conditions 57 = .ok (.iload 6, 2) := by decide +kernel
theorem dX6_conditions_59 : decode cX6_conditions 59 = .ok (.iload 5, 2) := by decide +kernel
theorem dX6_conditions_61 : decode cX6_conditions 61 = .ok (.ior, 1) := by decide +kernel
theorem dX6_conditions_62 : decode cX6_conditions 62 = .ok (.goto 5, 3) := by decide +kernel
theorem dX6_conditions_65 : decode cX6_conditions 65 = .ok (.iload 6, 2) := by decide +kernel
theorem dX6_conditions_67 : decode cX6_conditions 67 = .ok (.invokevirtual 49, 3) := by decide +kernel
theorem dX6_conditions_70 : decode cX6_conditions 70 = .ok (.aload_n 0, 1) := by decide +kernel
theorem dX6_conditions_71 : decode cX6_conditions 71 = .ok (.iload_n 1, 1) := by decide +kernel
theorem dX6_conditions_72 : decode cX6_conditions 72 = .ok (.bipush 13, 2) := by decide +kernel
theorem dX6_conditions_74 : decode cX6_conditions 74 = .ok (.iconst 2, 1) := by decide +kernel
theorem dX6_conditions_75 : decode cX6_conditions 75 = .ok (.iload_n 2, 1) := by decide +kernel
theorem dX6_conditions_76 : decode cX6_conditions 76 = .ok (.imul, 1) := by decide +kernel
theorem dX6_conditions_77 : decode cX6_conditions 77 = .ok (.iadd, 1) := by decide +kernel
theorem dX6_conditions_78 : decode cX6_conditions 78 = .ok (.iconst 1, 1) := by decide +kernel
theorem dX6_conditions_79 : decode cX6_conditions 79 = .ok (.iadd, 1) := by decide +kernel
theorem dX6_conditions_80 : decode cX6_conditions 80 = .ok (.iload 4, 2) := by decide +kernel
theorem dX6_conditions_82 : decode cX6_conditions 82 = .ok (.iconst 2, 1) := by decide +kernel
theorem dX6_conditions_83 : decode cX6_conditions 83 = .ok (.if_icmp .ne 11, 3) := by decide +kernel
theorem dX6_conditions_86 : decode cX6_conditions 86 = .ok (.iload 7, 2) := by decide +kernel
theorem dX6_conditions_88 : decode cX6_conditions 88 = .ok (.iload 5, 2) := by decide +kernel
theorem dX6_conditions_90 : decode cX6_conditions 90 = .ok (.ior, 1) := by decide +kernel
theorem dX6_conditions_91 : decode cX6_conditions 91 = .ok (.goto 5, 3) := by decide +kernel
theorem dX6_conditions_94 : decode cX6_conditions 94 = .ok (.iload 7, 2) := by decide +kernel
theorem dX6_conditions_96 : decode cX6_conditions 96 = .ok (.invokevirtual 49, 3) := by decide +kernel
theorem dX6_conditions_99 : decode cX6_conditions 99 = .ok (.return_, 1) := by decide +kernel
theorem dX6_opensBranch_0 : decode cX6_opensBranch 0 = .ok (.aload_n 0, 1) := by decide +kernel
theorem dX6_opensBranch_1 : decode cX6_opensBranch 1 = .ok (.iload_n 1, 1) := by decide +kernel
theorem dX6_opensBranch_2 : decode cX6_opensBranch 2 = .ok (.bipush 12, 2) := by decide +kernel
theorem dX6_opensBranch_4 : decode cX6_opensBranch 4 = .ok (.invokevirtual 37, 3) := by decide +kernel
theorem dX6_opensBranch_7 : decode cX6_opensBranch 7 = .ok (.istore_n 2, 1) := by decide +kernel
theorem dX6_opensBranch_8 : decode cX6_opensBranch 8 = .ok (.aload_n 0, 1) := by decide +kernel
theorem dX6_opensBranch_9 : decode cX6_opensBranch 9 = .ok (.iload_n 1, 1) := by decide +kernel
theorem dX6_opensBranch_10 : decode cX6_opensBranch 10 = .ok (.bipush 13, 2) := by decide +kernel
theorem dX6_opensBranch_12 : decode cX6_opensBranch 12 = .ok (.iconst 2, 1) := by decide +kernel
theorem dX6_opensBranch_13 : decode cX6_opensBranch 13 = .ok (.iload_n 2, 1) := by decide +kernel
theorem dX6_opensBranch_14 : decode cX6_opensBranch 14 = .ok (.imul, 1) := by decide +kernel
theorem dX6_opensBranch_15 : decode cX6_opensBranch 15 = .ok (.iadd, 1) := by decide +kernel
theorem dX6_opensBranch_16 : decode cX6_opensBranch 16 = .ok (.iconst 0, 1) := by decide +kernel
theorem dX6_opensBranch_17 : decode cX6_opensBranch 17 = .ok (.invokevirtual 49, 3) := by decide +kernel
theorem dX6_opensBranch_20 : decode cX6_opensBranch 20 = .ok (.aload_n 0, 1) := by decide +kernel
theorem dX6_opensBranch_21 : decode cX6_opensBranch 21 = .ok (.iload_n 1, 1) := by decide +kernel
theorem dX6_opensBranch_22 : decode cX6_opensBranch 22 = .ok (.bipush 13, 2) := by decide +kernel
theorem dX6_opensBranch_24 : decode cX6_opensBranch 24 = .ok (.iconst 2, 1) := by decide +kernel
theorem dX6_opensBranch_25 : decode cX6_opensBranch 25 = .ok (.iload_n 2, 1) := by decide +kernel
theorem dX6_opensBranch_26 : decode cX6_opensBranch 26 = .ok (.imul, 1) := by decide +kernel
theorem dX6_opensBranch_27 : decode cX6_opensBranch 27 = .ok (.iadd, 1) := by decide +kernel
theorem dX6_opensBranch_28 : decode cX6_opensBranch 28 = .ok (.iconst 1, 1) := by decide +kernel
theorem dX6_opensBranch_29 : decode cX6_opensBranch 29 = .ok (.iadd, 1) := by decide +kernel
theorem dX6_opensBranch_30 : decode cX6_opensBranch 30 = .ok (.iconst 0, 1) := by decide +kernel
theorem dX6_opensBranch_31 : decode cX6_opensBranch 31 = .ok (.invokevirtual 49, 3) := by decide +kernel
theorem dX6_opensBranch_34 : decode cX6_opensBranch 34 = .ok (.aload_n 0, 1) := by decide +kernel
theorem dX6_opensBranch_35 : decode cX6_opensBranch 35 = .ok (.iload_n 1, 1) := by decide +kernel
theorem dX6_opensBranch_36 : decode cX6_opensBranch 36 = .ok (.bipush 12, 2) := by decide +kernel
theorem dX6_opensBranch_38 : decode cX6_opensBranch 38 = .ok (.iload_n 2, 1) := by decide +kernel
theorem dX6_opensBranch_39 : decode cX6_opensBranch 39 = .ok (.iconst 1, 1) := by decide +kernel
theorem dX6_opensBranch_40 : decode cX6_opensBranch 40 = .ok (.iadd, 1) := by decide +kernel
theorem dX6_opensBranch_41 : decode cX6_opensBranch 41 = .ok (.invokevirtual 49, 3) := by decide +kernel
theorem dX6_opensBranch_44 : decode cX6_opensBranch 44 = .ok (.return_, 1) := by decide +kernel
theorem dX6_setCondition_0 : decode cX6_setCondition 0 = .ok (.aload_n 0, 1) := by decide +kernel
theorem dX6_setCondition_1 : decode cX6_setCondition 1 = .ok (.iload_n 1, 1) := by decide +kernel
theorem dX6_setCondition_2 : decode cX6_setCondition 2 = .ok (.invokevirtual 82, 3) := by decide +kernel
theorem dX6_setCondition_5 : decode cX6_setCondition 5 = .ok (.ifCond .eq 36, 3) := by decide +kernel
theorem dX6_setCondition_8 : decode cX6_setCondition 8 = .ok (.iload_n 2, 1) := by decide +kernel
theorem dX6_setCondition_9 : decode cX6_setCondition 9 = .ok (.iconst 0, 1) := by decide +kernel
theorem dX6_setCondition_10 : decode cX6_setCondition 10 = .ok (.aload_n 0, 1) := by decide +kernel
theorem dX6_setCondition_11 : decode cX6_setCondition 11 = .ok (.iload_n 1, 1) := by decide +kernel
theorem dX6_setCondition_12 : decode cX6_setCondition 12 = .ok (.bipush 12, 2) := by decide +kernel
theorem dX6_setCondition_14 : decode cX6_setCondition 14 = .ok (.invokevirtual 37, 3) := by decide +kernel
theorem dX6_setCondition_17 : decode cX6_setCondition 17 = .ok (.invokestatic 33, 3) := by decide +kernel
theorem dX6_setCondition_20 : decode cX6_setCondition 20 = .ok (.ifCond .eq 21, 3) := by decide +kernel
theorem dX6_setCondition_23 : decode cX6_setCondition 23 = .ok (.aload_n 0, 1) := by decide +kernel
theorem dX6_setCondition_24 : decode cX6_setCondition 24 = .ok (.iload_n 3, 1) := by decide +kernel
theorem dX6_setCondition_25 : decode cX6_setCondition 25 = .ok (.invokevirtual 85, 3) := by decide +kernel
theorem dX6_setCondition_28 : decode cX6_setCondition 28 = .ok (.ifCond .eq 13, 3) := by decide +kernel
theorem dX6_setCondition_31 : decode cX6_setCondition 31 = .ok (.iload 4, 2) := by decide +kernel
theorem dX6_setCondition_33 : decode cX6_setCondition 33 = .ok (.iconst 0, 1) := by decide +kernel
theorem dX6_setCondition_34 : decode cX6_setCondition 34 = .ok (.iconst 2, 1) := by decide +kernel
theorem dX6_setCondition_35 : decode cX6_setCondition 35 = .ok (.invokestatic 33, 3) := by decide +kernel
theorem dX6_setCondition_38 : decode cX6_setCondition 38 = .ok (.ifCond .ne 5, 3) := by decide +kernel
theorem dX6_setCondition_41 : decode cX6_setCondition 41 = .ok (.iconst (-1), 1) := by decide +kernel
theorem dX6_setCondition_42 : decode cX6_setCondition 42 = .ok (.ireturn, 1) := by decide +kernel
theorem dX6_setCondition_43 : decode cX6_setCondition 43 = .ok (.iload_n 2, 1) := by decide +kernel
theorem dX6_setCondition_44 : decode cX6_setCondition 44 = .ok (.bipush 6, 2) := by decide +kernel
theorem dX6_setCondition_46 : decode cX6_setCondition 46 = .ok (.if_icmp .ne 6, 3) := by decide +kernel
theorem dX6_setCondition_49 : decode cX6_setCondition 49 = .ok (.bipush (-3), 2) := by decide +kernel
theorem dX6_setCondition_51 : decode cX6_setCondition 51 = .ok (.ireturn, 1) := by decide +kernel
theorem dX6_setCondition_52 : decode cX6_setCondition 52 = .ok (.aload_n 0, 1) := by decide +kernel
theorem dX6_setCondition_53 : decode cX6_setCondition 53 = .ok (.invokevirtual 79, 3) := by decide +kernel
theorem dX6_setCondition_56 : decode cX6_setCondition 56 = .ok (.iload_n 2, 1) := by decide +kernel
theorem dX6_setCondition_57 : decode cX6_setCondition 57 = .ok (.aload_n 0, 1) := by decide +kernel
theorem dX6_setCondition_58 : decode cX6_setCondition 58 = .ok (.iload_n 1, 1) := by decide +kernel
theorem dX6_setCondition_59 : decode cX6_setCondition 59 = .ok (.bipush 12, 2) := by decide +kernel
theorem dX6_setCondition_61 : decode cX6_setCondition 61 = .ok (.invokevirtual 37, 3) := by decide +kernel
theorem dX6_setCondition_64 : decode cX6_setCondition 64 = .ok (.if_icmp .ne 8, 3) := by decide +kernel
theorem dX6_setCondition_67 : decode cX6_setCondition 67 = .ok (.aload_n 0, 1) := by decide +kernel
theorem dX6_setCondition_68 : decode cX6_setCondition 68 = .ok (.iload_n 1, 1) := by decide +kernel
theorem dX6_setCondition_69 : decode cX6_setCondition 69 = .ok (.invokevirtual 88, 3) := by decide +kernel
theorem dX6_setCondition_72 : decode cX6_setCondition 72 = .ok (.aload_n 0, 1) := by decide +kernel
theorem dX6_setCondition_73 : decode cX6_setCondition 73 = .ok (.iload_n 1, 1) := by decide +kernel
theorem dX6_setCondition_74 : decode cX6_setCondition 74 = .ok (.iload_n 2, 1) := by decide +kernel
theorem dX6_setCondition_75 : decode cX6_setCondition 75 = .ok (.iload_n 3, 1) := by decide +kernel
theorem dX6_setCondition_76 : decode cX6_setCondition 76 = .ok (.invokevirtual 91, 3) := by decide +kernel
theorem dX6_setCondition_79 : decode cX6_setCondition 79 = .ok (.istore 5, 2) := by decide +kernel
theorem dX6_setCondition_81 : decode cX6_setCondition 81 = .ok (.aload_n 0, 1) := by decide +kernel
theorem dX6_setCondition_82 : decode cX6_setCondition 82 = .ok (.iload_n 1, 1) := by decide +kernel
theorem dX6_setCondition_83 : decode cX6_setCondition 83 = .ok (.iload_n 2, 1) := by decide +kernel
theorem dX6_setCondition_84 : decode cX6_setCondition 84 = .ok (.iload_n 3, 1) := by decide +kernel
theorem dX6_setCondition_85 : decode cX6_setCondition 85 = .ok (.iload 4, 2) := by decide +kernel
theorem dX6_setCondition_87 : decode cX6_setCondition 87 = .ok (.invokevirtual 95, 3) := by decide +kernel
theorem dX6_setCondition_90 : decode cX6_setCondition 90 = .ok (.aload_n 0, 1) := by decide +kernel
theorem dX6_setCondition_91 : decode cX6_setCondition 91 = .ok (.dup, 1) := by decide +kernel
theorem dX6_setCondition_92 : decode cX6_setCondition 92 = .ok (.getfield 65, 3) := by decide +kernel
theorem dX6_setCondition_95 : decode cX6_setCondition 95 = .ok (.aload_n 0, 1) := by decide +kernel
theorem dX6_setCondition_96 : decode cX6_setCondition 96 = .ok (.invokevirtual 68, 3) := by decide +kernel
theorem dX6_setCondition_99 : decode cX6_setCondition 99 = .ok (.iadd, 1) := by decide +kernel
theorem dX6_setCondition_100 : decode cX6_setCondition 100 = .ok (.putfield 65, 3) := by decide +kernel
theorem dX6_setCondition_103 : decode cX6_setCondition 103 = .ok (.iload 5, 2) := by decide +kernel
theorem dX6_setCondition_105 : decode cX6_setCondition 105 = .ok (.ireturn, 1) := by decide +kernel
theorem dX6_removeBranch_0 : decode cX6_removeBranch 0 = .ok (.aload_n 0, 1) := by decide +kernel
theorem dX6_removeBranch_1 : decode cX6_removeBranch 1 = .ok (.iload_n 1, 1) := by decide +kernel
theorem dX6_removeBranch_2 : decode cX6_removeBranch 2 = .ok (.invokevirtual 82, 3) := by decide +kernel
theorem dX6_removeBranch_5 : decode cX6_removeBranch 5 = .ok (.ifCond .eq 20, 3) := by decide +kernel
theorem dX6_removeBranch_8 : decode cX6_removeBranch 8 = .ok (.iload_n 2, 1) := by decide +kernel
theorem dX6_removeBranch_9 : decode cX6_removeBranch 9 = .ok (.iconst 0, 1) := by decide +kernel
theorem dX6_removeBranch_10 : decode cX6_removeBranch 10 = .ok (.aload_n 0, 1) := by decide +kernel
theorem dX6_removeBranch_11 : decode cX6_removeBranch 11 = .ok (.iload_n 1, 1) := by decide +kernel
theorem dX6_removeBranch_12 : decode cX6_removeBranch 12 = .ok (.bipush 12, 2) := by decide +kernel
theorem dX6_removeBranch_14 : decode cX6_removeBranch 14 = .ok (.invokevirtual 37, 3) := by decide +kernel
theorem dX6_removeBranch_17 : decode cX6_removeBranch 17 = .ok (.iconst 1, 1) := by decide +kernel
theorem dX6_removeBranch_18 : decode cX6_removeBranch 18 = .ok (.isub, 1) := by decide +kernel
theorem dX6_removeBranch_19 : decode cX6_removeBranch 19 = .ok (.invokestatic 33, 3) := by decide +kernel
theorem dX6_removeBranch_22 : decode cX6_removeBranch 22 = .ok (.ifCond .ne 5, 3) := by decide +kernel
theorem dX6_removeBranch_25 : decode cX6_removeBranch 25 = .ok (.iconst (-1), 1) := by decide +kernel
theorem dX6_removeBranch_26 : decode cX6_removeBranch 26 = .ok (.ireturn, 1) := by decide +kernel
theorem dX6_removeBranch_27 : decode cX6_removeBranch 27 = .ok (.aload_n 0, 1) := by decide +kernel
theorem dX6_removeBranch_28 : decode cX6_removeBranch 28 = .ok (.invokevirtual 79, 3) := by decide +kernel
theorem dX6_removeBranch_31 : decode cX6_removeBranch 31 = .ok (.aload_n 0, 1) := by decide +kernel
theorem dX6_removeBranch_32 : decode cX6_removeBranch 32 = .ok (.iload_n 1, 1) := by decide +kernel
theorem dX6_removeBranch_33 : decode cX6_removeBranch 33 = .ok (.bipush 12, 2) := by decide +kernel
theorem dX6_removeBranch_35 : decode cX6_removeBranch 35 = .ok (.aload_n 0, 1) := by decide +kernel
theorem dX6_removeBranch_36 : decode cX6_removeBranch 36 = .ok (.iload_n 1, 1) := by decide +kernel
theorem dX6_removeBranch_37 : decode cX6_removeBranch 37 = .ok (.bipush 12, 2) := by decide +kernel
theorem dX6_removeBranch_39 : decode cX6_removeBranch 39 = .ok (.invokevirtual 37, 3) := by decide +kernel
theorem dX6_removeBranch_42 : decode cX6_removeBranch 42 = .ok (.iconst 1, 1) := by decide +kernel
theorem dX6_removeBranch_43 : decode cX6_removeBranch 43 = .ok (.isub, 1) := by decide +kernel
theorem dX6_removeBranch_44 : decode cX6_removeBranch 44 = .ok (.invokevirtual 49, 3) := by decide +kernel
theorem dX6_removeBranch_47 : decode cX6_removeBranch 47 = .ok (.bipush 13, 2) := by decide +kernel
theorem dX6_removeBranch_49 : decode cX6_removeBranch 49 = .ok (.iconst 2, 1) := by decide +kernel
theorem dX6_removeBranch_50 : decode cX6_removeBranch 50 = .ok (.iload_n 2, 1) := by decide +kernel
theorem dX6_removeBranch_51 : decode cX6_removeBranch 51 = .ok (.imul, 1) := by decide +kernel
theorem dX6_removeBranch_52 : decode cX6_removeBranch 52 = .ok (.iadd, 1) := by decide +kernel
theorem dX6_removeBranch_53 : decode cX6_removeBranch 53 = .ok (.istore_n 3, 1) := by decide +kernel
theorem dX6_removeBranch_54 : decode cX6_removeBranch 54 = .ok (.iload_n 3, 1) := by decide +kernel
theorem dX6_removeBranch_55 : decode cX6_removeBranch 55 = .ok (.bipush 13, 2) := by decide +kernel
theorem dX6_removeBranch_57 : decode cX6_removeBranch 57 = .ok (.iconst 2, 1) := by decide +kernel
theorem dX6_removeBranch_58 : decode cX6_removeBranch 58 = .ok (.aload_n 0, 1) := by decide +kernel
theorem dX6_removeBranch_59 : decode cX6_removeBranch 59 = .ok (.iload_n 1, 1) := by decide +kernel
theorem dX6_removeBranch_60 : decode cX6_removeBranch 60 = .ok (.bipush 12, 2) := by decide +kernel
theorem dX6_removeBranch_62 : decode cX6_removeBranch 62 = .ok (.invokevirtual 37, 3) := by decide +kernel
theorem dX6_removeBranch_65 : decode cX6_removeBranch 65 = .ok (.imul, 1) := by decide +kernel
theorem dX6_removeBranch_66 : decode cX6_removeBranch 66 = .ok (.iadd, 1) := by decide +kernel
theorem dX6_removeBranch_67 : decode cX6_removeBranch 67 = .ok (.if_icmp .ge 23, 3) := by decide +kernel
theorem dX6_removeBranch_70 : decode cX6_removeBranch 70 = .ok (.aload_n 0, 1) := by decide +kernel
theorem dX6_removeBranch_71 : decode cX6_removeBranch 71 = .ok (.iload_n 1, 1) := by decide +kernel
theorem dX6_removeBranch_72 : decode cX6_removeBranch 72 = .ok (.iload_n 3, 1) := by decide +kernel
theorem dX6_removeBranch_73 : decode cX6_removeBranch 73 = .ok (.aload_n 0, 1) := by decide +kernel
theorem dX6_removeBranch_74 : decode cX6_removeBranch 74 = .ok (.iload_n 1, 1) := by decide +kernel
theorem dX6_removeBranch_75 : decode cX6_removeBranch 75 = .ok (.iload_n 3, 1) := by decide +kernel
theorem dX6_removeBranch_76 : decode cX6_removeBranch 76 = .ok (.iconst 2, 1) := by decide +kernel
theorem dX6_removeBranch_77 : decode cX6_removeBranch 77 = .ok (.iadd, 1) := by decide +kernel
theorem dX6_removeBranch_78 : decode cX6_removeBranch 78 = .ok (.invokevirtual 37, 3) := by decide +kernel
theorem dX6_removeBranch_81 : decode cX6_removeBranch 81 = .ok (.invokevirtual 49, 3) := by decide +kernel
theorem dX6_removeBranch_84 : decode cX6_removeBranch 84 = .ok (.iinc 3 1, 3) := by decide +kernel
theorem dX6_removeBranch_87 : decode cX6_removeBranch 87 = .ok (.goto (-33), 3) := by decide +kernel
theorem dX6_removeBranch_90 : decode cX6_removeBranch 90 = .ok (.aload_n 0, 1) := by decide +kernel
theorem dX6_removeBranch_91 : decode cX6_removeBranch 91 = .ok (.dup, 1) := by decide +kernel
theorem dX6_removeBranch_92 : decode cX6_removeBranch 92 = .ok (.getfield 65, 3) := by decide +kernel
theorem dX6_removeBranch_95 : decode cX6_removeBranch 95 = .ok (.aload_n 0, 1) := by decide +kernel
theorem dX6_removeBranch_96 : decode cX6_removeBranch 96 = .ok (.invokevirtual 68, 3) := by decide +kernel
theorem dX6_removeBranch_99 : decode cX6_removeBranch 99 = .ok (.iadd, 1) := by decide +kernel
theorem dX6_removeBranch_100 : decode cX6_removeBranch 100 = .ok (.putfield 65, 3) := by decide +kernel
theorem dX6_removeBranch_103 : decode cX6_removeBranch 103 = .ok (.aload_n 0, 1) := by decide +kernel
theorem dX6_removeBranch_104 : decode cX6_removeBranch 104 = .ok (.iload_n 1, 1) := by decide +kernel
theorem dX6_removeBranch_105 : decode cX6_removeBranch 105 = .ok (.bipush 12, 2) := by decide +kernel
theorem dX6_removeBranch_107 : decode cX6_removeBranch 107 = .ok (.invokevirtual 37, 3) := by decide +kernel
theorem dX6_removeBranch_110 : decode cX6_removeBranch 110 = .ok (.ireturn, 1) := by decide +kernel
theorem dX6_appendCharacter_0 : decode cX6_appendCharacter 0 = .ok (.iload_n 1, 1) := by decide +kernel
theorem dX6_appendCharacter_1 : decode cX6_appendCharacter 1 = .ok (.iconst 0, 1) := by decide +kernel
theorem dX6_appendCharacter_2 : decode cX6_appendCharacter 2 = .ok (.sipush 255, 3) := by decide +kernel
theorem dX6_appendCharacter_5 : decode cX6_appendCharacter 5 = .ok (.invokestatic 33, 3) := by decide +kernel
theorem dX6_appendCharacter_8 : decode cX6_appendCharacter 8 = .ok (.ifCond .ne 5, 3) := by decide +kernel
theorem dX6_appendCharacter_11 : decode cX6_appendCharacter 11 = .ok (.iconst (-1), 1) := by decide +kernel
theorem dX6_appendCharacter_12 : decode cX6_appendCharacter 12 = .ok (.ireturn, 1) := by decide +kernel
theorem dX6_appendCharacter_13 : decode cX6_appendCharacter 13 = .ok (.aload_n 0, 1) := by decide +kernel
theorem dX6_appendCharacter_14 : decode cX6_appendCharacter 14 = .ok (.getfield 26, 3) := by decide +kernel
theorem dX6_appendCharacter_17 : decode cX6_appendCharacter 17 = .ok (.bipush 60, 2) := by decide +kernel
theorem dX6_appendCharacter_19 : decode cX6_appendCharacter 19 = .ok (.if_icmp .ne 6, 3) := by decide +kernel
theorem dX6_appendCharacter_22 : decode cX6_appendCharacter 22 = .ok (.bipush (-3), 2) := by decide +kernel
theorem dX6_appendCharacter_24 : decode cX6_appendCharacter 24 = .ok (.ireturn, 1) := by decide +kernel
theorem dX6_appendCharacter_25 : decode cX6_appendCharacter 25 = .ok (.aload_n 0, 1) := by decide +kernel
theorem dX6_appendCharacter_26 : decode cX6_appendCharacter 26 = .ok (.getfield 22, 3) := by decide +kernel
theorem dX6_appendCharacter_29 : decode cX6_appendCharacter 29 = .ok (.aload_n 0, 1) := by decide +kernel
theorem dX6_appendCharacter_30 : decode cX6_appendCharacter 30 = .ok (.getfield 26, 3) := by decide +kernel
theorem dX6_appendCharacter_33 : decode cX6_appendCharacter 33 = .ok (.iload_n 1, 1) := by decide +kernel
theorem dX6_appendCharacter_34 : decode cX6_appendCharacter 34 = .ok (.i2b, 1) := by decide +kernel
theorem dX6_appendCharacter_35 : decode cX6_appendCharacter 35 = .ok (.bastore, 1) := by decide +kernel
theorem dX6_appendCharacter_36 : decode cX6_appendCharacter 36 = .ok (.aload_n 0, 1) := by decide +kernel
theorem dX6_appendCharacter_37 : decode cX6_appendCharacter 37 = .ok (.dup, 1) := by decide +kernel
theorem dX6_appendCharacter_38 : decode cX6_appendCharacter 38 = .ok (.getfield 26, 3) := by decide +kernel
theorem dX6_appendCharacter_41 : decode cX6_appendCharacter 41 = .ok (.iconst 1, 1) := by decide +kernel
theorem dX6_appendCharacter_42 : decode cX6_appendCharacter 42 = .ok (.iadd, 1) := by decide +kernel
theorem dX6_appendCharacter_43 : decode cX6_appendCharacter 43 = .ok (.putfield 26, 3) := by decide +kernel
theorem dX6_appendCharacter_46 : decode cX6_appendCharacter 46 = .ok (.aload_n 0, 1) := by decide +kernel
theorem dX6_appendCharacter_47 : decode cX6_appendCharacter 47 = .ok (.getfield 26, 3) := by decide +kernel
theorem dX6_appendCharacter_50 : decode cX6_appendCharacter 50 = .ok (.ireturn, 1) := by decide +kernel
theorem dX6_clearText_0 : decode cX6_clearText 0 = .ok (.aload_n 0, 1) := by decide +kernel
theorem dX6_clearText_1 : decode cX6_clearText 1 = .ok (.getfield 26, 3) := by decide +kernel
theorem dX6_clearText_4 : decode cX6_clearText 4 = .ok (.istore_n 1, 1) := by decide +kernel
theorem dX6_clearText_5 : decode cX6_clearText 5 = .ok (.aload_n 0, 1) := by decide +kernel
theorem dX6_clearText_6 : decode cX6_clearText 6 = .ok (.iconst 0, 1) := by decide +kernel
theorem dX6_clearText_7 : decode cX6_clearText 7 = .ok (.putfield 26, 3) := by decide +kernel
theorem dX6_clearText_10 : decode cX6_clearText 10 = .ok (.iload_n 1, 1) := by decide +kernel
theorem dX6_clearText_11 : decode cX6_clearText 11 = .ok (.ireturn, 1) := by decide +kernel
theorem dX6_here_0 : decode cX6_here 0 = .ok (.aload_n 0, 1) := by decide +kernel
theorem dX6_here_1 : decode cX6_here 1 = .ok (.getfield 99, 3) := by decide +kernel
theorem dX6_here_4 : decode cX6_here 4 = .ok (.aload_n 0, 1) := by decide +kernel
theorem dX6_here_5 : decode cX6_here 5 = .ok (.getfield 26, 3) := by decide +kernel
theorem dX6_here_8 : decode cX6_here 8 = .ok (.if_icmp .ge 30, 3) := by decide +kernel
theorem dX6_here_11 : decode cX6_here 11 = .ok (.aload_n 0, 1) := by decide +kernel
theorem dX6_here_12 : decode cX6_here 12 = .ok (.getfield 22, 3) := by decide +kernel
theorem dX6_here_15 : decode cX6_here 15 = .ok (.aload_n 0, 1) := by decide +kernel
theorem dX6_here_16 : decode cX6_here 16 = .ok (.getfield 99, 3) := by decide +kernel
theorem dX6_here_19 : decode cX6_here 19 = .ok (.baload, 1) := by decide +kernel
theorem dX6_here_20 : decode cX6_here 20 = .ok (.bipush 32, 2) := by decide +kernel
theorem dX6_here_22 : decode cX6_here 22 = .ok (.if_icmp .ne 16, 3) := by decide +kernel
theorem dX6_here_25 : decode cX6_here 25 = .ok (.aload_n 0, 1) := by decide +kernel
theorem dX6_here_26 : decode cX6_here 26 = .ok (.dup, 1) := by decide +kernel
theorem dX6_here_27 : decode cX6_here 27 = .ok (.getfield 99, 3) := by decide +kernel
theorem dX6_here_30 : decode cX6_here 30 = .ok (.iconst 1, 1) := by decide +kernel
theorem dX6_here_31 : decode cX6_here 31 = .ok (.iadd, 1) := by decide +kernel
theorem dX6_here_32 : decode cX6_here 32 = .ok (.putfield 99, 3) := by decide +kernel
theorem dX6_here_35 : decode cX6_here 35 = .ok (.goto (-35), 3) := by decide +kernel
theorem dX6_here_38 : decode cX6_here 38 = .ok (.aload_n 0, 1) := by decide +kernel
theorem dX6_here_39 : decode cX6_here 39 = .ok (.getfield 99, 3) := by decide +kernel
theorem dX6_here_42 : decode cX6_here 42 = .ok (.aload_n 0, 1) := by decide +kernel
theorem dX6_here_43 : decode cX6_here 43 = .ok (.getfield 26, 3) := by decide +kernel
theorem dX6_here_46 : decode cX6_here 46 = .ok (.if_icmp .ge 19, 3) := by decide +kernel
theorem dX6_here_49 : decode cX6_here 49 = .ok (.aload_n 0, 1) := by decide +kernel
theorem dX6_here_50 : decode cX6_here 50 = .ok (.getfield 22, 3) := by decide +kernel
theorem dX6_here_53 : decode cX6_here 53 = .ok (.aload_n 0, 1) := by decide +kernel
theorem dX6_here_54 : decode cX6_here 54 = .ok (.getfield 99, 3) := by decide +kernel
theorem dX6_here_57 : decode cX6_here 57 = .ok (.baload, 1) := by decide +kernel
end
section
theorem dX6_here_58 : decode cX6_here 58 = .ok (.sipush 255, 3) := by decide +kernel
theorem dX6_here_61 : decode cX6_here 61 = .ok (.iand, 1) := by decide +kernel
theorem dX6_here_62 : decode cX6_here 62 = .ok (.goto 4, 3) := by decide +kernel
theorem dX6_here_65 : decode cX6_here 65 = .ok (.iconst (-1), 1) := by decide +kernel
theorem dX6_here_66 : decode cX6_here 66 = .ok (.ireturn, 1) := by decide +kernel
theorem dX6_subject_0 : decode cX6_subject 0 = .ok (.iload_n 1, 1) := by decide +kernel
theorem dX6_subject_1 : decode cX6_subject 1 = .ok (.bipush 97, 2) := by decide +kernel
theorem dX6_subject_3 : decode cX6_subject 3 = .ok (.bipush 104, 2) := by decide +kernel
theorem dX6_subject_5 : decode cX6_subject 5 = .ok (.invokestatic 33, 3) := by decide +kernel
theorem dX6_subject_8 : decode cX6_subject 8 = .ok (.ifCond .eq 10, 3) := by decide +kernel
theorem dX6_subject_11 : decode cX6_subject 11 = .ok (.iload_n 1, 1) := by decide +kernel
theorem dX6_subject_12 : decode cX6_subject 12 = .ok (.bipush 97, 2) := by decide +kernel
theorem dX6_subject_14 : decode cX6_subject 14 = .ok (.isub, 1) := by decide +kernel
theorem dX6_subject_15 : decode cX6_subject 15 = .ok (.goto 39, 3) := by decide +kernel
theorem dX6_subject_18 : decode cX6_subject 18 = .ok (.iload_n 1, 1) := by decide +kernel
theorem dX6_subject_19 : decode cX6_subject 19 = .ok (.bipush 65, 2) := by decide +kernel
theorem dX6_subject_21 : decode cX6_subject 21 = .ok (.bipush 72, 2) := by decide +kernel
theorem dX6_subject_23 : decode cX6_subject 23 = .ok (.invokestatic 33, 3) := by decide +kernel
theorem dX6_subject_26 : decode cX6_subject 26 = .ok (.ifCond .eq 26, 3) := by decide +kernel
theorem dX6_subject_29 : decode cX6_subject 29 = .ok (.iload_n 1, 1) := by decide +kernel
theorem dX6_subject_30 : decode cX6_subject 30 = .ok (.bipush 65, 2) := by decide +kernel
theorem dX6_subject_32 : decode cX6_subject 32 = .ok (.isub, 1) := by decide +kernel
theorem dX6_subject_33 : decode cX6_subject 33 = .ok (.aload_n 0, 1) := by decide +kernel
theorem dX6_subject_34 : decode cX6_subject 34 = .ok (.getfield 7, 3) := by decide +kernel
theorem dX6_subject_37 : decode cX6_subject 37 = .ok (.iconst 1, 1) := by decide +kernel
theorem dX6_subject_38 : decode cX6_subject 38 = .ok (.iaload, 1) := by decide +kernel
theorem dX6_subject_39 : decode cX6_subject 39 = .ok (.if_icmp .ge 13, 3) := by decide +kernel
theorem dX6_subject_42 : decode cX6_subject 42 = .ok (.iload_n 1, 1) := by decide +kernel
theorem dX6_subject_43 : decode cX6_subject 43 = .ok (.bipush 65, 2) := by decide +kernel
theorem dX6_subject_45 : decode cX6_subject 45 = .ok (.isub, 1) := by decide +kernel
theorem dX6_subject_46 : decode cX6_subject 46 = .ok (.bipush 8, 2) := by decide +kernel
theorem dX6_subject_48 : decode cX6_subject 48 = .ok (.iadd, 1) := by decide +kernel
theorem dX6_subject_49 : decode cX6_subject 49 = .ok (.goto 5, 3) := by decide +kernel
theorem dX6_subject_52 : decode cX6_subject 52 = .ok (.bipush (-9), 2) := by decide +kernel
theorem dX6_subject_54 : decode cX6_subject 54 = .ok (.ireturn, 1) := by decide +kernel
theorem dX6_readsCondition_0 : decode cX6_readsCondition 0 = .ok (.aload_n 0, 1) := by decide +kernel
theorem dX6_readsCondition_1 : decode cX6_readsCondition 1 = .ok (.invokevirtual 102, 3) := by decide +kernel
theorem dX6_readsCondition_4 : decode cX6_readsCondition 4 = .ok (.bipush 47, 2) := by decide +kernel
theorem dX6_readsCondition_6 : decode cX6_readsCondition 6 = .ok (.if_icmp .ne 7, 3) := by decide +kernel
theorem dX6_readsCondition_9 : decode cX6_readsCondition 9 = .ok (.iconst 2, 1) := by decide +kernel
theorem dX6_readsCondition_10 : decode cX6_readsCondition 10 = .ok (.goto 4, 3) := by decide +kernel
theorem dX6_readsCondition_13 : decode cX6_readsCondition 13 = .ok (.iconst 1, 1) := by decide +kernel
theorem dX6_readsCondition_14 : decode cX6_readsCondition 14 = .ok (.istore_n 3, 1) := by decide +kernel
theorem dX6_readsCondition_15 : decode cX6_readsCondition 15 = .ok (.aload_n 0, 1) := by decide +kernel
theorem dX6_readsCondition_16 : decode cX6_readsCondition 16 = .ok (.dup, 1) := by decide +kernel
theorem dX6_readsCondition_17 : decode cX6_readsCondition 17 = .ok (.getfield 99, 3) := by decide +kernel
theorem dX6_readsCondition_20 : decode cX6_readsCondition 20 = .ok (.iload_n 3, 1) := by decide +kernel
theorem dX6_readsCondition_21 : decode cX6_readsCondition 21 = .ok (.iconst 1, 1) := by decide +kernel
theorem dX6_readsCondition_22 : decode cX6_readsCondition 22 = .ok (.isub, 1) := by decide +kernel
theorem dX6_readsCondition_23 : decode cX6_readsCondition 23 = .ok (.iadd, 1) := by decide +kernel
theorem dX6_readsCondition_24 : decode cX6_readsCondition 24 = .ok (.putfield 99, 3) := by decide +kernel
theorem dX6_readsCondition_27 : decode cX6_readsCondition 27 = .ok (.aload_n 0, 1) := by decide +kernel
theorem dX6_readsCondition_28 : decode cX6_readsCondition 28 = .ok (.aload_n 0, 1) := by decide +kernel
theorem dX6_readsCondition_29 : decode cX6_readsCondition 29 = .ok (.invokevirtual 102, 3) := by decide +kernel
theorem dX6_readsCondition_32 : decode cX6_readsCondition 32 = .ok (.invokevirtual 105, 3) := by decide +kernel
theorem dX6_readsCondition_35 : decode cX6_readsCondition 35 = .ok (.istore 4, 2) := by decide +kernel
theorem dX6_readsCondition_37 : decode cX6_readsCondition 37 = .ok (.iload 4, 2) := by decide +kernel
theorem dX6_readsCondition_39 : decode cX6_readsCondition 39 = .ok (.bipush (-9), 2) := by decide +kernel
theorem dX6_readsCondition_41 : decode cX6_readsCondition 41 = .ok (.if_icmp .eq 17, 3) := by decide +kernel
theorem dX6_readsCondition_44 : decode cX6_readsCondition 44 = .ok (.aload_n 0, 1) := by decide +kernel
theorem dX6_readsCondition_45 : decode cX6_readsCondition 45 = .ok (.iload_n 1, 1) := by decide +kernel
theorem dX6_readsCondition_46 : decode cX6_readsCondition 46 = .ok (.iload_n 2, 1) := by decide +kernel
theorem dX6_readsCondition_47 : decode cX6_readsCondition 47 = .ok (.iload 4, 2) := by decide +kernel
theorem dX6_readsCondition_49 : decode cX6_readsCondition 49 = .ok (.invokevirtual 91, 3) := by decide +kernel
theorem dX6_readsCondition_52 : decode cX6_readsCondition 52 = .ok (.iconst 3, 1) := by decide +kernel
theorem dX6_readsCondition_53 : decode cX6_readsCondition 53 = .ok (.iload_n 3, 1) := by decide +kernel
theorem dX6_readsCondition_54 : decode cX6_readsCondition 54 = .ok (.isub, 1) := by decide +kernel
theorem dX6_readsCondition_55 : decode cX6_readsCondition 55 = .ok (.if_icmp .ne 5, 3) := by decide +kernel
theorem dX6_readsCondition_58 : decode cX6_readsCondition 58 = .ok (.iconst 0, 1) := by decide +kernel
theorem dX6_readsCondition_59 : decode cX6_readsCondition 59 = .ok (.ireturn, 1) := by decide +kernel
theorem dX6_readsCondition_60 : decode cX6_readsCondition 60 = .ok (.aload_n 0, 1) := by decide +kernel
theorem dX6_readsCondition_61 : decode cX6_readsCondition 61 = .ok (.iload_n 1, 1) := by decide +kernel
theorem dX6_readsCondition_62 : decode cX6_readsCondition 62 = .ok (.iload_n 2, 1) := by decide +kernel
theorem dX6_readsCondition_63 : decode cX6_readsCondition 63 = .ok (.iload 4, 2) := by decide +kernel
theorem dX6_readsCondition_65 : decode cX6_readsCondition 65 = .ok (.iload_n 3, 1) := by decide +kernel
theorem dX6_readsCondition_66 : decode cX6_readsCondition 66 = .ok (.invokevirtual 95, 3) := by decide +kernel
theorem dX6_readsCondition_69 : decode cX6_readsCondition 69 = .ok (.aload_n 0, 1) := by decide +kernel
theorem dX6_readsCondition_70 : decode cX6_readsCondition 70 = .ok (.dup, 1) := by decide +kernel
theorem dX6_readsCondition_71 : decode cX6_readsCondition 71 = .ok (.getfield 99, 3) := by decide +kernel
theorem dX6_readsCondition_74 : decode cX6_readsCondition 74 = .ok (.iconst 1, 1) := by decide +kernel
theorem dX6_readsCondition_75 : decode cX6_readsCondition 75 = .ok (.iadd, 1) := by decide +kernel
theorem dX6_readsCondition_76 : decode cX6_readsCondition 76 = .ok (.putfield 99, 3) := by decide +kernel
theorem dX6_readsCondition_79 : decode cX6_readsCondition 79 = .ok (.iconst 1, 1) := by decide +kernel
theorem dX6_readsCondition_80 : decode cX6_readsCondition 80 = .ok (.ireturn, 1) := by decide +kernel
theorem dX6_isEnd_0 : decode cX6_isEnd 0 = .ok (.aload_n 0, 1) := by decide +kernel
theorem dX6_isEnd_1 : decode cX6_isEnd 1 = .ok (.invokevirtual 102, 3) := by decide +kernel
theorem dX6_isEnd_4 : decode cX6_isEnd 4 = .ok (.ifCond .lt 12, 3) := by decide +kernel
theorem dX6_isEnd_7 : decode cX6_isEnd 7 = .ok (.aload_n 0, 1) := by decide +kernel
theorem dX6_isEnd_8 : decode cX6_isEnd 8 = .ok (.invokevirtual 102, 3) := by decide +kernel
theorem dX6_isEnd_11 : decode cX6_isEnd 11 = .ok (.bipush 43, 2) := by decide +kernel
theorem dX6_isEnd_13 : decode cX6_isEnd 13 = .ok (.if_icmp .ne 7, 3) := by decide +kernel
theorem dX6_isEnd_16 : decode cX6_isEnd 16 = .ok (.iconst 1, 1) := by decide +kernel
theorem dX6_isEnd_17 : decode cX6_isEnd 17 = .ok (.goto 4, 3) := by decide +kernel
theorem dX6_isEnd_20 : decode cX6_isEnd 20 = .ok (.iconst 0, 1) := by decide +kernel
theorem dX6_isEnd_21 : decode cX6_isEnd 21 = .ok (.ireturn, 1) := by decide +kernel
theorem dX6_readsBranch_0 : decode cX6_readsBranch 0 = .ok (.aload_n 0, 1) := by decide +kernel
theorem dX6_readsBranch_1 : decode cX6_readsBranch 1 = .ok (.invokevirtual 102, 3) := by decide +kernel
theorem dX6_readsBranch_4 : decode cX6_readsBranch 4 = .ok (.istore_n 2, 1) := by decide +kernel
theorem dX6_readsBranch_5 : decode cX6_readsBranch 5 = .ok (.aload_n 0, 1) := by decide +kernel
theorem dX6_readsBranch_6 : decode cX6_readsBranch 6 = .ok (.iload_n 1, 1) := by decide +kernel
theorem dX6_readsBranch_7 : decode cX6_readsBranch 7 = .ok (.bipush 12, 2) := by decide +kernel
theorem dX6_readsBranch_9 : decode cX6_readsBranch 9 = .ok (.invokevirtual 37, 3) := by decide +kernel
theorem dX6_readsBranch_12 : decode cX6_readsBranch 12 = .ok (.bipush 6, 2) := by decide +kernel
theorem dX6_readsBranch_14 : decode cX6_readsBranch 14 = .ok (.if_icmp .ne 5, 3) := by decide +kernel
theorem dX6_readsBranch_17 : decode cX6_readsBranch 17 = .ok (.iconst 0, 1) := by decide +kernel
theorem dX6_readsBranch_18 : decode cX6_readsBranch 18 = .ok (.ireturn, 1) := by decide +kernel
theorem dX6_readsBranch_19 : decode cX6_readsBranch 19 = .ok (.aload_n 0, 1) := by decide +kernel
theorem dX6_readsBranch_20 : decode cX6_readsBranch 20 = .ok (.iload_n 1, 1) := by decide +kernel
theorem dX6_readsBranch_21 : decode cX6_readsBranch 21 = .ok (.bipush 12, 2) := by decide +kernel
theorem dX6_readsBranch_23 : decode cX6_readsBranch 23 = .ok (.invokevirtual 37, 3) := by decide +kernel
theorem dX6_readsBranch_26 : decode cX6_readsBranch 26 = .ok (.istore_n 3, 1) := by decide +kernel
theorem dX6_readsBranch_27 : decode cX6_readsBranch 27 = .ok (.aload_n 0, 1) := by decide +kernel
theorem dX6_readsBranch_28 : decode cX6_readsBranch 28 = .ok (.iload_n 1, 1) := by decide +kernel
theorem dX6_readsBranch_29 : decode cX6_readsBranch 29 = .ok (.invokevirtual 88, 3) := by decide +kernel
theorem dX6_readsBranch_32 : decode cX6_readsBranch 32 = .ok (.iload_n 2, 1) := by decide +kernel
theorem dX6_readsBranch_33 : decode cX6_readsBranch 33 = .ok (.bipush 49, 2) := by decide +kernel
theorem dX6_readsBranch_35 : decode cX6_readsBranch 35 = .ok (.if_icmp .ne 18, 3) := by decide +kernel
theorem dX6_readsBranch_38 : decode cX6_readsBranch 38 = .ok (.aload_n 0, 1) := by decide +kernel
theorem dX6_readsBranch_39 : decode cX6_readsBranch 39 = .ok (.dup, 1) := by decide +kernel
theorem dX6_readsBranch_40 : decode cX6_readsBranch 40 = .ok (.getfield 99, 3) := by decide +kernel
theorem dX6_readsBranch_43 : decode cX6_readsBranch 43 = .ok (.iconst 1, 1) := by decide +kernel
theorem dX6_readsBranch_44 : decode cX6_readsBranch 44 = .ok (.iadd, 1) := by decide +kernel
theorem dX6_readsBranch_45 : decode cX6_readsBranch 45 = .ok (.putfield 99, 3) := by decide +kernel
theorem dX6_readsBranch_48 : decode cX6_readsBranch 48 = .ok (.aload_n 0, 1) := by decide +kernel
theorem dX6_readsBranch_49 : decode cX6_readsBranch 49 = .ok (.invokevirtual 108, 3) := by decide +kernel
theorem dX6_readsBranch_52 : decode cX6_readsBranch 52 = .ok (.ireturn, 1) := by decide +kernel
theorem dX6_readsBranch_53 : decode cX6_readsBranch 53 = .ok (.aload_n 0, 1) := by decide +kernel
theorem dX6_readsBranch_54 : decode cX6_readsBranch 54 = .ok (.iload_n 1, 1) := by decide +kernel
theorem dX6_readsBranch_55 : decode cX6_readsBranch 55 = .ok (.iload_n 3, 1) := by decide +kernel
theorem dX6_readsBranch_56 : decode cX6_readsBranch 56 = .ok (.invokevirtual 112, 3) := by decide +kernel
theorem dX6_readsBranch_59 : decode cX6_readsBranch 59 = .ok (.istore 4, 2) := by decide +kernel
theorem dX6_readsBranch_61 : decode cX6_readsBranch 61 = .ok (.iload 4, 2) := by decide +kernel
theorem dX6_readsBranch_63 : decode cX6_readsBranch 63 = .ok (.ifCond .eq 21, 3) := by decide +kernel
theorem dX6_readsBranch_66 : decode cX6_readsBranch 66 = .ok (.aload_n 0, 1) := by decide +kernel
theorem dX6_readsBranch_67 : decode cX6_readsBranch 67 = .ok (.invokevirtual 108, 3) := by decide +kernel
theorem dX6_readsBranch_70 : decode cX6_readsBranch 70 = .ok (.ifCond .ne 14, 3) := by decide +kernel
theorem dX6_readsBranch_73 : decode cX6_readsBranch 73 = .ok (.aload_n 0, 1) := by decide +kernel
theorem dX6_readsBranch_74 : decode cX6_readsBranch 74 = .ok (.iload_n 1, 1) := by decide +kernel
theorem dX6_readsBranch_75 : decode cX6_readsBranch 75 = .ok (.iload_n 3, 1) := by decide +kernel
theorem dX6_readsBranch_76 : decode cX6_readsBranch 76 = .ok (.invokevirtual 112, 3) := by decide +kernel
theorem dX6_readsBranch_79 : decode cX6_readsBranch 79 = .ok (.istore 4, 2) := by decide +kernel
theorem dX6_readsBranch_81 : decode cX6_readsBranch 81 = .ok (.goto (-20), 3) := by decide +kernel
theorem dX6_readsBranch_84 : decode cX6_readsBranch 84 = .ok (.iload 4, 2) := by decide +kernel
theorem dX6_readsBranch_86 : decode cX6_readsBranch 86 = .ok (.ireturn, 1) := by decide +kernel
theorem dX6_reads_0 : decode cX6_reads 0 = .ok (.aload_n 0, 1) := by decide +kernel
theorem dX6_reads_1 : decode cX6_reads 1 = .ok (.iconst 0, 1) := by decide +kernel
theorem dX6_reads_2 : decode cX6_reads 2 = .ok (.putfield 99, 3) := by decide +kernel
theorem dX6_reads_5 : decode cX6_reads 5 = .ok (.aload_n 0, 1) := by decide +kernel
theorem dX6_reads_6 : decode cX6_reads 6 = .ok (.iload_n 1, 1) := by decide +kernel
theorem dX6_reads_7 : decode cX6_reads 7 = .ok (.bipush 12, 2) := by decide +kernel
theorem dX6_reads_9 : decode cX6_reads 9 = .ok (.iconst 0, 1) := by decide +kernel
theorem dX6_reads_10 : decode cX6_reads 10 = .ok (.invokevirtual 49, 3) := by decide +kernel
theorem dX6_reads_13 : decode cX6_reads 13 = .ok (.aload_n 0, 1) := by decide +kernel
theorem dX6_reads_14 : decode cX6_reads 14 = .ok (.invokevirtual 102, 3) := by decide +kernel
theorem dX6_reads_17 : decode cX6_reads 17 = .ok (.bipush 48, 2) := by decide +kernel
theorem dX6_reads_19 : decode cX6_reads 19 = .ok (.if_icmp .ne 26, 3) := by decide +kernel
theorem dX6_reads_22 : decode cX6_reads 22 = .ok (.aload_n 0, 1) := by decide +kernel
theorem dX6_reads_23 : decode cX6_reads 23 = .ok (.dup, 1) := by decide +kernel
theorem dX6_reads_24 : decode cX6_reads 24 = .ok (.getfield 99, 3) := by decide +kernel
theorem dX6_reads_27 : decode cX6_reads 27 = .ok (.iconst 1, 1) := by decide +kernel
theorem dX6_reads_28 : decode cX6_reads 28 = .ok (.iadd, 1) := by decide +kernel
theorem dX6_reads_29 : decode cX6_reads 29 = .ok (.putfield 99, 3) := by decide +kernel
theorem dX6_reads_32 : decode cX6_reads 32 = .ok (.aload_n 0, 1) := by decide +kernel
theorem dX6_reads_33 : decode cX6_reads 33 = .ok (.invokevirtual 102, 3) := by decide +kernel
theorem dX6_reads_36 : decode cX6_reads 36 = .ok (.ifCond .ge 7, 3) := by decide +kernel
theorem dX6_reads_39 : decode cX6_reads 39 = .ok (.iconst 1, 1) := by decide +kernel
theorem dX6_reads_40 : decode cX6_reads 40 = .ok (.goto 4, 3) := by decide +kernel
theorem dX6_reads_43 : decode cX6_reads 43 = .ok (.iconst 0, 1) := by decide +kernel
theorem dX6_reads_44 : decode cX6_reads 44 = .ok (.ireturn, 1) := by decide +kernel
theorem dX6_reads_45 : decode cX6_reads 45 = .ok (.aload_n 0, 1) := by decide +kernel
theorem dX6_reads_46 : decode cX6_reads 46 = .ok (.iload_n 1, 1) := by decide +kernel
theorem dX6_reads_47 : decode cX6_reads 47 = .ok (.invokevirtual 115, 3) := by decide +kernel
theorem dX6_reads_50 : decode cX6_reads 50 = .ok (.istore_n 2, 1) := by decide +kernel
theorem dX6_reads_51 : decode cX6_reads 51 = .ok (.iload_n 2, 1) := by decide +kernel
theorem dX6_reads_52 : decode cX6_reads 52 = .ok (.ifCond .eq 31, 3) := by decide +kernel
theorem dX6_reads_55 : decode cX6_reads 55 = .ok (.aload_n 0, 1) := by decide +kernel
theorem dX6_reads_56 : decode cX6_reads 56 = .ok (.invokevirtual 102, 3) := by decide +kernel
theorem dX6_reads_59 : decode cX6_reads 59 = .ok (.bipush 43, 2) := by decide +kernel
theorem dX6_reads_61 : decode cX6_reads 61 = .ok (.if_icmp .ne 22, 3) := by decide +kernel
theorem dX6_reads_64 : decode cX6_reads 64 = .ok (.aload_n 0, 1) := by decide +kernel
theorem dX6_reads_65 : decode cX6_reads 65 = .ok (.dup, 1) := by decide +kernel
theorem dX6_reads_66 : decode cX6_reads 66 = .ok (.getfield 99, 3) := by decide +kernel
theorem dX6_reads_69 : decode cX6_reads 69 = .ok (.iconst 1, 1) := by decide +kernel
theorem dX6_reads_70 : decode cX6_reads 70 = .ok (.iadd, 1) := by decide +kernel
theorem dX6_reads_71 : decode cX6_reads 71 = .ok (.putfield 99, 3) := by decide +kernel
theorem dX6_reads_74 : decode cX6_reads 74 = .ok (.aload_n 0, 1) := by decide +kernel
theorem dX6_reads_75 : decode cX6_reads 75 = .ok (.iload_n 1, 1) := by decide +kernel
theorem dX6_reads_76 : decode cX6_reads 76 = .ok (.invokevirtual 115, 3) := by decide +kernel
theorem dX6_reads_79 : decode cX6_reads 79 = .ok (.istore_n 2, 1) := by decide +kernel
theorem dX6_reads_80 : decode cX6_reads 80 = .ok (.goto (-29), 3) := by decide +kernel
theorem dX6_reads_83 : decode cX6_reads 83 = .ok (.iload_n 2, 1) := by decide +kernel
theorem dX6_reads_84 : decode cX6_reads 84 = .ok (.ireturn, 1) := by decide +kernel
theorem dX6_exchanges_0 : decode cX6_exchanges 0 = .ok (.iconst 0, 1) := by decide +kernel
theorem dX6_exchanges_1 : decode cX6_exchanges 1 = .ok (.istore_n 1, 1) := by decide +kernel
theorem dX6_exchanges_2 : decode cX6_exchanges 2 = .ok (.iload_n 1, 1) := by decide +kernel
theorem dX6_exchanges_3 : decode cX6_exchanges 3 = .ok (.sipush 203, 3) := by decide +kernel
theorem dX6_exchanges_6 : decode cX6_exchanges 6 = .ok (.if_icmp .ge 35, 3) := by decide +kernel
theorem dX6_exchanges_9 : decode cX6_exchanges 9 = .ok (.aload_n 0, 1) := by decide +kernel
theorem dX6_exchanges_10 : decode cX6_exchanges 10 = .ok (.getfield 7, 3) := by decide +kernel
theorem dX6_exchanges_13 : decode cX6_exchanges 13 = .ok (.iload_n 1, 1) := by decide +kernel
theorem dX6_exchanges_14 : decode cX6_exchanges 14 = .ok (.iaload, 1) := by decide +kernel
theorem dX6_exchanges_15 : decode cX6_exchanges 15 = .ok (.istore_n 2, 1) := by decide +kernel
theorem dX6_exchanges_16 : decode cX6_exchanges 16 = .ok (.aload_n 0, 1) := by decide +kernel
theorem dX6_exchanges_17 : decode cX6_exchanges 17 = .ok (.getfield 7, 3) := by decide +kernel
theorem dX6_exchanges_20 : decode cX6_exchanges 20 = .ok (.iload_n 1, 1) := by decide +kernel
theorem dX6_exchanges_21 : decode cX6_exchanges 21 = .ok (.aload_n 0, 1) := by decide +kernel
theorem dX6_exchanges_22 : decode cX6_exchanges 22 = .ok (.getfield 16, 3) := by decide +kernel
theorem dX6_exchanges_25 : decode cX6_exchanges 25 = .ok (.iload_n 1, 1) := by decide +kernel
theorem dX6_exchanges_26 : decode cX6_exchanges 26 = .ok (.iaload, 1) := by decide +kernel
theorem dX6_exchanges_27 : decode cX6_exchanges 27 = .ok (.iastore, 1) := by decide +kernel
theorem dX6_exchanges_28 : decode cX6_exchanges 28 = .ok (.aload_n 0, 1) := by decide +kernel
theorem dX6_exchanges_29 : decode cX6_exchanges 29 = .ok (.getfield 16, 3) := by decide +kernel
theorem dX6_exchanges_32 : decode cX6_exchanges 32 = .ok (.iload_n 1, 1) := by decide +kernel
theorem dX6_exchanges_33 : decode cX6_exchanges 33 = .ok (.iload_n 2, 1) := by decide +kernel
theorem dX6_exchanges_34 : decode cX6_exchanges 34 = .ok (.iastore, 1) := by decide +kernel
theorem dX6_exchanges_35 : decode cX6_exchanges 35 = .ok (.iinc 1 1, 3) := by decide +kernel
theorem dX6_exchanges_38 : decode cX6_exchanges 38 = .ok (.goto (-36), 3) := by decide +kernel
theorem dX6_exchanges_41 : decode cX6_exchanges 41 = .ok (.return_, 1) := by decide +kernel
theorem dX6_load_0 : decode cX6_load 0 = .ok (.aload_n 0, 1) := by decide +kernel
theorem dX6_load_1 : decode cX6_load 1 = .ok (.iload_n 1, 1) := by decide +kernel
theorem dX6_load_2 : decode cX6_load 2 = .ok (.invokevirtual 82, 3) := by decide +kernel
theorem dX6_load_5 : decode cX6_load 5 = .ok (.ifCond .ne 5, 3) := by decide +kernel
theorem dX6_load_8 : decode cX6_load 8 = .ok (.iconst (-1), 1) := by decide +kernel
theorem dX6_load_9 : decode cX6_load 9 = .ok (.ireturn, 1) := by decide +kernel
theorem dX6_load_10 : decode cX6_load 10 = .ok (.aload_n 0, 1) := by decide +kernel
theorem dX6_load_11 : decode cX6_load 11 = .ok (.invokevirtual 118, 3) := by decide +kernel
theorem dX6_load_14 : decode cX6_load 14 = .ok (.aload_n 0, 1) := by decide +kernel
theorem dX6_load_15 : decode cX6_load 15 = .ok (.iload_n 1, 1) := by decide +kernel
theorem dX6_load_16 : decode cX6_load 16 = .ok (.invokevirtual 121, 3) := by decide +kernel
theorem dX6_load_19 : decode cX6_load 19 = .ok (.istore_n 2, 1) := by decide +kernel
theorem dX6_load_20 : decode cX6_load 20 = .ok (.aload_n 0, 1) := by decide +kernel
theorem dX6_load_21 : decode cX6_load 21 = .ok (.invokevirtual 124, 3) := by decide +kernel
theorem dX6_load_24 : decode cX6_load 24 = .ok (.iload_n 2, 1) := by decide +kernel
theorem dX6_load_25 : decode cX6_load 25 = .ok (.ifCond .ne 11, 3) := by decide +kernel
theorem dX6_load_28 : decode cX6_load 28 = .ok (.bipush (-10), 2) := by decide +kernel
theorem dX6_load_30 : decode cX6_load 30 = .ok (.aload_n 0, 1) := by decide +kernel
theorem dX6_load_31 : decode cX6_load 31 = .ok (.getfield 99, 3) := by decide +kernel
theorem dX6_load_34 : decode cX6_load 34 = .ok (.isub, 1) := by decide +kernel
theorem dX6_load_35 : decode cX6_load 35 = .ok (.ireturn, 1) := by decide +kernel
theorem dX6_load_36 : decode cX6_load 36 = .ok (.aload_n 0, 1) := by decide +kernel
theorem dX6_load_37 : decode cX6_load 37 = .ok (.invokevirtual 79, 3) := by decide +kernel
theorem dX6_load_40 : decode cX6_load 40 = .ok (.aload_n 0, 1) := by decide +kernel
theorem dX6_load_41 : decode cX6_load 41 = .ok (.invokevirtual 124, 3) := by decide +kernel
theorem dX6_load_44 : decode cX6_load 44 = .ok (.aload_n 0, 1) := by decide +kernel
theorem dX6_load_45 : decode cX6_load 45 = .ok (.iconst 0, 1) := by decide +kernel
theorem dX6_load_46 : decode cX6_load 46 = .ok (.putfield 26, 3) := by decide +kernel
theorem dX6_load_49 : decode cX6_load 49 = .ok (.aload_n 0, 1) := by decide +kernel
theorem dX6_load_50 : decode cX6_load 50 = .ok (.dup, 1) := by decide +kernel
theorem dX6_load_51 : decode cX6_load 51 = .ok (.getfield 65, 3) := by decide +kernel
theorem dX6_load_54 : decode cX6_load 54 = .ok (.aload_n 0, 1) := by decide +kernel
theorem dX6_load_55 : decode cX6_load 55 = .ok (.invokevirtual 68, 3) := by decide +kernel
theorem dX6_load_58 : decode cX6_load 58 = .ok (.iadd, 1) := by decide +kernel
theorem dX6_load_59 : decode cX6_load 59 = .ok (.putfield 65, 3) := by decide +kernel
theorem dX6_load_62 : decode cX6_load 62 = .ok (.aload_n 0, 1) := by decide +kernel
theorem dX6_load_63 : decode cX6_load 63 = .ok (.iload_n 1, 1) := by decide +kernel
theorem dX6_load_64 : decode cX6_load 64 = .ok (.bipush 12, 2) := by decide +kernel
theorem dX6_load_66 : decode cX6_load 66 = .ok (.invokevirtual 37, 3) := by decide +kernel
theorem dX6_load_69 : decode cX6_load 69 = .ok (.ireturn, 1) := by decide +kernel
theorem dX6_press_0 : decode cX6_press 0 = .ok (.iload_n 1, 1) := by decide +kernel
theorem dX6_press_1 : decode cX6_press 1 = .ok (.iconst 0, 1) := by decide +kernel
theorem dX6_press_2 : decode cX6_press 2 = .ok (.bipush 7, 2) := by decide +kernel
theorem dX6_press_4 : decode cX6_press 4 = .ok (.invokestatic 33, 3) := by decide +kernel
theorem dX6_press_7 : decode cX6_press 7 = .ok (.ifCond .eq 12, 3) := by decide +kernel
theorem dX6_press_10 : decode cX6_press 10 = .ok (.iload_n 2, 1) := by decide +kernel
theorem dX6_press_11 : decode cX6_press 11 = .ok (.iconst 0, 1) := by decide +kernel
theorem dX6_press_12 : decode cX6_press 12 = .ok (.iconst 1, 1) := by decide +kernel
theorem dX6_press_13 : decode cX6_press 13 = .ok (.invokestatic 33, 3) := by decide +kernel
theorem dX6_press_16 : decode cX6_press 16 = .ok (.ifCond .ne 5, 3) := by decide +kernel
theorem dX6_press_19 : decode cX6_press 19 = .ok (.iconst (-1), 1) := by decide +kernel
theorem dX6_press_20 : decode cX6_press 20 = .ok (.ireturn, 1) := by decide +kernel
theorem dX6_press_21 : decode cX6_press 21 = .ok (.aload_n 0, 1) := by decide +kernel
theorem dX6_press_22 : decode cX6_press 22 = .ok (.getfield 7, 3) := by decide +kernel
theorem dX6_press_25 : decode cX6_press 25 = .ok (.iconst 0, 1) := by decide +kernel
theorem dX6_press_26 : decode cX6_press 26 = .ok (.iaload, 1) := by decide +kernel
theorem dX6_press_27 : decode cX6_press 27 = .ok (.iload_n 1, 1) := by decide +kernel
theorem dX6_press_28 : decode cX6_press 28 = .ok (.ishr, 1) := by decide +kernel
theorem dX6_press_29 : decode cX6_press 29 = .ok (.iconst 1, 1) := by decide +kernel
theorem dX6_press_30 : decode cX6_press 30 = .ok (.iand, 1) := by decide +kernel
theorem dX6_press_31 : decode cX6_press 31 = .ok (.iload_n 2, 1) := by decide +kernel
theorem dX6_press_32 : decode cX6_press 32 = .ok (.if_icmp .ne 6, 3) := by decide +kernel
theorem dX6_press_35 : decode cX6_press 35 = .ok (.bipush (-2), 2) := by decide +kernel
theorem dX6_press_37 : decode cX6_press 37 = .ok (.ireturn, 1) := by decide +kernel
theorem dX6_press_38 : decode cX6_press 38 = .ok (.aload_n 0, 1) := by decide +kernel
theorem dX6_press_39 : decode cX6_press 39 = .ok (.invokevirtual 79, 3) := by decide +kernel
theorem dX6_press_42 : decode cX6_press 42 = .ok (.aload_n 0, 1) := by decide +kernel
theorem dX6_press_43 : decode cX6_press 43 = .ok (.getfield 7, 3) := by decide +kernel
theorem dX6_press_46 : decode cX6_press 46 = .ok (.iconst 0, 1) := by decide +kernel
theorem dX6_press_47 : decode cX6_press 47 = .ok (.dup2, 1) := by decide +kernel
theorem dX6_press_48 : decode cX6_press 48 = .ok (.iaload, 1) := by decide +kernel
theorem dX6_press_49 : decode cX6_press 49 = .ok (.iconst 1, 1) := by decide +kernel
theorem dX6_press_50 : decode cX6_press 50 = .ok (.iload_n 1, 1) := by decide +kernel
theorem dX6_press_51 : decode cX6_press 51 = .ok (.ishl, 1) := by decide +kernel
theorem dX6_press_52 : decode cX6_press 52 = .ok (.ixor, 1) := by decide +kernel
theorem dX6_press_53 : decode cX6_press 53 = .ok (.iastore, 1) := by decide +kernel
theorem dX6_press_54 : decode cX6_press 54 = .ok (.aload_n 0, 1) := by decide +kernel
theorem dX6_press_55 : decode cX6_press 55 = .ok (.invokevirtual 68, 3) := by decide +kernel
theorem dX6_press_58 : decode cX6_press 58 = .ok (.ireturn, 1) := by decide +kernel
theorem dX6_setFault_0 : decode cX6_setFault 0 = .ok (.aload_n 0, 1) := by decide +kernel
theorem dX6_setFault_1 : decode cX6_setFault 1 = .ok (.iload_n 1, 1) := by decide +kernel
theorem dX6_setFault_2 : decode cX6_setFault 2 = .ok (.invokevirtual 82, 3) := by decide +kernel
theorem dX6_setFault_5 : decode cX6_setFault 5 = .ok (.ifCond .eq 12, 3) := by decide +kernel
theorem dX6_setFault_8 : decode cX6_setFault 8 = .ok (.iload_n 2, 1) := by decide +kernel
theorem dX6_setFault_9 : decode cX6_setFault 9 = .ok (.iconst 0, 1) := by decide +kernel
theorem dX6_setFault_10 : decode cX6_setFault 10 = .ok (.iconst 2, 1) := by decide +kernel
theorem dX6_setFault_11 : decode cX6_setFault 11 = .ok (.invokestatic 33, 3) := by decide +kernel
theorem dX6_setFault_14 : decode cX6_setFault 14 = .ok (.ifCond .ne 5, 3) := by decide +kernel
theorem dX6_setFault_17 : decode cX6_setFault 17 = .ok (.iconst (-1), 1) := by decide +kernel
theorem dX6_setFault_18 : decode cX6_setFault 18 = .ok (.ireturn, 1) := by decide +kernel
theorem dX6_setFault_19 : decode cX6_setFault 19 = .ok (.aload_n 0, 1) := by decide +kernel
theorem dX6_setFault_20 : decode cX6_setFault 20 = .ok (.invokevirtual 79, 3) := by decide +kernel
theorem dX6_setFault_23 : decode cX6_setFault 23 = .ok (.aload_n 0, 1) := by decide +kernel
theorem dX6_setFault_24 : decode cX6_setFault 24 = .ok (.iload_n 1, 1) := by decide +kernel
theorem dX6_setFault_25 : decode cX6_setFault 25 = .ok (.bipush 6, 2) := by decide +kernel
theorem dX6_setFault_27 : decode cX6_setFault 27 = .ok (.invokevirtual 37, 3) := by decide +kernel
theorem dX6_setFault_30 : decode cX6_setFault 30 = .ok (.istore_n 3, 1) := by decide +kernel
theorem dX6_setFault_31 : decode cX6_setFault 31 = .ok (.aload_n 0, 1) := by decide +kernel
theorem dX6_setFault_32 : decode cX6_setFault 32 = .ok (.iload_n 1, 1) := by decide +kernel
theorem dX6_setFault_33 : decode cX6_setFault 33 = .ok (.bipush 6, 2) := by decide +kernel
theorem dX6_setFault_35 : decode cX6_setFault 35 = .ok (.iload_n 2, 1) := by decide +kernel
theorem dX6_setFault_36 : decode cX6_setFault 36 = .ok (.invokevirtual 49, 3) := by decide +kernel
theorem dX6_setFault_39 : decode cX6_setFault 39 = .ok (.aload_n 0, 1) := by decide +kernel
theorem dX6_setFault_40 : decode cX6_setFault 40 = .ok (.dup, 1) := by decide +kernel
theorem dX6_setFault_41 : decode cX6_setFault 41 = .ok (.getfield 65, 3) := by decide +kernel
theorem dX6_setFault_44 : decode cX6_setFault 44 = .ok (.aload_n 0, 1) := by decide +kernel
theorem dX6_setFault_45 : decode cX6_setFault 45 = .ok (.invokevirtual 68, 3) := by decide +kernel
theorem dX6_setFault_48 : decode cX6_setFault 48 = .ok (.iadd, 1) := by decide +kernel
theorem dX6_setFault_49 : decode cX6_setFault 49 = .ok (.putfield 65, 3) := by decide +kernel
theorem dX6_setFault_52 : decode cX6_setFault 52 = .ok (.iload_n 3, 1) := by decide +kernel
theorem dX6_setFault_53 : decode cX6_setFault 53 = .ok (.ireturn, 1) := by decide +kernel
theorem dX6_stick_0 : decode cX6_stick 0 = .ok (.aload_n 0, 1) := by decide +kernel
theorem dX6_stick_1 : decode cX6_stick 1 = .ok (.iload_n 1, 1) := by decide +kernel
theorem dX6_stick_2 : decode cX6_stick 2 = .ok (.invokevirtual 82, 3) := by decide +kernel
theorem dX6_stick_5 : decode cX6_stick 5 = .ok (.ifCond .eq 12, 3) := by decide +kernel
theorem dX6_stick_8 : decode cX6_stick 8 = .ok (.iload_n 2, 1) := by decide +kernel
theorem dX6_stick_9 : decode cX6_stick 9 = .ok (.iconst 0, 1) := by decide +kernel
theorem dX6_stick_10 : decode cX6_stick 10 = .ok (.iconst 1, 1) := by decide +kernel
theorem dX6_stick_11 : decode cX6_stick 11 = .ok (.invokestatic 33, 3) := by decide +kernel
theorem dX6_stick_14 : decode cX6_stick 14 = .ok (.ifCond .ne 5, 3) := by decide +kernel
theorem dX6_stick_17 : decode cX6_stick 17 = .ok (.iconst (-1), 1) := by decide +kernel
theorem dX6_stick_18 : decode cX6_stick 18 = .ok (.ireturn, 1) := by decide +kernel
theorem dX6_stick_19 : decode cX6_stick 19 = .ok (.aload_n 0, 1) := by decide +kernel
theorem dX6_stick_20 : decode cX6_stick 20 = .ok (.invokevirtual 79, 3) := by decide +kernel
theorem dX6_stick_23 : decode cX6_stick 23 = .ok (.aload_n 0, 1) := by decide +kernel
theorem dX6_stick_24 : decode cX6_stick 24 = .ok (.iload_n 1, 1) := by decide +kernel
theorem dX6_stick_25 : decode cX6_stick 25 = .ok (.bipush 7, 2) := by decide +kernel
theorem dX6_stick_27 : decode cX6_stick 27 = .ok (.invokevirtual 37, 3) := by decide +kernel
theorem dX6_stick_30 : decode cX6_stick 30 = .ok (.istore_n 3, 1) := by decide +kernel
theorem dX6_stick_31 : decode cX6_stick 31 = .ok (.aload_n 0, 1) := by decide +kernel
theorem dX6_stick_32 : decode cX6_stick 32 = .ok (.iload_n 1, 1) := by decide +kernel
theorem dX6_stick_33 : decode cX6_stick 33 = .ok (.bipush 7, 2) := by decide +kernel
theorem dX6_stick_35 : decode cX6_stick 35 = .ok (.iload_n 2, 1) := by decide +kernel
theorem dX6_stick_36 : decode cX6_stick 36 = .ok (.invokevirtual 49, 3) := by decide +kernel
theorem dX6_stick_39 : decode cX6_stick 39 = .ok (.aload_n 0, 1) := by decide +kernel
theorem dX6_stick_40 : decode cX6_stick 40 = .ok (.dup, 1) := by decide +kernel
theorem dX6_stick_41 : decode cX6_stick 41 = .ok (.getfield 65, 3) := by decide +kernel
theorem dX6_stick_44 : decode cX6_stick 44 = .ok (.aload_n 0, 1) := by decide +kernel
theorem dX6_stick_45 : decode cX6_stick 45 = .ok (.invokevirtual 68, 3) := by decide +kernel
theorem dX6_stick_48 : decode cX6_stick 48 = .ok (.iadd, 1) := by decide +kernel
theorem dX6_stick_49 : decode cX6_stick 49 = .ok (.putfield 65, 3) := by decide +kernel
theorem dX6_stick_52 : decode cX6_stick 52 = .ok (.iload_n 3, 1) := by decide +kernel
theorem dX6_stick_53 : decode cX6_stick 53 = .ok (.ireturn, 1) := by decide +kernel
theorem dX6_step_0 : decode cX6_step 0 = .ok (.aload_n 0, 1) := by decide +kernel
theorem dX6_step_1 : decode cX6_step 1 = .ok (.iconst 0, 1) := by decide +kernel
theorem dX6_step_2 : decode cX6_step 2 = .ok (.invokevirtual 71, 3) := by decide +kernel
theorem dX6_step_5 : decode cX6_step 5 = .ok (.istore_n 1, 1) := by decide +kernel
theorem dX6_step_6 : decode cX6_step 6 = .ok (.iload_n 1, 1) := by decide +kernel
theorem dX6_step_7 : decode cX6_step 7 = .ok (.bipush (-9), 2) := by decide +kernel
theorem dX6_step_9 : decode cX6_step 9 = .ok (.if_icmp .ne 6, 3) := by decide +kernel
theorem dX6_step_12 : decode cX6_step 12 = .ok (.bipush (-2), 2) := by decide +kernel
theorem dX6_step_14 : decode cX6_step 14 = .ok (.ireturn, 1) := by decide +kernel
theorem dX6_step_15 : decode cX6_step 15 = .ok (.aload_n 0, 1) := by decide +kernel
theorem dX6_step_16 : decode cX6_step 16 = .ok (.invokevirtual 79, 3) := by decide +kernel
theorem dX6_step_19 : decode cX6_step 19 = .ok (.aload_n 0, 1) := by decide +kernel
theorem dX6_step_20 : decode cX6_step 20 = .ok (.iload_n 1, 1) := by decide +kernel
theorem dX6_step_21 : decode cX6_step 21 = .ok (.invokevirtual 75, 3) := by decide +kernel
theorem dX6_step_24 : decode cX6_step 24 = .ok (.bipush 10, 2) := by decide +kernel
theorem dX6_step_26 : decode cX6_step 26 = .ok (.iload_n 1, 1) := by decide +kernel
theorem dX6_step_27 : decode cX6_step 27 = .ok (.iconst 4, 1) := by decide +kernel
theorem dX6_step_28 : decode cX6_step 28 = .ok (.idiv, 1) := by decide +kernel
theorem dX6_step_29 : decode cX6_step 29 = .ok (.imul, 1) := by decide +kernel
theorem dX6_step_30 : decode cX6_step 30 = .ok (.iload_n 1, 1) := by decide +kernel
theorem dX6_step_31 : decode cX6_step 31 = .ok (.iconst 4, 1) := by decide +kernel
theorem dX6_step_32 : decode cX6_step 32 = .ok (.irem, 1) := by decide +kernel
theorem dX6_step_33 : decode cX6_step 33 = .ok (.iadd, 1) := by decide +kernel
theorem dX6_step_34 : decode cX6_step 34 = .ok (.ireturn, 1) := by decide +kernel
theorem dX6_settle_0 : decode cX6_settle 0 = .ok (.iload_n 1, 1) := by decide +kernel
theorem dX6_settle_1 : decode cX6_settle 1 = .ok (.iconst 1, 1) := by decide +kernel
theorem dX6_settle_2 : decode cX6_settle 2 = .ok (.sipush 200, 3) := by decide +kernel
theorem dX6_settle_5 : decode cX6_settle 5 = .ok (.invokestatic 33, 3) := by decide +kernel
theorem dX6_settle_8 : decode cX6_settle 8 = .ok (.ifCond .ne 5, 3) := by decide +kernel
theorem dX6_settle_11 : decode cX6_settle 11 = .ok (.iconst (-1), 1) := by decide +kernel
theorem dX6_settle_12 : decode cX6_settle 12 = .ok (.ireturn, 1) := by decide +kernel
theorem dX6_settle_13 : decode cX6_settle 13 = .ok (.aload_n 0, 1) := by decide +kernel
theorem dX6_settle_14 : decode cX6_settle 14 = .ok (.invokevirtual 79, 3) := by decide +kernel
theorem dX6_settle_17 : decode cX6_settle 17 = .ok (.aload_n 0, 1) := by decide +kernel
theorem dX6_settle_18 : decode cX6_settle 18 = .ok (.iconst 0, 1) := by decide +kernel
theorem dX6_settle_19 : decode cX6_settle 19 = .ok (.iload_n 1, 1) := by decide +kernel
theorem dX6_settle_20 : decode cX6_settle 20 = .ok (.invokevirtual 127, 3) := by decide +kernel
theorem dX6_settle_23 : decode cX6_settle 23 = .ok (.ireturn, 1) := by decide +kernel
theorem dX6_pass_0 : decode cX6_pass 0 = .ok (.iload_n 1, 1) := by decide +kernel
theorem dX6_pass_1 : decode cX6_pass 1 = .ok (.iconst 1, 1) := by decide +kernel
theorem dX6_pass_2 : decode cX6_pass 2 = .ok (.sipush 1000, 3) := by decide +kernel
theorem dX6_pass_5 : decode cX6_pass 5 = .ok (.invokestatic 33, 3) := by decide +kernel
theorem dX6_pass_8 : decode cX6_pass 8 = .ok (.ifCond .ne 5, 3) := by decide +kernel
theorem dX6_pass_11 : decode cX6_pass 11 = .ok (.iconst (-1), 1) := by decide +kernel
theorem dX6_pass_12 : decode cX6_pass 12 = .ok (.ireturn, 1) := by decide +kernel
theorem dX6_pass_13 : decode cX6_pass 13 = .ok (.aload_n 0, 1) := by decide +kernel
theorem dX6_pass_14 : decode cX6_pass 14 = .ok (.getfield 7, 3) := by decide +kernel
theorem dX6_pass_17 : decode cX6_pass 17 = .ok (.iconst 2, 1) := by decide +kernel
theorem dX6_pass_18 : decode cX6_pass 18 = .ok (.iaload, 1) := by decide +kernel
theorem dX6_pass_19 : decode cX6_pass 19 = .ok (.iload_n 1, 1) := by decide +kernel
theorem dX6_pass_20 : decode cX6_pass 20 = .ok (.iadd, 1) := by decide +kernel
theorem dX6_pass_21 : decode cX6_pass 21 = .ok (.istore_n 2, 1) := by decide +kernel
theorem dX6_pass_22 : decode cX6_pass 22 = .ok (.iload_n 2, 1) := by decide +kernel
theorem dX6_pass_23 : decode cX6_pass 23 = .ok (.ldc 131, 2) := by decide +kernel
theorem dX6_pass_25 : decode cX6_pass 25 = .ok (.if_icmp .le 6, 3) := by decide +kernel
theorem dX6_pass_28 : decode cX6_pass 28 = .ok (.bipush (-3), 2) := by decide +kernel
theorem dX6_pass_30 : decode cX6_pass 30 = .ok (.ireturn, 1) := by decide +kernel
theorem dX6_pass_31 : decode cX6_pass 31 = .ok (.aload_n 0, 1) := by decide +kernel
theorem dX6_pass_32 : decode cX6_pass 32 = .ok (.invokevirtual 118, 3) := by decide +kernel
theorem dX6_pass_35 : decode cX6_pass 35 = .ok (.iconst 0, 1) := by decide +kernel
theorem dX6_pass_36 : decode cX6_pass 36 = .ok (.istore_n 3, 1) := by decide +kernel
theorem dX6_pass_37 : decode cX6_pass 37 = .ok (.aload_n 0, 1) := by decide +kernel
theorem dX6_pass_38 : decode cX6_pass 38 = .ok (.iconst 0, 1) := by decide +kernel
theorem dX6_pass_39 : decode cX6_pass 39 = .ok (.invokevirtual 71, 3) := by decide +kernel
theorem dX6_pass_42 : decode cX6_pass 42 = .ok (.istore 4, 2) := by decide +kernel
theorem dX6_pass_44 : decode cX6_pass 44 = .ok (.iload_n 3, 1) := by decide +kernel
theorem dX6_pass_45 : decode cX6_pass 45 = .ok (.sipush 200, 3) := by decide +kernel
theorem dX6_pass_48 : decode cX6_pass 48 = .ok (.if_icmp .gt 39, 3) := by decide +kernel
theorem dX6_pass_51 : decode cX6_pass 51 = .ok (.iload 4, 2) := by decide +kernel
theorem dX6_pass_53 : decode cX6_pass 53 = .ok (.bipush (-9), 2) := by decide +kernel
theorem dX6_pass_55 : decode cX6_pass 55 = .ok (.if_icmp .eq 32, 3) := by decide +kernel
theorem dX6_pass_58 : decode cX6_pass 58 = .ok (.aload_n 0, 1) := by decide +kernel
theorem dX6_pass_59 : decode cX6_pass 59 = .ok (.iload 4, 2) := by decide +kernel
theorem dX6_pass_61 : decode cX6_pass 61 = .ok (.invokevirtual 53, 3) := by decide +kernel
theorem dX6_pass_64 : decode cX6_pass 64 = .ok (.iload_n 2, 1) := by decide +kernel
theorem dX6_pass_65 : decode cX6_pass 65 = .ok (.if_icmp .gt 22, 3) := by decide +kernel
theorem dX6_pass_68 : decode cX6_pass 68 = .ok (.aload_n 0, 1) := by decide +kernel
theorem dX6_pass_69 : decode cX6_pass 69 = .ok (.iload 4, 2) := by decide +kernel
theorem dX6_pass_71 : decode cX6_pass 71 = .ok (.invokevirtual 75, 3) := by decide +kernel
theorem dX6_pass_74 : decode cX6_pass 74 = .ok (.iinc 3 1, 3) := by decide +kernel
theorem dX6_pass_77 : decode cX6_pass 77 = .ok (.aload_n 0, 1) := by decide +kernel
theorem dX6_pass_78 : decode cX6_pass 78 = .ok (.iconst 0, 1) := by decide +kernel
theorem dX6_pass_79 : decode cX6_pass 79 = .ok (.invokevirtual 71, 3) := by decide +kernel
theorem dX6_pass_82 : decode cX6_pass 82 = .ok (.istore 4, 2) := by decide +kernel
theorem dX6_pass_84 : decode cX6_pass 84 = .ok (.goto (-40), 3) := by decide +kernel
theorem dX6_pass_87 : decode cX6_pass 87 = .ok (.aload_n 0, 1) := by decide +kernel
theorem dX6_pass_88 : decode cX6_pass 88 = .ok (.getfield 7, 3) := by decide +kernel
theorem dX6_pass_91 : decode cX6_pass 91 = .ok (.iconst 2, 1) := by decide +kernel
theorem dX6_pass_92 : decode cX6_pass 92 = .ok (.iload_n 2, 1) := by decide +kernel
theorem dX6_pass_93 : decode cX6_pass 93 = .ok (.iastore, 1) := by decide +kernel
theorem dX6_pass_94 : decode cX6_pass 94 = .ok (.aload_n 0, 1) := by decide +kernel
theorem dX6_pass_95 : decode cX6_pass 95 = .ok (.invokevirtual 124, 3) := by decide +kernel
theorem dX6_pass_98 : decode cX6_pass 98 = .ok (.iload_n 3, 1) := by decide +kernel
theorem dX6_pass_99 : decode cX6_pass 99 = .ok (.sipush 200, 3) := by decide +kernel
theorem dX6_pass_102 : decode cX6_pass 102 = .ok (.if_icmp .le 6, 3) := by decide +kernel
theorem dX6_pass_105 : decode cX6_pass 105 = .ok (.bipush (-3), 2) := by decide +kernel
theorem dX6_pass_107 : decode cX6_pass 107 = .ok (.ireturn, 1) := by decide +kernel
theorem dX6_pass_108 : decode cX6_pass 108 = .ok (.aload_n 0, 1) := by decide +kernel
theorem dX6_pass_109 : decode cX6_pass 109 = .ok (.invokevirtual 79, 3) := by decide +kernel
theorem dX6_pass_112 : decode cX6_pass 112 = .ok (.aload_n 0, 1) := by decide +kernel
theorem dX6_pass_113 : decode cX6_pass 113 = .ok (.invokevirtual 124, 3) := by decide +kernel
theorem dX6_pass_116 : decode cX6_pass 116 = .ok (.iload_n 3, 1) := by decide +kernel
theorem dX6_pass_117 : decode cX6_pass 117 = .ok (.ireturn, 1) := by decide +kernel
theorem dX6_count_0 : decode cX6_count 0 = .ok (.iconst 0, 1) := by decide +kernel
theorem dX6_count_1 : decode cX6_count 1 = .ok (.istore_n 2, 1) := by decide +kernel
theorem dX6_count_2 : decode cX6_count 2 = .ok (.iload_n 1, 1) := by decide +kernel
theorem dX6_count_3 : decode cX6_count 3 = .ok (.tableswitch 153 0 9 #[53, 60, 67, 113, 120, 126, 132, 137, 143, 148], 53) := by decide +kernel
theorem dX6_count_56 : decode cX6_count 56 = .ok (.aload_n 0, 1) := by decide +kernel
theorem dX6_count_57 : decode cX6_count 57 = .ok (.getfield 7, 3) := by decide +kernel
theorem dX6_count_60 : decode cX6_count 60 = .ok (.iconst 1, 1) := by decide +kernel
theorem dX6_count_61 : decode cX6_count 61 = .ok (.iaload, 1) := by decide +kernel
theorem dX6_count_62 : decode cX6_count 62 = .ok (.ireturn, 1) := by decide +kernel
theorem dX6_count_63 : decode cX6_count 63 = .ok (.aload_n 0, 1) := by decide +kernel
theorem dX6_count_64 : decode cX6_count 64 = .ok (.getfield 7, 3) := by decide +kernel
theorem dX6_count_67 : decode cX6_count 67 = .ok (.iconst 2, 1) := by decide +kernel
theorem dX6_count_68 : decode cX6_count 68 = .ok (.iaload, 1) := by decide +kernel
theorem dX6_count_69 : decode cX6_count 69 = .ok (.ireturn, 1) := by decide +kernel
theorem dX6_count_70 : decode cX6_count 70 = .ok (.iconst 0, 1) := by decide +kernel
theorem dX6_count_71 : decode cX6_count 71 = .ok (.istore_n 3, 1) := by decide +kernel
theorem dX6_count_72 : decode cX6_count 72 = .ok (.iload_n 3, 1) := by decide +kernel
theorem dX6_count_73 : decode cX6_count 73 = .ok (.aload_n 0, 1) := by decide +kernel
theorem dX6_count_74 : decode cX6_count 74 = .ok (.getfield 7, 3) := by decide +kernel
theorem dX6_count_77 : decode cX6_count 77 = .ok (.iconst 1, 1) := by decide +kernel
theorem dX6_count_78 : decode cX6_count 78 = .ok (.iaload, 1) := by decide +kernel
theorem dX6_count_79 : decode cX6_count 79 = .ok (.if_icmp .ge 35, 3) := by decide +kernel
theorem dX6_count_82 : decode cX6_count 82 = .ok (.iload_n 2, 1) := by decide +kernel
theorem dX6_count_83 : decode cX6_count 83 = .ok (.aload_n 0, 1) := by decide +kernel
theorem dX6_count_84 : decode cX6_count 84 = .ok (.iload_n 3, 1) := by decide +kernel
theorem dX6_count_85 : decode cX6_count 85 = .ok (.bipush 8, 2) := by decide +kernel
theorem dX6_count_87 : decode cX6_count 87 = .ok (.invokevirtual 37, 3) := by decide +kernel
theorem dX6_count_90 : decode cX6_count 90 = .ok (.ifCond .le 7, 3) := by decide +kernel
theorem dX6_count_93 : decode cX6_count 93 = .ok (.iconst 1, 1) := by decide +kernel
theorem dX6_count_94 : decode cX6_count 94 = .ok (.goto 4, 3) := by decide +kernel
theorem dX6_count_97 : decode cX6_count 97 = .ok (.iconst 0, 1) := by decide +kernel
theorem dX6_count_98 : decode cX6_count 98 = .ok (.aload_n 0, 1) := by decide +kernel
theorem dX6_count_99 : decode cX6_count 99 = .ok (.iload_n 3, 1) := by decide +kernel
theorem dX6_count_100 : decode cX6_count 100 = .ok (.bipush 10, 2) := by decide +kernel
theorem dX6_count_102 : decode cX6_count 102 = .ok (.invokevirtual 37, 3) := by decide +kernel
theorem dX6_count_105 : decode cX6_count 105 = .ok (.iadd, 1) := by decide +kernel
theorem dX6_count_106 : decode cX6_count 106 = .ok (.iadd, 1) := by decide +kernel
theorem dX6_count_107 : decode cX6_count 107 = .ok (.istore_n 2, 1) := by decide +kernel
theorem dX6_count_108 : decode cX6_count 108 = .ok (.iinc 3 1, 3) := by decide +kernel
theorem dX6_count_111 : decode cX6_count 111 = .ok (.goto (-39), 3) := by decide +kernel
theorem dX6_count_114 : decode cX6_count 114 = .ok (.iload_n 2, 1) := by decide +kernel
theorem dX6_count_115 : decode cX6_count 115 = .ok (.ireturn, 1) := by decide +kernel
theorem dX6_count_116 : decode cX6_count 116 = .ok (.aload_n 0, 1) := by decide +kernel
theorem dX6_count_117 : decode cX6_count 117 = .ok (.getfield 7, 3) := by decide +kernel
theorem dX6_count_120 : decode cX6_count 120 = .ok (.iconst 0, 1) := by decide +kernel
theorem dX6_count_121 : decode cX6_count 121 = .ok (.iaload, 1) := by decide +kernel
theorem dX6_count_122 : decode cX6_count 122 = .ok (.ireturn, 1) := by decide +kernel
theorem dX6_count_123 : decode cX6_count 123 = .ok (.aload_n 0, 1) := by decide +kernel
theorem dX6_count_124 : decode cX6_count 124 = .ok (.iconst 4, 1) := by decide +kernel
theorem dX6_count_125 : decode cX6_count 125 = .ok (.invokevirtual 132, 3) := by decide +kernel
theorem dX6_count_128 : decode cX6_count 128 = .ok (.ireturn, 1) := by decide +kernel
theorem dX6_count_129 : decode cX6_count 129 = .ok (.aload_n 0, 1) := by decide +kernel
theorem dX6_count_130 : decode cX6_count 130 = .ok (.iconst 3, 1) := by decide +kernel
theorem dX6_count_131 : decode cX6_count 131 = .ok (.invokevirtual 132, 3) := by decide +kernel
theorem dX6_count_134 : decode cX6_count 134 = .ok (.ireturn, 1) := by decide +kernel
theorem dX6_count_135 : decode cX6_count 135 = .ok (.aload_n 0, 1) := by decide +kernel
theorem dX6_count_136 : decode cX6_count 136 = .ok (.invokevirtual 41, 3) := by decide +kernel
theorem dX6_count_139 : decode cX6_count 139 = .ok (.ireturn, 1) := by decide +kernel
theorem dX6_count_140 : decode cX6_count 140 = .ok (.aload_n 0, 1) := by decide +kernel
theorem dX6_count_141 : decode cX6_count 141 = .ok (.iconst 5, 1) := by decide +kernel
theorem dX6_count_142 : decode cX6_count 142 = .ok (.invokevirtual 132, 3) := by decide +kernel
theorem dX6_count_145 : decode cX6_count 145 = .ok (.ireturn, 1) := by decide +kernel
theorem dX6_count_146 : decode cX6_count 146 = .ok (.aload_n 0, 1) := by decide +kernel
theorem dX6_count_147 : decode cX6_count 147 = .ok (.getfield 26, 3) := by decide +kernel
theorem dX6_count_150 : decode cX6_count 150 = .ok (.ireturn, 1) := by decide +kernel
theorem dX6_count_151 : decode cX6_count 151 = .ok (.aload_n 0, 1) := by decide +kernel
theorem dX6_count_152 : decode cX6_count 152 = .ok (.getfield 30, 3) := by decide +kernel
theorem dX6_count_155 : decode cX6_count 155 = .ok (.ireturn, 1) := by decide +kernel
theorem dX6_count_156 : decode cX6_count 156 = .ok (.iconst (-1), 1) := by decide +kernel
theorem dX6_count_157 : decode cX6_count 157 = .ok (.ireturn, 1) := by decide +kernel
theorem dX6_ofItself_0 : decode cX6_ofItself 0 = .ok (.iconst 0, 1) := by decide +kernel
theorem dX6_ofItself_1 : decode cX6_ofItself 1 = .ok (.istore_n 2, 1) := by decide +kernel
theorem dX6_ofItself_2 : decode cX6_ofItself 2 = .ok (.iconst 0, 1) := by decide +kernel
theorem dX6_ofItself_3 : decode cX6_ofItself 3 = .ok (.istore_n 3, 1) := by decide +kernel
theorem dX6_ofItself_4 : decode cX6_ofItself 4 = .ok (.iload_n 3, 1) := by decide +kernel
theorem dX6_ofItself_5 : decode cX6_ofItself 5 = .ok (.aload_n 0, 1) := by decide +kernel
theorem dX6_ofItself_6 : decode cX6_ofItself 6 = .ok (.iload_n 1, 1) := by decide +kernel
theorem dX6_ofItself_7 : decode cX6_ofItself 7 = .ok (.bipush 12, 2) := by decide +kernel
theorem dX6_ofItself_9 : decode cX6_ofItself 9 = .ok (.invokevirtual 37, 3) := by decide +kernel
theorem dX6_ofItself_12 : decode cX6_ofItself 12 = .ok (.if_icmp .ge 28, 3) := by decide +kernel
theorem dX6_ofItself_15 : decode cX6_ofItself 15 = .ok (.aload_n 0, 1) := by decide +kernel
theorem dX6_ofItself_16 : decode cX6_ofItself 16 = .ok (.iload_n 1, 1) := by decide +kernel
theorem dX6_ofItself_17 : decode cX6_ofItself 17 = .ok (.iload_n 3, 1) := by decide +kernel
theorem dX6_ofItself_18 : decode cX6_ofItself 18 = .ok (.bipush 8, 2) := by decide +kernel
theorem dX6_ofItself_20 : decode cX6_ofItself 20 = .ok (.iload_n 1, 1) := by decide +kernel
theorem dX6_ofItself_21 : decode cX6_ofItself 21 = .ok (.iadd, 1) := by decide +kernel
theorem dX6_ofItself_22 : decode cX6_ofItself 22 = .ok (.invokevirtual 91, 3) := by decide +kernel
theorem dX6_ofItself_25 : decode cX6_ofItself 25 = .ok (.ifCond .le 7, 3) := by decide +kernel
theorem dX6_ofItself_28 : decode cX6_ofItself 28 = .ok (.iconst 1, 1) := by decide +kernel
theorem dX6_ofItself_29 : decode cX6_ofItself 29 = .ok (.goto 4, 3) := by decide +kernel
theorem dX6_ofItself_32 : decode cX6_ofItself 32 = .ok (.iload_n 2, 1) := by decide +kernel
theorem dX6_ofItself_33 : decode cX6_ofItself 33 = .ok (.istore_n 2, 1) := by decide +kernel
theorem dX6_ofItself_34 : decode cX6_ofItself 34 = .ok (.iinc 3 1, 3) := by decide +kernel
theorem dX6_ofItself_37 : decode cX6_ofItself 37 = .ok (.goto (-33), 3) := by decide +kernel
theorem dX6_ofItself_40 : decode cX6_ofItself 40 = .ok (.iload_n 2, 1) := by decide +kernel
theorem dX6_ofItself_41 : decode cX6_ofItself 41 = .ok (.ireturn, 1) := by decide +kernel
theorem dX6_relay_0 : decode cX6_relay 0 = .ok (.aload_n 0, 1) := by decide +kernel
theorem dX6_relay_1 : decode cX6_relay 1 = .ok (.iload_n 1, 1) := by decide +kernel
theorem dX6_relay_2 : decode cX6_relay 2 = .ok (.invokevirtual 82, 3) := by decide +kernel
theorem dX6_relay_5 : decode cX6_relay 5 = .ok (.ifCond .eq 13, 3) := by decide +kernel
theorem dX6_relay_8 : decode cX6_relay 8 = .ok (.iload_n 2, 1) := by decide +kernel
theorem dX6_relay_9 : decode cX6_relay 9 = .ok (.iconst 0, 1) := by decide +kernel
theorem dX6_relay_10 : decode cX6_relay 10 = .ok (.bipush 7, 2) := by decide +kernel
theorem dX6_relay_12 : decode cX6_relay 12 = .ok (.invokestatic 33, 3) := by decide +kernel
theorem dX6_relay_15 : decode cX6_relay 15 = .ok (.ifCond .ne 5, 3) := by decide +kernel
theorem dX6_relay_18 : decode cX6_relay 18 = .ok (.iconst (-1), 1) := by decide +kernel
theorem dX6_relay_19 : decode cX6_relay 19 = .ok (.ireturn, 1) := by decide +kernel
theorem dX6_relay_20 : decode cX6_relay 20 = .ok (.iload_n 2, 1) := by decide +kernel
theorem dX6_relay_21 : decode cX6_relay 21 = .ok (.tableswitch 93 3 7 #[35, 43, 51, 59, 65], 35) := by decide +kernel
theorem dX6_relay_56 : decode cX6_relay 56 = .ok (.aload_n 0, 1) := by decide +kernel
theorem dX6_relay_57 : decode cX6_relay 57 = .ok (.iload_n 1, 1) := by decide +kernel
theorem dX6_relay_58 : decode cX6_relay 58 = .ok (.bipush 12, 2) := by decide +kernel
theorem dX6_relay_60 : decode cX6_relay 60 = .ok (.invokevirtual 37, 3) := by decide +kernel
theorem dX6_relay_63 : decode cX6_relay 63 = .ok (.ireturn, 1) := by decide +kernel
theorem dX6_relay_64 : decode cX6_relay 64 = .ok (.aload_n 0, 1) := by decide +kernel
theorem dX6_relay_65 : decode cX6_relay 65 = .ok (.iload_n 1, 1) := by decide +kernel
theorem dX6_relay_66 : decode cX6_relay 66 = .ok (.bipush 6, 2) := by decide +kernel
theorem dX6_relay_68 : decode cX6_relay 68 = .ok (.invokevirtual 37, 3) := by decide +kernel
theorem dX6_relay_71 : decode cX6_relay 71 = .ok (.ireturn, 1) := by decide +kernel
theorem dX6_relay_72 : decode cX6_relay 72 = .ok (.aload_n 0, 1) := by decide +kernel
theorem dX6_relay_73 : decode cX6_relay 73 = .ok (.iload_n 1, 1) := by decide +kernel
theorem dX6_relay_74 : decode cX6_relay 74 = .ok (.bipush 7, 2) := by decide +kernel
theorem dX6_relay_76 : decode cX6_relay 76 = .ok (.invokevirtual 37, 3) := by decide +kernel
theorem dX6_relay_79 : decode cX6_relay 79 = .ok (.ireturn, 1) := by decide +kernel
theorem dX6_relay_80 : decode cX6_relay 80 = .ok (.aload_n 0, 1) := by decide +kernel
theorem dX6_relay_81 : decode cX6_relay 81 = .ok (.iload_n 1, 1) := by decide +kernel
theorem dX6_relay_82 : decode cX6_relay 82 = .ok (.invokevirtual 135, 3) := by decide +kernel
theorem dX6_relay_85 : decode cX6_relay 85 = .ok (.ireturn, 1) := by decide +kernel
theorem dX6_relay_86 : decode cX6_relay 86 = .ok (.aload_n 0, 1) := by decide +kernel
theorem dX6_relay_87 : decode cX6_relay 87 = .ok (.iload_n 1, 1) := by decide +kernel
theorem dX6_relay_88 : decode cX6_relay 88 = .ok (.aload_n 0, 1) := by decide +kernel
theorem dX6_relay_89 : decode cX6_relay 89 = .ok (.getfield 7, 3) := by decide +kernel
theorem dX6_relay_92 : decode cX6_relay 92 = .ok (.iconst 0, 1) := by decide +kernel
theorem dX6_relay_93 : decode cX6_relay 93 = .ok (.iaload, 1) := by decide +kernel
theorem dX6_relay_94 : decode cX6_relay 94 = .ok (.aload_n 0, 1) := by decide +kernel
theorem dX6_relay_95 : decode cX6_relay 95 = .ok (.invokevirtual 41, 3) := by decide +kernel
theorem dX6_relay_98 : decode cX6_relay 98 = .ok (.bipush 8, 2) := by decide +kernel
theorem dX6_relay_100 : decode cX6_relay 100 = .ok (.ishl, 1) := by decide +kernel
theorem dX6_relay_101 : decode cX6_relay 101 = .ok (.ior, 1) := by decide +kernel
theorem dX6_relay_102 : decode cX6_relay 102 = .ok (.invokevirtual 45, 3) := by decide +kernel
theorem dX6_relay_105 : decode cX6_relay 105 = .ok (.ifCond .eq 7, 3) := by decide +kernel
theorem dX6_relay_108 : decode cX6_relay 108 = .ok (.iconst 1, 1) := by decide +kernel
theorem dX6_relay_109 : decode cX6_relay 109 = .ok (.goto 4, 3) := by decide +kernel
theorem dX6_relay_112 : decode cX6_relay 112 = .ok (.iconst 0, 1) := by decide +kernel
theorem dX6_relay_113 : decode cX6_relay 113 = .ok (.ireturn, 1) := by decide +kernel
theorem dX6_relay_114 : decode cX6_relay 114 = .ok (.aload_n 0, 1) := by decide +kernel
theorem dX6_relay_115 : decode cX6_relay 115 = .ok (.iload_n 1, 1) := by decide +kernel
theorem dX6_relay_116 : decode cX6_relay 116 = .ok (.iload_n 2, 1) := by decide +kernel
theorem dX6_relay_117 : decode cX6_relay 117 = .ok (.invokevirtual 37, 3) := by decide +kernel
theorem dX6_relay_120 : decode cX6_relay 120 = .ok (.ireturn, 1) := by decide +kernel
theorem dX6_condition_0 : decode cX6_condition 0 = .ok (.aload_n 0, 1) := by decide +kernel
theorem dX6_condition_1 : decode cX6_condition 1 = .ok (.iload_n 1, 1) := by decide +kernel
theorem dX6_condition_2 : decode cX6_condition 2 = .ok (.invokevirtual 82, 3) := by decide +kernel
theorem dX6_condition_5 : decode cX6_condition 5 = .ok (.ifCond .eq 30, 3) := by decide +kernel
theorem dX6_condition_8 : decode cX6_condition 8 = .ok (.iload_n 2, 1) := by decide +kernel
theorem dX6_condition_9 : decode cX6_condition 9 = .ok (.iconst 0, 1) := by decide +kernel
theorem dX6_condition_10 : decode cX6_condition 10 = .ok (.aload_n 0, 1) := by decide +kernel
theorem dX6_condition_11 : decode cX6_condition 11 = .ok (.iload_n 1, 1) := by decide +kernel
theorem dX6_condition_12 : decode cX6_condition 12 = .ok (.bipush 12, 2) := by decide +kernel
theorem dX6_condition_14 : decode cX6_condition 14 = .ok (.invokevirtual 37, 3) := by decide +kernel
theorem dX6_condition_17 : decode cX6_condition 17 = .ok (.iconst 1, 1) := by decide +kernel
theorem dX6_condition_18 : decode cX6_condition 18 = .ok (.isub, 1) := by decide +kernel
theorem dX6_condition_19 : decode cX6_condition 19 = .ok (.invokestatic 33, 3) := by decide +kernel
theorem dX6_condition_22 : decode cX6_condition 22 = .ok (.ifCond .eq 13, 3) := by decide +kernel
theorem dX6_condition_25 : decode cX6_condition 25 = .ok (.iload_n 3, 1) := by decide +kernel
theorem dX6_condition_26 : decode cX6_condition 26 = .ok (.iconst 0, 1) := by decide +kernel
theorem dX6_condition_27 : decode cX6_condition 27 = .ok (.bipush 15, 2) := by decide +kernel
theorem dX6_condition_29 : decode cX6_condition 29 = .ok (.invokestatic 33, 3) := by decide +kernel
theorem dX6_condition_32 : decode cX6_condition 32 = .ok (.ifCond .ne 7, 3) := by decide +kernel
theorem dX6_condition_35 : decode cX6_condition 35 = .ok (.iconst (-1), 1) := by decide +kernel
theorem dX6_condition_36 : decode cX6_condition 36 = .ok (.goto 10, 3) := by decide +kernel
theorem dX6_condition_39 : decode cX6_condition 39 = .ok (.aload_n 0, 1) := by decide +kernel
theorem dX6_condition_40 : decode cX6_condition 40 = .ok (.iload_n 1, 1) := by decide +kernel
theorem dX6_condition_41 : decode cX6_condition 41 = .ok (.iload_n 2, 1) := by decide +kernel
theorem dX6_condition_42 : decode cX6_condition 42 = .ok (.iload_n 3, 1) := by decide +kernel
theorem dX6_condition_43 : decode cX6_condition 43 = .ok (.invokevirtual 91, 3) := by decide +kernel
theorem dX6_condition_46 : decode cX6_condition 46 = .ok (.ireturn, 1) := by decide +kernel
theorem dX6_event_0 : decode cX6_event 0 = .ok (.iload_n 1, 1) := by decide +kernel
theorem dX6_event_1 : decode cX6_event 1 = .ok (.ifCond .lt 12, 3) := by decide +kernel
theorem dX6_event_4 : decode cX6_event 4 = .ok (.iload_n 2, 1) := by decide +kernel
theorem dX6_event_5 : decode cX6_event 5 = .ok (.iconst 0, 1) := by decide +kernel
theorem dX6_event_6 : decode cX6_event 6 = .ok (.iconst 2, 1) := by decide +kernel
theorem dX6_event_7 : decode cX6_event 7 = .ok (.invokestatic 33, 3) := by decide +kernel
theorem dX6_event_10 : decode cX6_event 10 = .ok (.ifCond .ne 5, 3) := by decide +kernel
theorem dX6_event_13 : decode cX6_event 13 = .ok (.iconst (-1), 1) := by decide +kernel
theorem dX6_event_14 : decode cX6_event 14 = .ok (.ireturn, 1) := by decide +kernel
theorem dX6_event_15 : decode cX6_event 15 = .ok (.iconst 0, 1) := by decide +kernel
theorem dX6_event_16 : decode cX6_event 16 = .ok (.istore_n 3, 1) := by decide +kernel
theorem dX6_event_17 : decode cX6_event 17 = .ok (.iload_n 3, 1) := by decide +kernel
theorem dX6_event_18 : decode cX6_event 18 = .ok (.iconst 4, 1) := by decide +kernel
theorem dX6_event_19 : decode cX6_event 19 = .ok (.aload_n 0, 1) := by decide +kernel
theorem dX6_event_20 : decode cX6_event 20 = .ok (.getfield 7, 3) := by decide +kernel
theorem dX6_event_23 : decode cX6_event 23 = .ok (.iconst 1, 1) := by decide +kernel
theorem dX6_event_24 : decode cX6_event 24 = .ok (.iaload, 1) := by decide +kernel
theorem dX6_event_25 : decode cX6_event 25 = .ok (.imul, 1) := by decide +kernel
theorem dX6_event_26 : decode cX6_event 26 = .ok (.if_icmp .ge 113, 3) := by decide +kernel
theorem dX6_event_29 : decode cX6_event 29 = .ok (.iconst 0, 1) := by decide +kernel
theorem dX6_event_30 : decode cX6_event 30 = .ok (.istore 4, 2) := by decide +kernel
theorem dX6_event_32 : decode cX6_event 32 = .ok (.iconst 0, 1) := by decide +kernel
theorem dX6_event_33 : decode cX6_event 33 = .ok (.istore 5, 2) := by decide +kernel
theorem dX6_event_35 : decode cX6_event 35 = .ok (.iload 5, 2) := by decide +kernel
theorem dX6_event_37 : decode cX6_event 37 = .ok (.iconst 4, 1) := by decide +kernel
theorem dX6_event_38 : decode cX6_event 38 = .ok (.aload_n 0, 1) := by decide +kernel
theorem dX6_event_39 : decode cX6_event 39 = .ok (.getfield 7, 3) := by decide +kernel
theorem dX6_event_42 : decode cX6_event 42 = .ok (.iconst 1, 1) := by decide +kernel
theorem dX6_event_43 : decode cX6_event 43 = .ok (.iaload, 1) := by decide +kernel
theorem dX6_event_44 : decode cX6_event 44 = .ok (.imul, 1) := by decide +kernel
theorem dX6_event_45 : decode cX6_event 45 = .ok (.if_icmp .ge 47, 3) := by decide +kernel
theorem dX6_event_48 : decode cX6_event 48 = .ok (.aload_n 0, 1) := by decide +kernel
theorem dX6_event_49 : decode cX6_event 49 = .ok (.iload_n 3, 1) := by decide +kernel
theorem dX6_event_50 : decode cX6_event 50 = .ok (.invokevirtual 57, 3) := by decide +kernel
theorem dX6_event_53 : decode cX6_event 53 = .ok (.ifCond .eq 39, 3) := by decide +kernel
theorem dX6_event_56 : decode cX6_event 56 = .ok (.iload 4, 2) := by decide +kernel
theorem dX6_event_58 : decode cX6_event 58 = .ok (.aload_n 0, 1) := by decide +kernel
theorem dX6_event_59 : decode cX6_event 59 = .ok (.iload 5, 2) := by decide +kernel
theorem dX6_event_61 : decode cX6_event 61 = .ok (.invokevirtual 57, 3) := by decide +kernel
theorem dX6_event_64 : decode cX6_event 64 = .ok (.ifCond .eq 18, 3) := by decide +kernel
theorem dX6_event_67 : decode cX6_event 67 = .ok (.aload_n 0, 1) := by decide +kernel
theorem dX6_event_68 : decode cX6_event 68 = .ok (.iload 5, 2) := by decide +kernel
theorem dX6_event_70 : decode cX6_event 70 = .ok (.iload_n 3, 1) := by decide +kernel
theorem dX6_event_71 : decode cX6_event 71 = .ok (.iconst 0, 1) := by decide +kernel
theorem dX6_event_72 : decode cX6_event 72 = .ok (.invokevirtual 61, 3) := by decide +kernel
theorem dX6_event_75 : decode cX6_event 75 = .ok (.ifCond .eq 7, 3) := by decide +kernel
theorem dX6_event_78 : decode cX6_event 78 = .ok (.iconst 1, 1) := by decide +kernel
theorem dX6_event_79 : decode cX6_event 79 = .ok (.goto 4, 3) := by decide +kernel
theorem dX6_event_82 : decode cX6_event 82 = .ok (.iconst 0, 1) := by decide +kernel
theorem dX6_event_83 : decode cX6_event 83 = .ok (.iadd, 1) := by decide +kernel
theorem dX6_event_84 : decode cX6_event 84 = .ok (.istore 4, 2) := by decide +kernel
theorem dX6_event_86 : decode cX6_event 86 = .ok (.iinc 5 1, 3) := by decide +kernel
theorem dX6_event_89 : decode cX6_event 89 = .ok (.goto (-54), 3) := by decide +kernel
theorem dX6_event_92 : decode cX6_event 92 = .ok (.aload_n 0, 1) := by decide +kernel
theorem dX6_event_93 : decode cX6_event 93 = .ok (.iload_n 3, 1) := by decide +kernel
theorem dX6_event_94 : decode cX6_event 94 = .ok (.invokevirtual 57, 3) := by decide +kernel
theorem dX6_event_97 : decode cX6_event 97 = .ok (.ifCond .eq 36, 3) := by decide +kernel
theorem dX6_event_100 : decode cX6_event 100 = .ok (.iload 4, 2) := by decide +kernel
theorem dX6_event_102 : decode cX6_event 102 = .ok (.iload_n 1, 1) := by decide +kernel
theorem dX6_event_103 : decode cX6_event 103 = .ok (.if_icmp .ne 30, 3) := by decide +kernel
theorem dX6_event_106 : decode cX6_event 106 = .ok (.iload_n 2, 1) := by decide +kernel
theorem dX6_event_107 : decode cX6_event 107 = .ok (.ifCond .ne 11, 3) := by decide +kernel
theorem dX6_event_110 : decode cX6_event 110 = .ok (.aload_n 0, 1) := by decide +kernel
theorem dX6_event_111 : decode cX6_event 111 = .ok (.iload_n 3, 1) := by decide +kernel
theorem dX6_event_112 : decode cX6_event 112 = .ok (.invokevirtual 53, 3) := by decide +kernel
theorem dX6_event_115 : decode cX6_event 115 = .ok (.goto 17, 3) := by decide +kernel
theorem dX6_event_118 : decode cX6_event 118 = .ok (.iload_n 2, 1) := by decide +kernel
theorem dX6_event_119 : decode cX6_event 119 = .ok (.iconst 1, 1) := by decide +kernel
theorem dX6_event_120 : decode cX6_event 120 = .ok (.if_icmp .ne 9, 3) := by decide +kernel
theorem dX6_event_123 : decode cX6_event 123 = .ok (.iload_n 3, 1) := by decide +kernel
theorem dX6_event_124 : decode cX6_event 124 = .ok (.iconst 4, 1) := by decide +kernel
theorem dX6_event_125 : decode cX6_event 125 = .ok (.idiv, 1) := by decide +kernel
theorem dX6_event_126 : decode cX6_event 126 = .ok (.goto 6, 3) := by decide +kernel
theorem dX6_event_129 : decode cX6_event 129 = .ok (.iload_n 3, 1) := by decide +kernel
theorem dX6_event_130 : decode cX6_event 130 = .ok (.iconst 4, 1) := by decide +kernel
theorem dX6_event_131 : decode cX6_event 131 = .ok (.irem, 1) := by decide +kernel
theorem dX6_event_132 : decode cX6_event 132 = .ok (.ireturn, 1) := by decide +kernel
theorem dX6_event_133 : decode cX6_event 133 = .ok (.iinc 3 1, 3) := by decide +kernel
theorem dX6_event_136 : decode cX6_event 136 = .ok (.goto (-119), 3) := by decide +kernel
theorem dX6_event_139 : decode cX6_event 139 = .ok (.bipush (-9), 2) := by decide +kernel
theorem dX6_event_141 : decode cX6_event 141 = .ok (.ireturn, 1) := by decide +kernel
theorem dX6_ends_0 : decode cX6_ends 0 = .ok (.aload_n 0, 1) := by decide +kernel
theorem dX6_ends_1 : decode cX6_ends 1 = .ok (.iload_n 1, 1) := by decide +kernel
theorem dX6_ends_2 : decode cX6_ends 2 = .ok (.iload_n 2, 1) := by decide +kernel
theorem dX6_ends_3 : decode cX6_ends 3 = .ok (.invokevirtual 127, 3) := by decide +kernel
theorem dX6_ends_6 : decode cX6_ends 6 = .ok (.istore_n 3, 1) := by decide +kernel
theorem dX6_ends_7 : decode cX6_ends 7 = .ok (.aload_n 0, 1) := by decide +kernel
theorem dX6_ends_8 : decode cX6_ends 8 = .ok (.iconst 3, 1) := by decide +kernel
theorem dX6_ends_9 : decode cX6_ends 9 = .ok (.invokevirtual 132, 3) := by decide +kernel
theorem dX6_ends_12 : decode cX6_ends 12 = .ok (.iload_n 3, 1) := by decide +kernel
theorem dX6_ends_13 : decode cX6_ends 13 = .ok (.ifCond .lt 19, 3) := by decide +kernel
theorem dX6_ends_16 : decode cX6_ends 16 = .ok (.aload_n 0, 1) := by decide +kernel
theorem dX6_ends_17 : decode cX6_ends 17 = .ok (.iload_n 1, 1) := by decide +kernel
theorem dX6_ends_18 : decode cX6_ends 18 = .ok (.invokevirtual 71, 3) := by decide +kernel
theorem dX6_ends_21 : decode cX6_ends 21 = .ok (.bipush (-9), 2) := by decide +kernel
theorem dX6_ends_23 : decode cX6_ends 23 = .ok (.if_icmp .ne 9, 3) := by decide +kernel
theorem dX6_ends_26 : decode cX6_ends 26 = .ok (.sipush 256, 3) := by decide +kernel
theorem dX6_ends_29 : decode cX6_ends 29 = .ok (.goto 4, 3) := by decide +kernel
theorem dX6_ends_32 : decode cX6_ends 32 = .ok (.iconst 0, 1) := by decide +kernel
theorem dX6_ends_33 : decode cX6_ends 33 = .ok (.iadd, 1) := by decide +kernel
theorem dX6_ends_34 : decode cX6_ends 34 = .ok (.ireturn, 1) := by decide +kernel
theorem dX6_outcome_0 : decode cX6_outcome 0 = .ok (.iload_n 1, 1) := by decide +kernel
theorem dX6_outcome_1 : decode cX6_outcome 1 = .ok (.iconst 0, 1) := by decide +kernel
theorem dX6_outcome_2 : decode cX6_outcome 2 = .ok (.iconst 1, 1) := by decide +kernel
theorem dX6_outcome_3 : decode cX6_outcome 3 = .ok (.invokestatic 33, 3) := by decide +kernel
theorem dX6_outcome_6 : decode cX6_outcome 6 = .ok (.ifCond .eq 14, 3) := by decide +kernel
theorem dX6_outcome_9 : decode cX6_outcome 9 = .ok (.iload_n 2, 1) := by decide +kernel
theorem dX6_outcome_10 : decode cX6_outcome 10 = .ok (.iconst 1, 1) := by decide +kernel
theorem dX6_outcome_11 : decode cX6_outcome 11 = .ok (.sipush 200, 3) := by decide +kernel
theorem dX6_outcome_14 : decode cX6_outcome 14 = .ok (.invokestatic 33, 3) := by decide +kernel
theorem dX6_outcome_17 : decode cX6_outcome 17 = .ok (.ifCond .ne 5, 3) := by decide +kernel
theorem dX6_outcome_20 : decode cX6_outcome 20 = .ok (.iconst (-1), 1) := by decide +kernel
theorem dX6_outcome_21 : decode cX6_outcome 21 = .ok (.ireturn, 1) := by decide +kernel
theorem dX6_outcome_22 : decode cX6_outcome 22 = .ok (.aload_n 0, 1) := by decide +kernel
theorem dX6_outcome_23 : decode cX6_outcome 23 = .ok (.invokevirtual 118, 3) := by decide +kernel
theorem dX6_outcome_26 : decode cX6_outcome 26 = .ok (.aload_n 0, 1) := by decide +kernel
theorem dX6_outcome_27 : decode cX6_outcome 27 = .ok (.iload_n 1, 1) := by decide +kernel
theorem dX6_outcome_28 : decode cX6_outcome 28 = .ok (.iconst 1, 1) := by decide +kernel
theorem dX6_outcome_29 : decode cX6_outcome 29 = .ok (.if_icmp .ne 7, 3) := by decide +kernel
theorem dX6_outcome_32 : decode cX6_outcome 32 = .ok (.iconst 1, 1) := by decide +kernel
theorem dX6_outcome_33 : decode cX6_outcome 33 = .ok (.goto 4, 3) := by decide +kernel
theorem dX6_outcome_36 : decode cX6_outcome 36 = .ok (.iconst 0, 1) := by decide +kernel
theorem dX6_outcome_37 : decode cX6_outcome 37 = .ok (.iload_n 2, 1) := by decide +kernel
theorem dX6_outcome_38 : decode cX6_outcome 38 = .ok (.invokevirtual 138, 3) := by decide +kernel
theorem dX6_outcome_41 : decode cX6_outcome 41 = .ok (.istore_n 3, 1) := by decide +kernel
theorem dX6_outcome_42 : decode cX6_outcome 42 = .ok (.aload_n 0, 1) := by decide +kernel
theorem dX6_outcome_43 : decode cX6_outcome 43 = .ok (.invokevirtual 141, 3) := by decide +kernel
theorem dX6_outcome_46 : decode cX6_outcome 46 = .ok (.iload_n 3, 1) := by decide +kernel
theorem dX6_outcome_47 : decode cX6_outcome 47 = .ok (.ireturn, 1) := by decide +kernel
theorem dX6_races_0 : decode cX6_races 0 = .ok (.iconst 0, 1) := by decide +kernel
theorem dX6_races_1 : decode cX6_races 1 = .ok (.istore_n 1, 1) := by decide +kernel
theorem dX6_races_2 : decode cX6_races 2 = .ok (.iload_n 1, 1) := by decide +kernel
theorem dX6_races_3 : decode cX6_races 3 = .ok (.sipush 203, 3) := by decide +kernel
theorem dX6_races_6 : decode cX6_races 6 = .ok (.if_icmp .ge 21, 3) := by decide +kernel
theorem dX6_races_9 : decode cX6_races 9 = .ok (.aload_n 0, 1) := by decide +kernel
theorem dX6_races_10 : decode cX6_races 10 = .ok (.getfield 19, 3) := by decide +kernel
theorem dX6_races_13 : decode cX6_races 13 = .ok (.iload_n 1, 1) := by decide +kernel
theorem dX6_races_14 : decode cX6_races 14 = .ok (.aload_n 0, 1) := by decide +kernel
theorem dX6_races_15 : decode cX6_races 15 = .ok (.getfield 7, 3) := by decide +kernel
theorem dX6_races_18 : decode cX6_races 18 = .ok (.iload_n 1, 1) := by decide +kernel
theorem dX6_races_19 : decode cX6_races 19 = .ok (.iaload, 1) := by decide +kernel
theorem dX6_races_20 : decode cX6_races 20 = .ok (.iastore, 1) := by decide +kernel
theorem dX6_races_21 : decode cX6_races 21 = .ok (.iinc 1 1, 3) := by decide +kernel
theorem dX6_races_24 : decode cX6_races 24 = .ok (.goto (-22), 3) := by decide +kernel
theorem dX6_races_27 : decode cX6_races 27 = .ok (.aload_n 0, 1) := by decide +kernel
theorem dX6_races_28 : decode cX6_races 28 = .ok (.iconst 0, 1) := by decide +kernel
theorem dX6_races_29 : decode cX6_races 29 = .ok (.sipush 200, 3) := by decide +kernel
theorem dX6_races_32 : decode cX6_races 32 = .ok (.invokevirtual 138, 3) := by decide +kernel
theorem dX6_races_35 : decode cX6_races 35 = .ok (.istore_n 1, 1) := by decide +kernel
theorem dX6_races_36 : decode cX6_races 36 = .ok (.iconst 0, 1) := by decide +kernel
theorem dX6_races_37 : decode cX6_races 37 = .ok (.istore_n 2, 1) := by decide +kernel
theorem dX6_races_38 : decode cX6_races 38 = .ok (.iload_n 2, 1) := by decide +kernel
theorem dX6_races_39 : decode cX6_races 39 = .ok (.sipush 203, 3) := by decide +kernel
theorem dX6_races_42 : decode cX6_races 42 = .ok (.if_icmp .ge 21, 3) := by decide +kernel
theorem dX6_races_45 : decode cX6_races 45 = .ok (.aload_n 0, 1) := by decide +kernel
theorem dX6_races_46 : decode cX6_races 46 = .ok (.getfield 7, 3) := by decide +kernel
theorem dX6_races_49 : decode cX6_races 49 = .ok (.iload_n 2, 1) := by decide +kernel
theorem dX6_races_50 : decode cX6_races 50 = .ok (.aload_n 0, 1) := by decide +kernel
theorem dX6_races_51 : decode cX6_races 51 = .ok (.getfield 19, 3) := by decide +kernel
theorem dX6_races_54 : decode cX6_races 54 = .ok (.iload_n 2, 1) := by decide +kernel
theorem dX6_races_55 : decode cX6_races 55 = .ok (.iaload, 1) := by decide +kernel
theorem dX6_races_56 : decode cX6_races 56 = .ok (.iastore, 1) := by decide +kernel
theorem dX6_races_57 : decode cX6_races 57 = .ok (.iinc 2 1, 3) := by decide +kernel
theorem dX6_races_60 : decode cX6_races 60 = .ok (.goto (-22), 3) := by decide +kernel
theorem dX6_races_63 : decode cX6_races 63 = .ok (.aload_n 0, 1) := by decide +kernel
theorem dX6_races_64 : decode cX6_races 64 = .ok (.iconst 1, 1) := by decide +kernel
theorem dX6_races_65 : decode cX6_races 65 = .ok (.sipush 200, 3) := by decide +kernel
theorem dX6_races_68 : decode cX6_races 68 = .ok (.invokevirtual 138, 3) := by decide +kernel
theorem dX6_races_71 : decode cX6_races 71 = .ok (.istore_n 2, 1) := by decide +kernel
theorem dX6_races_72 : decode cX6_races 72 = .ok (.iconst 0, 1) := by decide +kernel
theorem dX6_races_73 : decode cX6_races 73 = .ok (.istore_n 3, 1) := by decide +kernel
theorem dX6_races_74 : decode cX6_races 74 = .ok (.iload_n 3, 1) := by decide +kernel
theorem dX6_races_75 : decode cX6_races 75 = .ok (.sipush 203, 3) := by decide +kernel
theorem dX6_races_78 : decode cX6_races 78 = .ok (.if_icmp .ge 21, 3) := by decide +kernel
theorem dX6_races_81 : decode cX6_races 81 = .ok (.aload_n 0, 1) := by decide +kernel
theorem dX6_races_82 : decode cX6_races 82 = .ok (.getfield 7, 3) := by decide +kernel
theorem dX6_races_85 : decode cX6_races 85 = .ok (.iload_n 3, 1) := by decide +kernel
theorem dX6_races_86 : decode cX6_races 86 = .ok (.aload_n 0, 1) := by decide +kernel
theorem dX6_races_87 : decode cX6_races 87 = .ok (.getfield 19, 3) := by decide +kernel
theorem dX6_races_90 : decode cX6_races 90 = .ok (.iload_n 3, 1) := by decide +kernel
theorem dX6_races_91 : decode cX6_races 91 = .ok (.iaload, 1) := by decide +kernel
theorem dX6_races_92 : decode cX6_races 92 = .ok (.iastore, 1) := by decide +kernel
theorem dX6_races_93 : decode cX6_races 93 = .ok (.iinc 3 1, 3) := by decide +kernel
theorem dX6_races_96 : decode cX6_races 96 = .ok (.goto (-22), 3) := by decide +kernel
theorem dX6_races_99 : decode cX6_races 99 = .ok (.iload_n 1, 1) := by decide +kernel
theorem dX6_races_100 : decode cX6_races 100 = .ok (.iload_n 2, 1) := by decide +kernel
theorem dX6_races_101 : decode cX6_races 101 = .ok (.if_icmp .ne 7, 3) := by decide +kernel
theorem dX6_races_104 : decode cX6_races 104 = .ok (.iconst 0, 1) := by decide +kernel
theorem dX6_races_105 : decode cX6_races 105 = .ok (.goto 4, 3) := by decide +kernel
theorem dX6_races_108 : decode cX6_races 108 = .ok (.iconst 1, 1) := by decide +kernel
theorem dX6_races_109 : decode cX6_races 109 = .ok (.ireturn, 1) := by decide +kernel
theorem dX6_isRace_0 : decode cX6_isRace 0 = .ok (.aload_n 0, 1) := by decide +kernel
theorem dX6_isRace_1 : decode cX6_isRace 1 = .ok (.invokevirtual 144, 3) := by decide +kernel
theorem dX6_isRace_4 : decode cX6_isRace 4 = .ok (.ireturn, 1) := by decide +kernel
theorem dX6_raceBy_0 : decode cX6_raceBy 0 = .ok (.iload_n 1, 1) := by decide +kernel
theorem dX6_raceBy_1 : decode cX6_raceBy 1 = .ok (.iconst 0, 1) := by decide +kernel
theorem dX6_raceBy_2 : decode cX6_raceBy 2 = .ok (.bipush 7, 2) := by decide +kernel
theorem dX6_raceBy_4 : decode cX6_raceBy 4 = .ok (.invokestatic 33, 3) := by decide +kernel
theorem dX6_raceBy_7 : decode cX6_raceBy 7 = .ok (.ifCond .ne 5, 3) := by decide +kernel
theorem dX6_raceBy_10 : decode cX6_raceBy 10 = .ok (.iconst (-1), 1) := by decide +kernel
theorem dX6_raceBy_11 : decode cX6_raceBy 11 = .ok (.ireturn, 1) := by decide +kernel
theorem dX6_raceBy_12 : decode cX6_raceBy 12 = .ok (.aload_n 0, 1) := by decide +kernel
theorem dX6_raceBy_13 : decode cX6_raceBy 13 = .ok (.invokevirtual 118, 3) := by decide +kernel
theorem dX6_raceBy_16 : decode cX6_raceBy 16 = .ok (.aload_n 0, 1) := by decide +kernel
theorem dX6_raceBy_17 : decode cX6_raceBy 17 = .ok (.getfield 7, 3) := by decide +kernel
theorem dX6_raceBy_20 : decode cX6_raceBy 20 = .ok (.iconst 0, 1) := by decide +kernel
theorem dX6_raceBy_21 : decode cX6_raceBy 21 = .ok (.dup2, 1) := by decide +kernel
theorem dX6_raceBy_22 : decode cX6_raceBy 22 = .ok (.iaload, 1) := by decide +kernel
theorem dX6_raceBy_23 : decode cX6_raceBy 23 = .ok (.iconst 1, 1) := by decide +kernel
theorem dX6_raceBy_24 : decode cX6_raceBy 24 = .ok (.iload_n 1, 1) := by decide +kernel
theorem dX6_raceBy_25 : decode cX6_raceBy 25 = .ok (.ishl, 1) := by decide +kernel
theorem dX6_raceBy_26 : decode cX6_raceBy 26 = .ok (.ixor, 1) := by decide +kernel
theorem dX6_raceBy_27 : decode cX6_raceBy 27 = .ok (.iastore, 1) := by decide +kernel
theorem dX6_raceBy_28 : decode cX6_raceBy 28 = .ok (.aload_n 0, 1) := by decide +kernel
theorem dX6_raceBy_29 : decode cX6_raceBy 29 = .ok (.dup, 1) := by decide +kernel
theorem dX6_raceBy_30 : decode cX6_raceBy 30 = .ok (.getfield 65, 3) := by decide +kernel
theorem dX6_raceBy_33 : decode cX6_raceBy 33 = .ok (.aload_n 0, 1) := by decide +kernel
theorem dX6_raceBy_34 : decode cX6_raceBy 34 = .ok (.invokevirtual 68, 3) := by decide +kernel
theorem dX6_raceBy_37 : decode cX6_raceBy 37 = .ok (.iadd, 1) := by decide +kernel
theorem dX6_raceBy_38 : decode cX6_raceBy 38 = .ok (.putfield 65, 3) := by decide +kernel
theorem dX6_raceBy_41 : decode cX6_raceBy 41 = .ok (.aload_n 0, 1) := by decide +kernel
theorem dX6_raceBy_42 : decode cX6_raceBy 42 = .ok (.invokevirtual 144, 3) := by decide +kernel
theorem dX6_raceBy_45 : decode cX6_raceBy 45 = .ok (.istore_n 2, 1) := by decide +kernel
theorem dX6_raceBy_46 : decode cX6_raceBy 46 = .ok (.aload_n 0, 1) := by decide +kernel
theorem dX6_raceBy_47 : decode cX6_raceBy 47 = .ok (.invokevirtual 141, 3) := by decide +kernel
theorem dX6_raceBy_50 : decode cX6_raceBy 50 = .ok (.iload_n 2, 1) := by decide +kernel
theorem dX6_raceBy_51 : decode cX6_raceBy 51 = .ok (.ireturn, 1) := by decide +kernel
theorem dX6_hazards_0 : decode cX6_hazards 0 = .ok (.iload_n 1, 1) := by decide +kernel
theorem dX6_hazards_1 : decode cX6_hazards 1 = .ok (.iconst 0, 1) := by decide +kernel
theorem dX6_hazards_2 : decode cX6_hazards 2 = .ok (.bipush 7, 2) := by decide +kernel
theorem dX6_hazards_4 : decode cX6_hazards 4 = .ok (.invokestatic 33, 3) := by decide +kernel
theorem dX6_hazards_7 : decode cX6_hazards 7 = .ok (.ifCond .ne 5, 3) := by decide +kernel
theorem dX6_hazards_10 : decode cX6_hazards 10 = .ok (.iconst (-1), 1) := by decide +kernel
theorem dX6_hazards_11 : decode cX6_hazards 11 = .ok (.ireturn, 1) := by decide +kernel
theorem dX6_hazards_12 : decode cX6_hazards 12 = .ok (.aload_n 0, 1) := by decide +kernel
theorem dX6_hazards_13 : decode cX6_hazards 13 = .ok (.invokevirtual 118, 3) := by decide +kernel
theorem dX6_hazards_16 : decode cX6_hazards 16 = .ok (.aload_n 0, 1) := by decide +kernel
theorem dX6_hazards_17 : decode cX6_hazards 17 = .ok (.iconst 4, 1) := by decide +kernel
theorem dX6_hazards_18 : decode cX6_hazards 18 = .ok (.invokevirtual 132, 3) := by decide +kernel
theorem dX6_hazards_21 : decode cX6_hazards 21 = .ok (.istore_n 2, 1) := by decide +kernel
theorem dX6_hazards_22 : decode cX6_hazards 22 = .ok (.aload_n 0, 1) := by decide +kernel
theorem dX6_hazards_23 : decode cX6_hazards 23 = .ok (.getfield 7, 3) := by decide +kernel
theorem dX6_hazards_26 : decode cX6_hazards 26 = .ok (.iconst 0, 1) := by decide +kernel
theorem dX6_hazards_27 : decode cX6_hazards 27 = .ok (.dup2, 1) := by decide +kernel
theorem dX6_hazards_28 : decode cX6_hazards 28 = .ok (.iaload, 1) := by decide +kernel
theorem dX6_hazards_29 : decode cX6_hazards 29 = .ok (.iconst 1, 1) := by decide +kernel
theorem dX6_hazards_30 : decode cX6_hazards 30 = .ok (.iload_n 1, 1) := by decide +kernel
theorem dX6_hazards_31 : decode cX6_hazards 31 = .ok (.ishl, 1) := by decide +kernel
theorem dX6_hazards_32 : decode cX6_hazards 32 = .ok (.ixor, 1) := by decide +kernel
theorem dX6_hazards_33 : decode cX6_hazards 33 = .ok (.iastore, 1) := by decide +kernel
theorem dX6_hazards_34 : decode cX6_hazards 34 = .ok (.aload_n 0, 1) := by decide +kernel
theorem dX6_hazards_35 : decode cX6_hazards 35 = .ok (.dup, 1) := by decide +kernel
theorem dX6_hazards_36 : decode cX6_hazards 36 = .ok (.getfield 65, 3) := by decide +kernel
theorem dX6_hazards_39 : decode cX6_hazards 39 = .ok (.aload_n 0, 1) := by decide +kernel
theorem dX6_hazards_40 : decode cX6_hazards 40 = .ok (.invokevirtual 68, 3) := by decide +kernel
theorem dX6_hazards_43 : decode cX6_hazards 43 = .ok (.iadd, 1) := by decide +kernel
theorem dX6_hazards_44 : decode cX6_hazards 44 = .ok (.putfield 65, 3) := by decide +kernel
theorem dX6_hazards_47 : decode cX6_hazards 47 = .ok (.aload_n 0, 1) := by decide +kernel
theorem dX6_hazards_48 : decode cX6_hazards 48 = .ok (.iconst 4, 1) := by decide +kernel
theorem dX6_hazards_49 : decode cX6_hazards 49 = .ok (.invokevirtual 132, 3) := by decide +kernel
theorem dX6_hazards_52 : decode cX6_hazards 52 = .ok (.istore_n 3, 1) := by decide +kernel
theorem dX6_hazards_53 : decode cX6_hazards 53 = .ok (.iconst 0, 1) := by decide +kernel
theorem dX6_hazards_54 : decode cX6_hazards 54 = .ok (.istore 4, 2) := by decide +kernel
theorem dX6_hazards_56 : decode cX6_hazards 56 = .ok (.aload_n 0, 1) := by decide +kernel
theorem dX6_hazards_57 : decode cX6_hazards 57 = .ok (.iconst 0, 1) := by decide +kernel
theorem dX6_hazards_58 : decode cX6_hazards 58 = .ok (.invokevirtual 71, 3) := by decide +kernel
theorem dX6_hazards_61 : decode cX6_hazards 61 = .ok (.istore 5, 2) := by decide +kernel
theorem dX6_hazards_63 : decode cX6_hazards 63 = .ok (.iload 4, 2) := by decide +kernel
theorem dX6_hazards_65 : decode cX6_hazards 65 = .ok (.sipush 200, 3) := by decide +kernel
theorem dX6_hazards_68 : decode cX6_hazards 68 = .ok (.if_icmp .ge 37, 3) := by decide +kernel
theorem dX6_hazards_71 : decode cX6_hazards 71 = .ok (.iload 5, 2) := by decide +kernel
theorem dX6_hazards_73 : decode cX6_hazards 73 = .ok (.bipush (-9), 2) := by decide +kernel
theorem dX6_hazards_75 : decode cX6_hazards 75 = .ok (.if_icmp .eq 30, 3) := by decide +kernel
theorem dX6_hazards_78 : decode cX6_hazards 78 = .ok (.aload_n 0, 1) := by decide +kernel
theorem dX6_hazards_79 : decode cX6_hazards 79 = .ok (.iload 5, 2) := by decide +kernel
theorem dX6_hazards_81 : decode cX6_hazards 81 = .ok (.invokevirtual 75, 3) := by decide +kernel
theorem dX6_hazards_84 : decode cX6_hazards 84 = .ok (.iload_n 3, 1) := by decide +kernel
theorem dX6_hazards_85 : decode cX6_hazards 85 = .ok (.aload_n 0, 1) := by decide +kernel
theorem dX6_hazards_86 : decode cX6_hazards 86 = .ok (.iconst 4, 1) := by decide +kernel
theorem dX6_hazards_87 : decode cX6_hazards 87 = .ok (.invokevirtual 132, 3) := by decide +kernel
theorem dX6_hazards_90 : decode cX6_hazards 90 = .ok (.iand, 1) := by decide +kernel
theorem dX6_hazards_91 : decode cX6_hazards 91 = .ok (.istore_n 3, 1) := by decide +kernel
theorem dX6_hazards_92 : decode cX6_hazards 92 = .ok (.iinc 4 1, 3) := by decide +kernel
theorem dX6_hazards_95 : decode cX6_hazards 95 = .ok (.aload_n 0, 1) := by decide +kernel
theorem dX6_hazards_96 : decode cX6_hazards 96 = .ok (.iconst 0, 1) := by decide +kernel
theorem dX6_hazards_97 : decode cX6_hazards 97 = .ok (.invokevirtual 71, 3) := by decide +kernel
theorem dX6_hazards_100 : decode cX6_hazards 100 = .ok (.istore 5, 2) := by decide +kernel
theorem dX6_hazards_102 : decode cX6_hazards 102 = .ok (.goto (-39), 3) := by decide +kernel
theorem dX6_hazards_105 : decode cX6_hazards 105 = .ok (.aload_n 0, 1) := by decide +kernel
theorem dX6_hazards_106 : decode cX6_hazards 106 = .ok (.iconst 0, 1) := by decide +kernel
theorem dX6_hazards_107 : decode cX6_hazards 107 = .ok (.invokevirtual 71, 3) := by decide +kernel
theorem dX6_hazards_110 : decode cX6_hazards 110 = .ok (.bipush (-9), 2) := by decide +kernel
theorem dX6_hazards_112 : decode cX6_hazards 112 = .ok (.if_icmp .ne 17, 3) := by decide +kernel
theorem dX6_hazards_115 : decode cX6_hazards 115 = .ok (.iload_n 2, 1) := by decide +kernel
theorem dX6_hazards_116 : decode cX6_hazards 116 = .ok (.aload_n 0, 1) := by decide +kernel
theorem dX6_hazards_117 : decode cX6_hazards 117 = .ok (.iconst 4, 1) := by decide +kernel
theorem dX6_hazards_118 : decode cX6_hazards 118 = .ok (.invokevirtual 132, 3) := by decide +kernel
theorem dX6_hazards_121 : decode cX6_hazards 121 = .ok (.iand, 1) := by decide +kernel
theorem dX6_hazards_122 : decode cX6_hazards 122 = .ok (.iload_n 3, 1) := by decide +kernel
theorem dX6_hazards_123 : decode cX6_hazards 123 = .ok (.iconst (-1), 1) := by decide +kernel
theorem dX6_hazards_124 : decode cX6_hazards 124 = .ok (.ixor, 1) := by decide +kernel
theorem dX6_hazards_125 : decode cX6_hazards 125 = .ok (.iand, 1) := by decide +kernel
theorem dX6_hazards_126 : decode cX6_hazards 126 = .ok (.goto 5, 3) := by decide +kernel
theorem dX6_hazards_129 : decode cX6_hazards 129 = .ok (.bipush (-9), 2) := by decide +kernel
theorem dX6_hazards_131 : decode cX6_hazards 131 = .ok (.istore 5, 2) := by decide +kernel
theorem dX6_hazards_133 : decode cX6_hazards 133 = .ok (.aload_n 0, 1) := by decide +kernel
theorem dX6_hazards_134 : decode cX6_hazards 134 = .ok (.invokevirtual 141, 3) := by decide +kernel
theorem dX6_hazards_137 : decode cX6_hazards 137 = .ok (.iload 5, 2) := by decide +kernel
theorem dX6_hazards_139 : decode cX6_hazards 139 = .ok (.ireturn, 1) := by decide +kernel
theorem dX6_stableStates_0 : decode cX6_stableStates 0 = .ok (.iconst 0, 1) := by decide +kernel
theorem dX6_stableStates_1 : decode cX6_stableStates 1 = .ok (.istore_n 1, 1) := by decide +kernel
theorem dX6_stableStates_2 : decode cX6_stableStates 2 = .ok (.iconst 0, 1) := by decide +kernel
theorem dX6_stableStates_3 : decode cX6_stableStates 3 = .ok (.istore_n 2, 1) := by decide +kernel
theorem dX6_stableStates_4 : decode cX6_stableStates 4 = .ok (.iload_n 2, 1) := by decide +kernel
theorem dX6_stableStates_5 : decode cX6_stableStates 5 = .ok (.iconst 1, 1) := by decide +kernel
theorem dX6_stableStates_6 : decode cX6_stableStates 6 = .ok (.aload_n 0, 1) := by decide +kernel
theorem dX6_stableStates_7 : decode cX6_stableStates 7 = .ok (.getfield 7, 3) := by decide +kernel
theorem dX6_stableStates_10 : decode cX6_stableStates 10 = .ok (.iconst 1, 1) := by decide +kernel
theorem dX6_stableStates_11 : decode cX6_stableStates 11 = .ok (.iaload, 1) := by decide +kernel
theorem dX6_stableStates_12 : decode cX6_stableStates 12 = .ok (.ishl, 1) := by decide +kernel
theorem dX6_stableStates_13 : decode cX6_stableStates 13 = .ok (.if_icmp .ge 25, 3) := by decide +kernel
theorem dX6_stableStates_16 : decode cX6_stableStates 16 = .ok (.iload_n 1, 1) := by decide +kernel
theorem dX6_stableStates_17 : decode cX6_stableStates 17 = .ok (.aload_n 0, 1) := by decide +kernel
theorem dX6_stableStates_18 : decode cX6_stableStates 18 = .ok (.iload_n 2, 1) := by decide +kernel
theorem dX6_stableStates_19 : decode cX6_stableStates 19 = .ok (.invokevirtual 147, 3) := by decide +kernel
theorem dX6_stableStates_22 : decode cX6_stableStates 22 = .ok (.ifCond .eq 7, 3) := by decide +kernel
theorem dX6_stableStates_25 : decode cX6_stableStates 25 = .ok (.iconst 1, 1) := by decide +kernel
theorem dX6_stableStates_26 : decode cX6_stableStates 26 = .ok (.goto 4, 3) := by decide +kernel
theorem dX6_stableStates_29 : decode cX6_stableStates 29 = .ok (.iconst 0, 1) := by decide +kernel
theorem dX6_stableStates_30 : decode cX6_stableStates 30 = .ok (.iadd, 1) := by decide +kernel
theorem dX6_stableStates_31 : decode cX6_stableStates 31 = .ok (.istore_n 1, 1) := by decide +kernel
theorem dX6_stableStates_32 : decode cX6_stableStates 32 = .ok (.iinc 2 1, 3) := by decide +kernel
theorem dX6_stableStates_35 : decode cX6_stableStates 35 = .ok (.goto (-31), 3) := by decide +kernel
theorem dX6_stableStates_38 : decode cX6_stableStates 38 = .ok (.iload_n 1, 1) := by decide +kernel
theorem dX6_stableStates_39 : decode cX6_stableStates 39 = .ok (.ireturn, 1) := by decide +kernel
theorem dX6_isStable_0 : decode cX6_isStable 0 = .ok (.iconst 0, 1) := by decide +kernel
theorem dX6_isStable_1 : decode cX6_isStable 1 = .ok (.istore_n 2, 1) := by decide +kernel
theorem dX6_isStable_2 : decode cX6_isStable 2 = .ok (.iconst 1, 1) := by decide +kernel
theorem dX6_isStable_3 : decode cX6_isStable 3 = .ok (.istore_n 3, 1) := by decide +kernel
theorem dX6_isStable_4 : decode cX6_isStable 4 = .ok (.iconst 0, 1) := by decide +kernel
theorem dX6_isStable_5 : decode cX6_isStable 5 = .ok (.istore 4, 2) := by decide +kernel
theorem dX6_isStable_7 : decode cX6_isStable 7 = .ok (.iload 4, 2) := by decide +kernel
theorem dX6_isStable_9 : decode cX6_isStable 9 = .ok (.aload_n 0, 1) := by decide +kernel
theorem dX6_isStable_10 : decode cX6_isStable 10 = .ok (.getfield 7, 3) := by decide +kernel
theorem dX6_isStable_13 : decode cX6_isStable 13 = .ok (.iconst 1, 1) := by decide +kernel
theorem dX6_isStable_14 : decode cX6_isStable 14 = .ok (.iaload, 1) := by decide +kernel
theorem dX6_isStable_15 : decode cX6_isStable 15 = .ok (.if_icmp .ge 90, 3) := by decide +kernel
theorem dX6_isStable_18 : decode cX6_isStable 18 = .ok (.iload_n 1, 1) := by decide +kernel
theorem dX6_isStable_19 : decode cX6_isStable 19 = .ok (.iload 4, 2) := by decide +kernel
theorem dX6_isStable_21 : decode cX6_isStable 21 = .ok (.ishr, 1) := by decide +kernel
theorem dX6_isStable_22 : decode cX6_isStable 22 = .ok (.iconst 1, 1) := by decide +kernel
theorem dX6_isStable_23 : decode cX6_isStable 23 = .ok (.iand, 1) := by decide +kernel
theorem dX6_isStable_24 : decode cX6_isStable 24 = .ok (.istore 5, 2) := by decide +kernel
theorem dX6_isStable_26 : decode cX6_isStable 26 = .ok (.iload_n 3, 1) := by decide +kernel
theorem dX6_isStable_27 : decode cX6_isStable 27 = .ok (.ifCond .eq 30, 3) := by decide +kernel
theorem dX6_isStable_30 : decode cX6_isStable 30 = .ok (.aload_n 0, 1) := by decide +kernel
theorem dX6_isStable_31 : decode cX6_isStable 31 = .ok (.iload 4, 2) := by decide +kernel
theorem dX6_isStable_33 : decode cX6_isStable 33 = .ok (.bipush 7, 2) := by decide +kernel
theorem dX6_isStable_35 : decode cX6_isStable 35 = .ok (.invokevirtual 37, 3) := by decide +kernel
theorem dX6_isStable_38 : decode cX6_isStable 38 = .ok (.ifCond .eq 15, 3) := by decide +kernel
theorem dX6_isStable_41 : decode cX6_isStable 41 = .ok (.aload_n 0, 1) := by decide +kernel
theorem dX6_isStable_42 : decode cX6_isStable 42 = .ok (.iload 4, 2) := by decide +kernel
theorem dX6_isStable_44 : decode cX6_isStable 44 = .ok (.iconst 3, 1) := by decide +kernel
theorem dX6_isStable_45 : decode cX6_isStable 45 = .ok (.invokevirtual 37, 3) := by decide +kernel
theorem dX6_isStable_48 : decode cX6_isStable 48 = .ok (.iload 5, 2) := by decide +kernel
theorem dX6_isStable_50 : decode cX6_isStable 50 = .ok (.if_icmp .ne 7, 3) := by decide +kernel
theorem dX6_isStable_53 : decode cX6_isStable 53 = .ok (.iconst 1, 1) := by decide +kernel
theorem dX6_isStable_54 : decode cX6_isStable 54 = .ok (.goto 4, 3) := by decide +kernel
theorem dX6_isStable_57 : decode cX6_isStable 57 = .ok (.iconst 0, 1) := by decide +kernel
theorem dX6_isStable_58 : decode cX6_isStable 58 = .ok (.istore_n 3, 1) := by decide +kernel
theorem dX6_isStable_59 : decode cX6_isStable 59 = .ok (.iload_n 2, 1) := by decide +kernel
theorem dX6_isStable_60 : decode cX6_isStable 60 = .ok (.aload_n 0, 1) := by decide +kernel
theorem dX6_isStable_61 : decode cX6_isStable 61 = .ok (.iload 4, 2) := by decide +kernel
theorem dX6_isStable_63 : decode cX6_isStable 63 = .ok (.bipush 6, 2) := by decide +kernel
theorem dX6_isStable_65 : decode cX6_isStable 65 = .ok (.invokevirtual 37, 3) := by decide +kernel
theorem dX6_isStable_68 : decode cX6_isStable 68 = .ok (.iconst 2, 1) := by decide +kernel
theorem dX6_isStable_69 : decode cX6_isStable 69 = .ok (.if_icmp .eq 20, 3) := by decide +kernel
theorem dX6_isStable_72 : decode cX6_isStable 72 = .ok (.aload_n 0, 1) := by decide +kernel
theorem dX6_isStable_73 : decode cX6_isStable 73 = .ok (.iload 4, 2) := by decide +kernel
theorem dX6_isStable_75 : decode cX6_isStable 75 = .ok (.bipush 6, 2) := by decide +kernel
theorem dX6_isStable_77 : decode cX6_isStable 77 = .ok (.invokevirtual 37, 3) := by decide +kernel
theorem dX6_isStable_80 : decode cX6_isStable 80 = .ok (.ifCond .ne 16, 3) := by decide +kernel
theorem dX6_isStable_83 : decode cX6_isStable 83 = .ok (.iload 5, 2) := by decide +kernel
theorem dX6_isStable_85 : decode cX6_isStable 85 = .ok (.iconst 1, 1) := by decide +kernel
theorem dX6_isStable_86 : decode cX6_isStable 86 = .ok (.if_icmp .ne 10, 3) := by decide +kernel
theorem dX6_isStable_89 : decode cX6_isStable 89 = .ok (.iconst 1, 1) := by decide +kernel
theorem dX6_isStable_90 : decode cX6_isStable 90 = .ok (.iload 4, 2) := by decide +kernel
theorem dX6_isStable_92 : decode cX6_isStable 92 = .ok (.ishl, 1) := by decide +kernel
theorem dX6_isStable_93 : decode cX6_isStable 93 = .ok (.goto 4, 3) := by decide +kernel
theorem dX6_isStable_96 : decode cX6_isStable 96 = .ok (.iconst 0, 1) := by decide +kernel
theorem dX6_isStable_97 : decode cX6_isStable 97 = .ok (.ior, 1) := by decide +kernel
theorem dX6_isStable_98 : decode cX6_isStable 98 = .ok (.istore_n 2, 1) := by decide +kernel
theorem dX6_isStable_99 : decode cX6_isStable 99 = .ok (.iinc 4 1, 3) := by decide +kernel
theorem dX6_isStable_102 : decode cX6_isStable 102 = .ok (.goto (-95), 3) := by decide +kernel
theorem dX6_isStable_105 : decode cX6_isStable 105 = .ok (.iconst 0, 1) := by decide +kernel
theorem dX6_isStable_106 : decode cX6_isStable 106 = .ok (.istore 4, 2) := by decide +kernel
theorem dX6_isStable_108 : decode cX6_isStable 108 = .ok (.iload 4, 2) := by decide +kernel
theorem dX6_isStable_110 : decode cX6_isStable 110 = .ok (.aload_n 0, 1) := by decide +kernel
theorem dX6_isStable_111 : decode cX6_isStable 111 = .ok (.getfield 7, 3) := by decide +kernel
theorem dX6_isStable_114 : decode cX6_isStable 114 = .ok (.iconst 1, 1) := by decide +kernel
theorem dX6_isStable_115 : decode cX6_isStable 115 = .ok (.iaload, 1) := by decide +kernel
theorem dX6_isStable_116 : decode cX6_isStable 116 = .ok (.if_icmp .ge 66, 3) := by decide +kernel
theorem dX6_isStable_119 : decode cX6_isStable 119 = .ok (.iload_n 3, 1) := by decide +kernel
theorem dX6_isStable_120 : decode cX6_isStable 120 = .ok (.ifCond .eq 62, 3) := by decide +kernel
theorem dX6_isStable_123 : decode cX6_isStable 123 = .ok (.aload_n 0, 1) := by decide +kernel
theorem dX6_isStable_124 : decode cX6_isStable 124 = .ok (.iload 4, 2) := by decide +kernel
theorem dX6_isStable_126 : decode cX6_isStable 126 = .ok (.bipush 7, 2) := by decide +kernel
theorem dX6_isStable_128 : decode cX6_isStable 128 = .ok (.invokevirtual 37, 3) := by decide +kernel
theorem dX6_isStable_131 : decode cX6_isStable 131 = .ok (.iconst 1, 1) := by decide +kernel
theorem dX6_isStable_132 : decode cX6_isStable 132 = .ok (.if_icmp .eq 38, 3) := by decide +kernel
theorem dX6_isStable_135 : decode cX6_isStable 135 = .ok (.aload_n 0, 1) := by decide +kernel
theorem dX6_isStable_136 : decode cX6_isStable 136 = .ok (.iload 4, 2) := by decide +kernel
theorem dX6_isStable_138 : decode cX6_isStable 138 = .ok (.aload_n 0, 1) := by decide +kernel
theorem dX6_isStable_139 : decode cX6_isStable 139 = .ok (.getfield 7, 3) := by decide +kernel
theorem dX6_isStable_142 : decode cX6_isStable 142 = .ok (.iconst 0, 1) := by decide +kernel
theorem dX6_isStable_143 : decode cX6_isStable 143 = .ok (.iaload, 1) := by decide +kernel
theorem dX6_isStable_144 : decode cX6_isStable 144 = .ok (.iload_n 2, 1) := by decide +kernel
theorem dX6_isStable_145 : decode cX6_isStable 145 = .ok (.bipush 8, 2) := by decide +kernel
theorem dX6_isStable_147 : decode cX6_isStable 147 = .ok (.ishl, 1) := by decide +kernel
theorem dX6_isStable_148 : decode cX6_isStable 148 = .ok (.ior, 1) := by decide +kernel
theorem dX6_isStable_149 : decode cX6_isStable 149 = .ok (.invokevirtual 45, 3) := by decide +kernel
theorem dX6_isStable_152 : decode cX6_isStable 152 = .ok (.iload_n 1, 1) := by decide +kernel
theorem dX6_isStable_153 : decode cX6_isStable 153 = .ok (.iload 4, 2) := by decide +kernel
theorem dX6_isStable_155 : decode cX6_isStable 155 = .ok (.ishr, 1) := by decide +kernel
theorem dX6_isStable_156 : decode cX6_isStable 156 = .ok (.iconst 1, 1) := by decide +kernel
theorem dX6_isStable_157 : decode cX6_isStable 157 = .ok (.iand, 1) := by decide +kernel
theorem dX6_isStable_158 : decode cX6_isStable 158 = .ok (.iconst 1, 1) := by decide +kernel
theorem dX6_isStable_159 : decode cX6_isStable 159 = .ok (.if_icmp .ne 7, 3) := by decide +kernel
theorem dX6_isStable_162 : decode cX6_isStable 162 = .ok (.iconst 1, 1) := by decide +kernel
theorem dX6_isStable_163 : decode cX6_isStable 163 = .ok (.goto 4, 3) := by decide +kernel
theorem dX6_isStable_166 : decode cX6_isStable 166 = .ok (.iconst 0, 1) := by decide +kernel
theorem dX6_isStable_167 : decode cX6_isStable 167 = .ok (.if_icmp .ne 7, 3) := by decide +kernel
theorem dX6_isStable_170 : decode cX6_isStable 170 = .ok (.iconst 1, 1) := by decide +kernel
theorem dX6_isStable_171 : decode cX6_isStable 171 = .ok (.goto 4, 3) := by decide +kernel
theorem dX6_isStable_174 : decode cX6_isStable 174 = .ok (.iconst 0, 1) := by decide +kernel
theorem dX6_isStable_175 : decode cX6_isStable 175 = .ok (.istore_n 3, 1) := by decide +kernel
theorem dX6_isStable_176 : decode cX6_isStable 176 = .ok (.iinc 4 1, 3) := by decide +kernel
theorem dX6_isStable_179 : decode cX6_isStable 179 = .ok (.goto (-71), 3) := by decide +kernel
theorem dX6_isStable_182 : decode cX6_isStable 182 = .ok (.iload_n 3, 1) := by decide +kernel
theorem dX6_isStable_183 : decode cX6_isStable 183 = .ok (.ireturn, 1) := by decide +kernel
theorem dX6_explain_0 : decode cX6_explain 0 = .ok (.iload_n 1, 1) := by decide +kernel
theorem dX6_explain_1 : decode cX6_explain 1 = .ok (.iconst 0, 1) := by decide +kernel
theorem dX6_explain_2 : decode cX6_explain 2 = .ok (.sipush 255, 3) := by decide +kernel
theorem dX6_explain_5 : decode cX6_explain 5 = .ok (.invokestatic 33, 3) := by decide +kernel
theorem dX6_explain_8 : decode cX6_explain 8 = .ok (.ifCond .ne 5, 3) := by decide +kernel
theorem dX6_explain_11 : decode cX6_explain 11 = .ok (.iconst (-1), 1) := by decide +kernel
theorem dX6_explain_12 : decode cX6_explain 12 = .ok (.ireturn, 1) := by decide +kernel
theorem dX6_explain_13 : decode cX6_explain 13 = .ok (.aload_n 0, 1) := by decide +kernel
theorem dX6_explain_14 : decode cX6_explain 14 = .ok (.invokevirtual 118, 3) := by decide +kernel
theorem dX6_explain_17 : decode cX6_explain 17 = .ok (.iconst 0, 1) := by decide +kernel
theorem dX6_explain_18 : decode cX6_explain 18 = .ok (.istore_n 2, 1) := by decide +kernel
theorem dX6_explain_19 : decode cX6_explain 19 = .ok (.iconst 0, 1) := by decide +kernel
theorem dX6_explain_20 : decode cX6_explain 20 = .ok (.istore_n 3, 1) := by decide +kernel
theorem dX6_explain_21 : decode cX6_explain 21 = .ok (.iload_n 3, 1) := by decide +kernel
theorem dX6_explain_22 : decode cX6_explain 22 = .ok (.iconst 2, 1) := by decide +kernel
theorem dX6_explain_23 : decode cX6_explain 23 = .ok (.aload_n 0, 1) := by decide +kernel
theorem dX6_explain_24 : decode cX6_explain 24 = .ok (.getfield 7, 3) := by decide +kernel
theorem dX6_explain_27 : decode cX6_explain 27 = .ok (.iconst 1, 1) := by decide +kernel
theorem dX6_explain_28 : decode cX6_explain 28 = .ok (.iaload, 1) := by decide +kernel
theorem dX6_explain_29 : decode cX6_explain 29 = .ok (.imul, 1) := by decide +kernel
theorem dX6_explain_30 : decode cX6_explain 30 = .ok (.if_icmp .ge 78, 3) := by decide +kernel
theorem dX6_explain_33 : decode cX6_explain 33 = .ok (.aload_n 0, 1) := by decide +kernel
theorem dX6_explain_34 : decode cX6_explain 34 = .ok (.iload_n 3, 1) := by decide +kernel
theorem dX6_explain_35 : decode cX6_explain 35 = .ok (.iconst 2, 1) := by decide +kernel
theorem dX6_explain_36 : decode cX6_explain 36 = .ok (.idiv, 1) := by decide +kernel
theorem dX6_explain_37 : decode cX6_explain 37 = .ok (.bipush 6, 2) := by decide +kernel
theorem dX6_explain_39 : decode cX6_explain 39 = .ok (.invokevirtual 37, 3) := by decide +kernel
theorem dX6_explain_42 : decode cX6_explain 42 = .ok (.ifCond .ne 60, 3) := by decide +kernel
theorem dX6_explain_45 : decode cX6_explain 45 = .ok (.aload_n 0, 1) := by decide +kernel
theorem dX6_explain_46 : decode cX6_explain 46 = .ok (.iload_n 3, 1) := by decide +kernel
theorem dX6_explain_47 : decode cX6_explain 47 = .ok (.iconst 2, 1) := by decide +kernel
theorem dX6_explain_48 : decode cX6_explain 48 = .ok (.idiv, 1) := by decide +kernel
theorem dX6_explain_49 : decode cX6_explain 49 = .ok (.bipush 6, 2) := by decide +kernel
theorem dX6_explain_51 : decode cX6_explain 51 = .ok (.iconst 1, 1) := by decide +kernel
theorem dX6_explain_52 : decode cX6_explain 52 = .ok (.iload_n 3, 1) := by decide +kernel
theorem dX6_explain_53 : decode cX6_explain 53 = .ok (.iconst 2, 1) := by decide +kernel
theorem dX6_explain_54 : decode cX6_explain 54 = .ok (.irem, 1) := by decide +kernel
theorem dX6_explain_55 : decode cX6_explain 55 = .ok (.iadd, 1) := by decide +kernel
theorem dX6_explain_56 : decode cX6_explain 56 = .ok (.invokevirtual 49, 3) := by decide +kernel
theorem dX6_explain_59 : decode cX6_explain 59 = .ok (.aload_n 0, 1) := by decide +kernel
theorem dX6_explain_60 : decode cX6_explain 60 = .ok (.dup, 1) := by decide +kernel
theorem dX6_explain_61 : decode cX6_explain 61 = .ok (.getfield 65, 3) := by decide +kernel
theorem dX6_explain_64 : decode cX6_explain 64 = .ok (.aload_n 0, 1) := by decide +kernel
theorem dX6_explain_65 : decode cX6_explain 65 = .ok (.invokevirtual 68, 3) := by decide +kernel
theorem dX6_explain_68 : decode cX6_explain 68 = .ok (.iadd, 1) := by decide +kernel
theorem dX6_explain_69 : decode cX6_explain 69 = .ok (.putfield 65, 3) := by decide +kernel
theorem dX6_explain_72 : decode cX6_explain 72 = .ok (.iload_n 2, 1) := by decide +kernel
theorem dX6_explain_73 : decode cX6_explain 73 = .ok (.aload_n 0, 1) := by decide +kernel
theorem dX6_explain_74 : decode cX6_explain 74 = .ok (.iconst 0, 1) := by decide +kernel
theorem dX6_explain_75 : decode cX6_explain 75 = .ok (.sipush 200, 3) := by decide +kernel
theorem dX6_explain_78 : decode cX6_explain 78 = .ok (.invokevirtual 138, 3) := by decide +kernel
theorem dX6_explain_81 : decode cX6_explain 81 = .ok (.sipush 256, 3) := by decide +kernel
theorem dX6_explain_84 : decode cX6_explain 84 = .ok (.iload_n 1, 1) := by decide +kernel
theorem dX6_explain_85 : decode cX6_explain 85 = .ok (.iadd, 1) := by decide +kernel
theorem dX6_explain_86 : decode cX6_explain 86 = .ok (.if_icmp .ne 9, 3) := by decide +kernel
theorem dX6_explain_89 : decode cX6_explain 89 = .ok (.iconst 1, 1) := by decide +kernel
theorem dX6_explain_90 : decode cX6_explain 90 = .ok (.iload_n 3, 1) := by decide +kernel
theorem dX6_explain_91 : decode cX6_explain 91 = .ok (.ishl, 1) := by decide +kernel
theorem dX6_explain_92 : decode cX6_explain 92 = .ok (.goto 4, 3) := by decide +kernel
theorem dX6_explain_95 : decode cX6_explain 95 = .ok (.iconst 0, 1) := by decide +kernel
theorem dX6_explain_96 : decode cX6_explain 96 = .ok (.ior, 1) := by decide +kernel
theorem dX6_explain_97 : decode cX6_explain 97 = .ok (.istore_n 2, 1) := by decide +kernel
theorem dX6_explain_98 : decode cX6_explain 98 = .ok (.aload_n 0, 1) := by decide +kernel
theorem dX6_explain_99 : decode cX6_explain 99 = .ok (.invokevirtual 141, 3) := by decide +kernel
theorem dX6_explain_102 : decode cX6_explain 102 = .ok (.iinc 3 1, 3) := by decide +kernel
theorem dX6_explain_105 : decode cX6_explain 105 = .ok (.goto (-84), 3) := by decide +kernel
theorem dX6_explain_108 : decode cX6_explain 108 = .ok (.iload_n 2, 1) := by decide +kernel
theorem dX6_explain_109 : decode cX6_explain 109 = .ok (.ireturn, 1) := by decide +kernel
end
section
theorem dL_law_0 : decode cL_law 0 = .ok (.new 7, 3) := by decide +kernel
theorem dL_law_3 : decode cL_law 3 = .ok (.dup, 1) := by decide +kernel
theorem dL_law_4 : decode cL_law 4 = .ok (.invokespecial 9, 3) := by decide +kernel
theorem dL_law_7 : decode cL_law 7 = .ok (.astore_n 1, 1) := by decide +kernel
theorem dL_law_8 : decode cL_law 8 = .ok (.new 10, 3) := by decide +kernel
theorem dL_law_11 : decode cL_law 11 = .ok (.dup, 1) := by decide +kernel
theorem dL_law_12 : decode cL_law 12 = .ok (.invokespecial 12, 3) := by decide +kernel
theorem dL_law_15 : decode cL_law 15 = .ok (.astore_n 2, 1) := by decide +kernel
theorem dL_law_16 : decode cL_law 16 = .ok (.iconst 0, 1) := by decide +kernel
theorem dL_law_17 : decode cL_law 17 = .ok (.istore_n 3, 1) := by decide +kernel
theorem dL_law_18 : decode cL_law 18 = .ok (.iload_n 3, 1) := by decide +kernel
theorem dL_law_19 : decode cL_law 19 = .ok (.aload_n 0, 1) := by decide +kernel
theorem dL_law_20 : decode cL_law 20 = .ok (.arraylength, 1) := by decide +kernel
theorem dL_law_21 : decode cL_law 21 = .ok (.iconst 5, 1) := by decide +kernel
theorem dL_law_22 : decode cL_law 22 = .ok (.isub, 1) := by decide +kernel
theorem dL_law_23 : decode cL_law 23 = .ok (.if_icmp .gt 799, 3) := by decide +kernel
theorem dL_law_26 : decode cL_law 26 = .ok (.aload_n 0, 1) := by decide +kernel
theorem dL_law_27 : decode cL_law 27 = .ok (.iload_n 3, 1) := by decide +kernel
theorem dL_law_28 : decode cL_law 28 = .ok (.iaload, 1) := by decide +kernel
theorem dL_law_29 : decode cL_law 29 = .ok (.bipush 31, 2) := by decide +kernel
theorem dL_law_31 : decode cL_law 31 = .ok (.iand, 1) := by decide +kernel
theorem dL_law_32 : decode cL_law 32 = .ok (.tableswitch 784 0 23 #[112, 155, 208, 261, 294, 317, 330, 353, 386, 419, 452, 465, 488, 511, 534, 567, 610, 643, 676, 689, 712, 735, 748, 771], 112) := by decide +kernel
theorem dL_law_144 : decode cL_law 144 = .ok (.aload_n 1, 1) := by decide +kernel
theorem dL_law_145 : decode cL_law 145 = .ok (.aload_n 0, 1) := by decide +kernel
theorem dL_law_146 : decode cL_law 146 = .ok (.iload_n 3, 1) := by decide +kernel
theorem dL_law_147 : decode cL_law 147 = .ok (.iconst 1, 1) := by decide +kernel
theorem dL_law_148 : decode cL_law 148 = .ok (.iadd, 1) := by decide +kernel
theorem dL_law_149 : decode cL_law 149 = .ok (.iaload, 1) := by decide +kernel
theorem dL_law_150 : decode cL_law 150 = .ok (.aload_n 0, 1) := by decide +kernel
theorem dL_law_151 : decode cL_law 151 = .ok (.iload_n 3, 1) := by decide +kernel
theorem dL_law_152 : decode cL_law 152 = .ok (.iconst 2, 1) := by decide +kernel
theorem dL_law_153 : decode cL_law 153 = .ok (.iadd, 1) := by decide +kernel
theorem dL_law_154 : decode cL_law 154 = .ok (.iaload, 1) := by decide +kernel
theorem dL_law_155 : decode cL_law 155 = .ok (.aload_n 0, 1) := by decide +kernel
theorem dL_law_156 : decode cL_law 156 = .ok (.iload_n 3, 1) := by decide +kernel
theorem dL_law_157 : decode cL_law 157 = .ok (.iconst 3, 1) := by decide +kernel
theorem dL_law_158 : decode cL_law 158 = .ok (.iadd, 1) := by decide +kernel
theorem dL_law_159 : decode cL_law 159 = .ok (.iaload, 1) := by decide +kernel
theorem dL_law_160 : decode cL_law 160 = .ok (.invokevirtual 13, 3) := by decide +kernel
theorem dL_law_163 : decode cL_law 163 = .ok (.aload_n 2, 1) := by decide +kernel
theorem dL_law_164 : decode cL_law 164 = .ok (.aload_n 0, 1) := by decide +kernel
theorem dL_law_165 : decode cL_law 165 = .ok (.iload_n 3, 1) := by decide +kernel
theorem dL_law_166 : decode cL_law 166 = .ok (.iconst 1, 1) := by decide +kernel
theorem dL_law_167 : decode cL_law 167 = .ok (.iadd, 1) := by decide +kernel
theorem dL_law_168 : decode cL_law 168 = .ok (.iaload, 1) := by decide +kernel
theorem dL_law_169 : decode cL_law 169 = .ok (.aload_n 0, 1) := by decide +kernel
theorem dL_law_170 : decode cL_law 170 = .ok (.iload_n 3, 1) := by decide +kernel
theorem dL_law_171 : decode cL_law 171 = .ok (.iconst 2, 1) := by decide +kernel
theorem dL_law_172 : decode cL_law 172 = .ok (.iadd, 1) := by decide +kernel
theorem dL_law_173 : decode cL_law 173 = .ok (.iaload, 1) := by decide +kernel
theorem dL_law_174 : decode cL_law 174 = .ok (.aload_n 0, 1) := by decide +kernel
theorem dL_law_175 : decode cL_law 175 = .ok (.iload_n 3, 1) := by decide +kernel
theorem dL_law_176 : decode cL_law 176 = .ok (.iconst 3, 1) := by decide +kernel
theorem dL_law_177 : decode cL_law 177 = .ok (.iadd, 1) := by decide +kernel
theorem dL_law_178 : decode cL_law 178 = .ok (.iaload, 1) := by decide +kernel
theorem dL_law_179 : decode cL_law 179 = .ok (.invokevirtual 17, 3) := by decide +kernel
theorem dL_law_182 : decode cL_law 182 = .ok (.if_icmp .eq 634, 3) := by decide +kernel
theorem dL_law_185 : decode cL_law 185 = .ok (.iconst 0, 1) := by decide +kernel
theorem dL_law_186 : decode cL_law 186 = .ok (.ireturn, 1) := by decide +kernel
theorem dL_law_187 : decode cL_law 187 = .ok (.aload_n 1, 1) := by decide +kernel
theorem dL_law_188 : decode cL_law 188 = .ok (.aload_n 0, 1) := by decide +kernel
theorem dL_law_189 : decode cL_law 189 = .ok (.iload_n 3, 1) := by decide +kernel
theorem dL_law_190 : decode cL_law 190 = .ok (.iconst 1, 1) := by decide +kernel
theorem dL_law_191 : decode cL_law 191 = .ok (.iadd, 1) := by decide +kernel
theorem dL_law_192 : decode cL_law 192 = .ok (.iaload, 1) := by decide +kernel
theorem dL_law_193 : decode cL_law 193 = .ok (.aload_n 0, 1) := by decide +kernel
theorem dL_law_194 : decode cL_law 194 = .ok (.iload_n 3, 1) := by decide +kernel
theorem dL_law_195 : decode cL_law 195 = .ok (.iconst 2, 1) := by decide +kernel
theorem dL_law_196 : decode cL_law 196 = .ok (.iadd, 1) := by decide +kernel
theorem dL_law_197 : decode cL_law 197 = .ok (.iaload, 1) := by decide +kernel
theorem dL_law_198 : decode cL_law 198 = .ok (.aload_n 0, 1) := by decide +kernel
theorem dL_law_199 : decode cL_law 199 = .ok (.iload_n 3, 1) := by decide +kernel
theorem dL_law_200 : decode cL_law 200 = .ok (.iconst 3, 1) := by decide +kernel
theorem dL_law_201 : decode cL_law 201 = .ok (.iadd, 1) := by decide +kernel
theorem dL_law_202 : decode cL_law 202 = .ok (.iaload, 1) := by decide +kernel
theorem dL_law_203 : decode cL_law 203 = .ok (.aload_n 0, 1) := by decide +kernel
theorem dL_law_204 : decode cL_law 204 = .ok (.iload_n 3, 1) := by decide +kernel
theorem dL_law_205 : decode cL_law 205 = .ok (.iconst 4, 1) := by decide +kernel
theorem dL_law_206 : decode cL_law 206 = .ok (.iadd, 1) := by decide +kernel
theorem dL_law_207 : decode cL_law 207 = .ok (.iaload, 1) := by decide +kernel
theorem dL_law_208 : decode cL_law 208 = .ok (.invokevirtual 18, 3) := by decide +kernel
theorem dL_law_211 : decode cL_law 211 = .ok (.aload_n 2, 1) := by decide +kernel
theorem dL_law_212 : decode cL_law 212 = .ok (.aload_n 0, 1) := by decide +kernel
theorem dL_law_213 : decode cL_law 213 = .ok (.iload_n 3, 1) := by decide +kernel
theorem dL_law_214 : decode cL_law 214 = .ok (.iconst 1, 1) := by decide +kernel
theorem dL_law_215 : decode cL_law 215 = .ok (.iadd, 1) := by decide +kernel
theorem dL_law_216 : decode cL_law 216 = .ok (.iaload, 1) := by decide +kernel
theorem dL_law_217 : decode cL_law 217 = .ok (.aload_n 0, 1) := by decide +kernel
theorem dL_law_218 : decode cL_law 218 = .ok (.iload_n 3, 1) := by decide +kernel
theorem dL_law_219 : decode cL_law 219 = .ok (.iconst 2, 1) := by decide +kernel
theorem dL_law_220 : decode cL_law 220 = .ok (.iadd, 1) := by decide +kernel
theorem dL_law_221 : decode cL_law 221 = .ok (.iaload, 1) := by decide +kernel
theorem dL_law_222 : decode cL_law 222 = .ok (.aload_n 0, 1) := by decide +kernel
theorem dL_law_223 : decode cL_law 223 = .ok (.iload_n 3, 1) := by decide +kernel
theorem dL_law_224 : decode cL_law 224 = .ok (.iconst 3, 1) := by decide +kernel
theorem dL_law_225 : decode cL_law 225 = .ok (.iadd, 1) := by decide +kernel
theorem dL_law_226 : decode cL_law 226 = .ok (.iaload, 1) := by decide +kernel
theorem dL_law_227 : decode cL_law 227 = .ok (.aload_n 0, 1) := by decide +kernel
theorem dL_law_228 : decode cL_law 228 = .ok (.iload_n 3, 1) := by decide +kernel
theorem dL_law_229 : decode cL_law 229 = .ok (.iconst 4, 1) := by decide +kernel
theorem dL_law_230 : decode cL_law 230 = .ok (.iadd, 1) := by decide +kernel
theorem dL_law_231 : decode cL_law 231 = .ok (.iaload, 1) := by decide +kernel
theorem dL_law_232 : decode cL_law 232 = .ok (.invokevirtual 22, 3) := by decide +kernel
theorem dL_law_235 : decode cL_law 235 = .ok (.if_icmp .eq 581, 3) := by decide +kernel
theorem dL_law_238 : decode cL_law 238 = .ok (.iconst 0, 1) := by decide +kernel
theorem dL_law_239 : decode cL_law 239 = .ok (.ireturn, 1) := by decide +kernel
theorem dL_law_240 : decode cL_law 240 = .ok (.aload_n 1, 1) := by decide +kernel
theorem dL_law_241 : decode cL_law 241 = .ok (.aload_n 0, 1) := by decide +kernel
theorem dL_law_242 : decode cL_law 242 = .ok (.iload_n 3, 1) := by decide +kernel
theorem dL_law_243 : decode cL_law 243 = .ok (.iconst 1, 1) := by decide +kernel
theorem dL_law_244 : decode cL_law 244 = .ok (.iadd, 1) := by decide +kernel
theorem dL_law_245 : decode cL_law 245 = .ok (.iaload, 1) := by decide +kernel
theorem dL_law_246 : decode cL_law 246 = .ok (.aload_n 0, 1) := by decide +kernel
theorem dL_law_247 : decode cL_law 247 = .ok (.iload_n 3, 1) := by decide +kernel
theorem dL_law_248 : decode cL_law 248 = .ok (.iconst 2, 1) := by decide +kernel
theorem dL_law_249 : decode cL_law 249 = .ok (.iadd, 1) := by decide +kernel
theorem dL_law_250 : decode cL_law 250 = .ok (.iaload, 1) := by decide +kernel
theorem dL_law_251 : decode cL_law 251 = .ok (.aload_n 0, 1) := by decide +kernel
theorem dL_law_252 : decode cL_law 252 = .ok (.iload_n 3, 1) := by decide +kernel
theorem dL_law_253 : decode cL_law 253 = .ok (.iconst 3, 1) := by decide +kernel
theorem dL_law_254 : decode cL_law 254 = .ok (.iadd, 1) := by decide +kernel
theorem dL_law_255 : decode cL_law 255 = .ok (.iaload, 1) := by decide +kernel
theorem dL_law_256 : decode cL_law 256 = .ok (.aload_n 0, 1) := by decide +kernel
theorem dL_law_257 : decode cL_law 257 = .ok (.iload_n 3, 1) := by decide +kernel
theorem dL_law_258 : decode cL_law 258 = .ok (.iconst 4, 1) := by decide +kernel
theorem dL_law_259 : decode cL_law 259 = .ok (.iadd, 1) := by decide +kernel
theorem dL_law_260 : decode cL_law 260 = .ok (.iaload, 1) := by decide +kernel
theorem dL_law_261 : decode cL_law 261 = .ok (.invokevirtual 23, 3) := by decide +kernel
theorem dL_law_264 : decode cL_law 264 = .ok (.aload_n 2, 1) := by decide +kernel
theorem dL_law_265 : decode cL_law 265 = .ok (.aload_n 0, 1) := by decide +kernel
theorem dL_law_266 : decode cL_law 266 = .ok (.iload_n 3, 1) := by decide +kernel
theorem dL_law_267 : decode cL_law 267 = .ok (.iconst 1, 1) := by decide +kernel
theorem dL_law_268 : decode cL_law 268 = .ok (.iadd, 1) := by decide +kernel
theorem dL_law_269 : decode cL_law 269 = .ok (.iaload, 1) := by decide +kernel
theorem dL_law_270 : decode cL_law 270 = .ok (.aload_n 0, 1) := by decide +kernel
theorem dL_law_271 : decode cL_law 271 = .ok (.iload_n 3, 1) := by decide +kernel
theorem dL_law_272 : decode cL_law 272 = .ok (.iconst 2, 1) := by decide +kernel
theorem dL_law_273 : decode cL_law 273 = .ok (.iadd, 1) := by decide +kernel
theorem dL_law_274 : decode cL_law 274 = .ok (.iaload, 1) := by decide +kernel
theorem dL_law_275 : decode cL_law 275 = .ok (.aload_n 0, 1) := by decide +kernel
theorem dL_law_276 : decode cL_law 276 = .ok (.iload_n 3, 1) := by decide +kernel
theorem dL_law_277 : decode cL_law 277 = .ok (.iconst 3, 1) := by decide +kernel
theorem dL_law_278 : decode cL_law 278 = .ok (.iadd, 1) := by decide +kernel
theorem dL_law_279 : decode cL_law 279 = .ok (.iaload, 1) := by decide +kernel
theorem dL_law_280 : decode cL_law 280 = .ok (.aload_n 0, 1) := by decide +kernel
theorem dL_law_281 : decode cL_law 281 = .ok (.iload_n 3, 1) := by decide +kernel
theorem dL_law_282 : decode cL_law 282 = .ok (.iconst 4, 1) := by decide +kernel
theorem dL_law_283 : decode cL_law 283 = .ok (.iadd, 1) := by decide +kernel
theorem dL_law_284 : decode cL_law 284 = .ok (.iaload, 1) := by decide +kernel
theorem dL_law_285 : decode cL_law 285 = .ok (.invokevirtual 26, 3) := by decide +kernel
theorem dL_law_288 : decode cL_law 288 = .ok (.if_icmp .eq 528, 3) := by decide +kernel
theorem dL_law_291 : decode cL_law 291 = .ok (.iconst 0, 1) := by decide +kernel
theorem dL_law_292 : decode cL_law 292 = .ok (.ireturn, 1) := by decide +kernel
theorem dL_law_293 : decode cL_law 293 = .ok (.aload_n 1, 1) := by decide +kernel
theorem dL_law_294 : decode cL_law 294 = .ok (.aload_n 0, 1) := by decide +kernel
theorem dL_law_295 : decode cL_law 295 = .ok (.iload_n 3, 1) := by decide +kernel
theorem dL_law_296 : decode cL_law 296 = .ok (.iconst 1, 1) := by decide +kernel
theorem dL_law_297 : decode cL_law 297 = .ok (.iadd, 1) := by decide +kernel
theorem dL_law_298 : decode cL_law 298 = .ok (.iaload, 1) := by decide +kernel
theorem dL_law_299 : decode cL_law 299 = .ok (.aload_n 0, 1) := by decide +kernel
theorem dL_law_300 : decode cL_law 300 = .ok (.iload_n 3, 1) := by decide +kernel
theorem dL_law_301 : decode cL_law 301 = .ok (.iconst 2, 1) := by decide +kernel
theorem dL_law_302 : decode cL_law 302 = .ok (.iadd, 1) := by decide +kernel
theorem dL_law_303 : decode cL_law 303 = .ok (.iaload, 1) := by decide +kernel
theorem dL_law_304 : decode cL_law 304 = .ok (.invokevirtual 27, 3) := by decide +kernel
theorem dL_law_307 : decode cL_law 307 = .ok (.aload_n 2, 1) := by decide +kernel
theorem dL_law_308 : decode cL_law 308 = .ok (.aload_n 0, 1) := by decide +kernel
theorem dL_law_309 : decode cL_law 309 = .ok (.iload_n 3, 1) := by decide +kernel
theorem dL_law_310 : decode cL_law 310 = .ok (.iconst 1, 1) := by decide +kernel
theorem dL_law_311 : decode cL_law 311 = .ok (.iadd, 1) := by decide +kernel
theorem dL_law_312 : decode cL_law 312 = .ok (.iaload, 1) := by decide +kernel
theorem dL_law_313 : decode cL_law 313 = .ok (.aload_n 0, 1) := by decide +kernel
theorem dL_law_314 : decode cL_law 314 = .ok (.iload_n 3, 1) := by decide +kernel
theorem dL_law_315 : decode cL_law 315 = .ok (.iconst 2, 1) := by decide +kernel
theorem dL_law_316 : decode cL_law 316 = .ok (.iadd, 1) := by decide +kernel
theorem dL_law_317 : decode cL_law 317 = .ok (.iaload, 1) := by decide +kernel
theorem dL_law_318 : decode cL_law 318 = .ok (.invokevirtual 31, 3) := by decide +kernel
theorem dL_law_321 : decode cL_law 321 = .ok (.if_icmp .eq 495, 3) := by decide +kernel
theorem dL_law_324 : decode cL_law 324 = .ok (.iconst 0, 1) := by decide +kernel
theorem dL_law_325 : decode cL_law 325 = .ok (.ireturn, 1) := by decide +kernel
theorem dL_law_326 : decode cL_law 326 = .ok (.aload_n 1, 1) := by decide +kernel
theorem dL_law_327 : decode cL_law 327 = .ok (.aload_n 0, 1) := by decide +kernel
theorem dL_law_328 : decode cL_law 328 = .ok (.iload_n 3, 1) := by decide +kernel
theorem dL_law_329 : decode cL_law 329 = .ok (.iconst 1, 1) := by decide +kernel
theorem dL_law_330 : decode cL_law 330 = .ok (.iadd, 1) := by decide +kernel
theorem dL_law_331 : decode cL_law 331 = .ok (.iaload, 1) := by decide +kernel
theorem dL_law_332 : decode cL_law 332 = .ok (.invokevirtual 32, 3) := by decide +kernel
theorem dL_law_335 : decode cL_law 335 = .ok (.aload_n 2, 1) := by decide +kernel
theorem dL_law_336 : decode cL_law 336 = .ok (.aload_n 0, 1) := by decide +kernel
theorem dL_law_337 : decode cL_law 337 = .ok (.iload_n 3, 1) := by decide +kernel
theorem dL_law_338 : decode cL_law 338 = .ok (.iconst 1, 1) := by decide +kernel
theorem dL_law_339 : decode cL_law 339 = .ok (.iadd, 1) := by decide +kernel
theorem dL_law_340 : decode cL_law 340 = .ok (.iaload, 1) := by decide +kernel
theorem dL_law_341 : decode cL_law 341 = .ok (.invokevirtual 36, 3) := by decide +kernel
theorem dL_law_344 : decode cL_law 344 = .ok (.if_icmp .eq 472, 3) := by decide +kernel
theorem dL_law_347 : decode cL_law 347 = .ok (.iconst 0, 1) := by decide +kernel
theorem dL_law_348 : decode cL_law 348 = .ok (.ireturn, 1) := by decide +kernel
theorem dL_law_349 : decode cL_law 349 = .ok (.aload_n 1, 1) := by decide +kernel
theorem dL_law_350 : decode cL_law 350 = .ok (.invokevirtual 37, 3) := by decide +kernel
theorem dL_law_353 : decode cL_law 353 = .ok (.aload_n 2, 1) := by decide +kernel
theorem dL_law_354 : decode cL_law 354 = .ok (.invokevirtual 41, 3) := by decide +kernel
theorem dL_law_357 : decode cL_law 357 = .ok (.if_icmp .eq 459, 3) := by decide +kernel
theorem dL_law_360 : decode cL_law 360 = .ok (.iconst 0, 1) := by decide +kernel
theorem dL_law_361 : decode cL_law 361 = .ok (.ireturn, 1) := by decide +kernel
theorem dL_law_362 : decode cL_law 362 = .ok (.aload_n 1, 1) := by decide +kernel
theorem dL_law_363 : decode cL_law 363 = .ok (.aload_n 0, 1) := by decide +kernel
theorem dL_law_364 : decode cL_law 364 = .ok (.iload_n 3, 1) := by decide +kernel
theorem dL_law_365 : decode cL_law 365 = .ok (.iconst 1, 1) := by decide +kernel
theorem dL_law_366 : decode cL_law 366 = .ok (.iadd, 1) := by decide +kernel
theorem dL_law_367 : decode cL_law 367 = .ok (.iaload, 1) := by decide +kernel
theorem dL_law_368 : decode cL_law 368 = .ok (.invokevirtual 42, 3) := by decide +kernel
theorem dL_law_371 : decode cL_law 371 = .ok (.aload_n 2, 1) := by decide +kernel
theorem dL_law_372 : decode cL_law 372 = .ok (.aload_n 0, 1) := by decide +kernel
theorem dL_law_373 : decode cL_law 373 = .ok (.iload_n 3, 1) := by decide +kernel
theorem dL_law_374 : decode cL_law 374 = .ok (.iconst 1, 1) := by decide +kernel
theorem dL_law_375 : decode cL_law 375 = .ok (.iadd, 1) := by decide +kernel
theorem dL_law_376 : decode cL_law 376 = .ok (.iaload, 1) := by decide +kernel
theorem dL_law_377 : decode cL_law 377 = .ok (.invokevirtual 45, 3) := by decide +kernel
theorem dL_law_380 : decode cL_law 380 = .ok (.if_icmp .eq 436, 3) := by decide +kernel
theorem dL_law_383 : decode cL_law 383 = .ok (.iconst 0, 1) := by decide +kernel
theorem dL_law_384 : decode cL_law 384 = .ok (.ireturn, 1) := by decide +kernel
theorem dL_law_385 : decode cL_law 385 = .ok (.aload_n 1, 1) := by decide +kernel
theorem dL_law_386 : decode cL_law 386 = .ok (.aload_n 0, 1) := by decide +kernel
theorem dL_law_387 : decode cL_law 387 = .ok (.iload_n 3, 1) := by decide +kernel
theorem dL_law_388 : decode cL_law 388 = .ok (.iconst 1, 1) := by decide +kernel
theorem dL_law_389 : decode cL_law 389 = .ok (.iadd, 1) := by decide +kernel
theorem dL_law_390 : decode cL_law 390 = .ok (.iaload, 1) := by decide +kernel
theorem dL_law_391 : decode cL_law 391 = .ok (.aload_n 0, 1) := by decide +kernel
theorem dL_law_392 : decode cL_law 392 = .ok (.iload_n 3, 1) := by decide +kernel
theorem dL_law_393 : decode cL_law 393 = .ok (.iconst 2, 1) := by decide +kernel
theorem dL_law_394 : decode cL_law 394 = .ok (.iadd, 1) := by decide +kernel
theorem dL_law_395 : decode cL_law 395 = .ok (.iaload, 1) := by decide +kernel
theorem dL_law_396 : decode cL_law 396 = .ok (.invokevirtual 46, 3) := by decide +kernel
theorem dL_law_399 : decode cL_law 399 = .ok (.aload_n 2, 1) := by decide +kernel
theorem dL_law_400 : decode cL_law 400 = .ok (.aload_n 0, 1) := by decide +kernel
theorem dL_law_401 : decode cL_law 401 = .ok (.iload_n 3, 1) := by decide +kernel
theorem dL_law_402 : decode cL_law 402 = .ok (.iconst 1, 1) := by decide +kernel
theorem dL_law_403 : decode cL_law 403 = .ok (.iadd, 1) := by decide +kernel
theorem dL_law_404 : decode cL_law 404 = .ok (.iaload, 1) := by decide +kernel
theorem dL_law_405 : decode cL_law 405 = .ok (.aload_n 0, 1) := by decide +kernel
theorem dL_law_406 : decode cL_law 406 = .ok (.iload_n 3, 1) := by decide +kernel
theorem dL_law_407 : decode cL_law 407 = .ok (.iconst 2, 1) := by decide +kernel
theorem dL_law_408 : decode cL_law 408 = .ok (.iadd, 1) := by decide +kernel
theorem dL_law_409 : decode cL_law 409 = .ok (.iaload, 1) := by decide +kernel
theorem dL_law_410 : decode cL_law 410 = .ok (.invokevirtual 49, 3) := by decide +kernel
theorem dL_law_413 : decode cL_law 413 = .ok (.if_icmp .eq 403, 3) := by decide +kernel
theorem dL_law_416 : decode cL_law 416 = .ok (.iconst 0, 1) := by decide +kernel
theorem dL_law_417 : decode cL_law 417 = .ok (.ireturn, 1) := by decide +kernel
theorem dL_law_418 : decode cL_law 418 = .ok (.aload_n 1, 1) := by decide +kernel
theorem dL_law_419 : decode cL_law 419 = .ok (.aload_n 0, 1) := by decide +kernel
theorem dL_law_420 : decode cL_law 420 = .ok (.iload_n 3, 1) := by decide +kernel
theorem dL_law_421 : decode cL_law 421 = .ok (.iconst 1, 1) := by decide +kernel
theorem dL_law_422 : decode cL_law 422 = .ok (.iadd, 1) := by decide +kernel
theorem dL_law_423 : decode cL_law 423 = .ok (.iaload, 1) := by decide +kernel
theorem dL_law_424 : decode cL_law 424 = .ok (.aload_n 0, 1) := by decide +kernel
theorem dL_law_425 : decode cL_law 425 = .ok (.iload_n 3, 1) := by decide +kernel
theorem dL_law_426 : decode cL_law 426 = .ok (.iconst 2, 1) := by decide +kernel
theorem dL_law_427 : decode cL_law 427 = .ok (.iadd, 1) := by decide +kernel
theorem dL_law_428 : decode cL_law 428 = .ok (.iaload, 1) := by decide +kernel
theorem dL_law_429 : decode cL_law 429 = .ok (.invokevirtual 50, 3) := by decide +kernel
theorem dL_law_432 : decode cL_law 432 = .ok (.aload_n 2, 1) := by decide +kernel
theorem dL_law_433 : decode cL_law 433 = .ok (.aload_n 0, 1) := by decide +kernel
theorem dL_law_434 : decode cL_law 434 = .ok (.iload_n 3, 1) := by decide +kernel
theorem dL_law_435 : decode cL_law 435 = .ok (.iconst 1, 1) := by decide +kernel
theorem dL_law_436 : decode cL_law 436 = .ok (.iadd, 1) := by decide +kernel
theorem dL_law_437 : decode cL_law 437 = .ok (.iaload, 1) := by decide +kernel
theorem dL_law_438 : decode cL_law 438 = .ok (.aload_n 0, 1) := by decide +kernel
theorem dL_law_439 : decode cL_law 439 = .ok (.iload_n 3, 1) := by decide +kernel
theorem dL_law_440 : decode cL_law 440 = .ok (.iconst 2, 1) := by decide +kernel
theorem dL_law_441 : decode cL_law 441 = .ok (.iadd, 1) := by decide +kernel
theorem dL_law_442 : decode cL_law 442 = .ok (.iaload, 1) := by decide +kernel
theorem dL_law_443 : decode cL_law 443 = .ok (.invokevirtual 53, 3) := by decide +kernel
theorem dL_law_446 : decode cL_law 446 = .ok (.if_icmp .eq 370, 3) := by decide +kernel
theorem dL_law_449 : decode cL_law 449 = .ok (.iconst 0, 1) := by decide +kernel
theorem dL_law_450 : decode cL_law 450 = .ok (.ireturn, 1) := by decide +kernel
theorem dL_law_451 : decode cL_law 451 = .ok (.aload_n 1, 1) := by decide +kernel
theorem dL_law_452 : decode cL_law 452 = .ok (.aload_n 0, 1) := by decide +kernel
theorem dL_law_453 : decode cL_law 453 = .ok (.iload_n 3, 1) := by decide +kernel
theorem dL_law_454 : decode cL_law 454 = .ok (.iconst 1, 1) := by decide +kernel
theorem dL_law_455 : decode cL_law 455 = .ok (.iadd, 1) := by decide +kernel
end
section
theorem dL_law_456 : decode cL_law 456 = .ok (.iaload, 1) := by decide +kernel
theorem dL_law_457 : decode cL_law 457 = .ok (.aload_n 0, 1) := by decide +kernel
theorem dL_law_458 : decode cL_law 458 = .ok (.iload_n 3, 1) := by decide +kernel
theorem dL_law_459 : decode cL_law 459 = .ok (.iconst 2, 1) := by decide +kernel
theorem dL_law_460 : decode cL_law 460 = .ok (.iadd, 1) := by decide +kernel
theorem dL_law_461 : decode cL_law 461 = .ok (.iaload, 1) := by decide +kernel
theorem dL_law_462 : decode cL_law 462 = .ok (.invokevirtual 54, 3) := by decide +kernel
theorem dL_law_465 : decode cL_law 465 = .ok (.aload_n 2, 1) := by decide +kernel
theorem dL_law_466 : decode cL_law 466 = .ok (.aload_n 0, 1) := by decide +kernel
theorem dL_law_467 : decode cL_law 467 = .ok (.iload_n 3, 1) := by decide +kernel
theorem dL_law_468 : decode cL_law 468 = .ok (.iconst 1, 1) := by decide +kernel
theorem dL_law_469 : decode cL_law 469 = .ok (.iadd, 1) := by decide +kernel
theorem dL_law_470 : decode cL_law 470 = .ok (.iaload, 1) := by decide +kernel
theorem dL_law_471 : decode cL_law 471 = .ok (.aload_n 0, 1) := by decide +kernel
theorem dL_law_472 : decode cL_law 472 = .ok (.iload_n 3, 1) := by decide +kernel
theorem dL_law_473 : decode cL_law 473 = .ok (.iconst 2, 1) := by decide +kernel
theorem dL_law_474 : decode cL_law 474 = .ok (.iadd, 1) := by decide +kernel
theorem dL_law_475 : decode cL_law 475 = .ok (.iaload, 1) := by decide +kernel
theorem dL_law_476 : decode cL_law 476 = .ok (.invokevirtual 57, 3) := by decide +kernel
theorem dL_law_479 : decode cL_law 479 = .ok (.if_icmp .eq 337, 3) := by decide +kernel
theorem dL_law_482 : decode cL_law 482 = .ok (.iconst 0, 1) := by decide +kernel
theorem dL_law_483 : decode cL_law 483 = .ok (.ireturn, 1) := by decide +kernel
theorem dL_law_484 : decode cL_law 484 = .ok (.aload_n 1, 1) := by decide +kernel
theorem dL_law_485 : decode cL_law 485 = .ok (.invokevirtual 58, 3) := by decide +kernel
theorem dL_law_488 : decode cL_law 488 = .ok (.aload_n 2, 1) := by decide +kernel
theorem dL_law_489 : decode cL_law 489 = .ok (.invokevirtual 61, 3) := by decide +kernel
theorem dL_law_492 : decode cL_law 492 = .ok (.if_icmp .eq 324, 3) := by decide +kernel
theorem dL_law_495 : decode cL_law 495 = .ok (.iconst 0, 1) := by decide +kernel
theorem dL_law_496 : decode cL_law 496 = .ok (.ireturn, 1) := by decide +kernel
theorem dL_law_497 : decode cL_law 497 = .ok (.aload_n 1, 1) := by decide +kernel
theorem dL_law_498 : decode cL_law 498 = .ok (.aload_n 0, 1) := by decide +kernel
theorem dL_law_499 : decode cL_law 499 = .ok (.iload_n 3, 1) := by decide +kernel
theorem dL_law_500 : decode cL_law 500 = .ok (.iconst 1, 1) := by decide +kernel
theorem dL_law_501 : decode cL_law 501 = .ok (.iadd, 1) := by decide +kernel
theorem dL_law_502 : decode cL_law 502 = .ok (.iaload, 1) := by decide +kernel
theorem dL_law_503 : decode cL_law 503 = .ok (.invokevirtual 62, 3) := by decide +kernel
theorem dL_law_506 : decode cL_law 506 = .ok (.aload_n 2, 1) := by decide +kernel
theorem dL_law_507 : decode cL_law 507 = .ok (.aload_n 0, 1) := by decide +kernel
theorem dL_law_508 : decode cL_law 508 = .ok (.iload_n 3, 1) := by decide +kernel
theorem dL_law_509 : decode cL_law 509 = .ok (.iconst 1, 1) := by decide +kernel
theorem dL_law_510 : decode cL_law 510 = .ok (.iadd, 1) := by decide +kernel
theorem dL_law_511 : decode cL_law 511 = .ok (.iaload, 1) := by decide +kernel
theorem dL_law_512 : decode cL_law 512 = .ok (.invokevirtual 65, 3) := by decide +kernel
theorem dL_law_515 : decode cL_law 515 = .ok (.if_icmp .eq 301, 3) := by decide +kernel
theorem dL_law_518 : decode cL_law 518 = .ok (.iconst 0, 1) := by decide +kernel
theorem dL_law_519 : decode cL_law 519 = .ok (.ireturn, 1) := by decide +kernel
theorem dL_law_520 : decode cL_law 520 = .ok (.aload_n 1, 1) := by decide +kernel
theorem dL_law_521 : decode cL_law 521 = .ok (.aload_n 0, 1) := by decide +kernel
theorem dL_law_522 : decode cL_law 522 = .ok (.iload_n 3, 1) := by decide +kernel
theorem dL_law_523 : decode cL_law 523 = .ok (.iconst 1, 1) := by decide +kernel
theorem dL_law_524 : decode cL_law 524 = .ok (.iadd, 1) := by decide +kernel
theorem dL_law_525 : decode cL_law 525 = .ok (.iaload, 1) := by decide +kernel
theorem dL_law_526 : decode cL_law 526 = .ok (.invokevirtual 66, 3) := by decide +kernel
theorem dL_law_529 : decode cL_law 529 = .ok (.aload_n 2, 1) := by decide +kernel
theorem dL_law_530 : decode cL_law 530 = .ok (.aload_n 0, 1) := by decide +kernel
theorem dL_law_531 : decode cL_law 531 = .ok (.iload_n 3, 1) := by decide +kernel
theorem dL_law_532 : decode cL_law 532 = .ok (.iconst 1, 1) := by decide +kernel
theorem dL_law_533 : decode cL_law 533 = .ok (.iadd, 1) := by decide +kernel
theorem dL_law_534 : decode cL_law 534 = .ok (.iaload, 1) := by decide +kernel
theorem dL_law_535 : decode cL_law 535 = .ok (.invokevirtual 69, 3) := by decide +kernel
theorem dL_law_538 : decode cL_law 538 = .ok (.if_icmp .eq 278, 3) := by decide +kernel
theorem dL_law_541 : decode cL_law 541 = .ok (.iconst 0, 1) := by decide +kernel
theorem dL_law_542 : decode cL_law 542 = .ok (.ireturn, 1) := by decide +kernel
theorem dL_law_543 : decode cL_law 543 = .ok (.aload_n 1, 1) := by decide +kernel
theorem dL_law_544 : decode cL_law 544 = .ok (.aload_n 0, 1) := by decide +kernel
theorem dL_law_545 : decode cL_law 545 = .ok (.iload_n 3, 1) := by decide +kernel
theorem dL_law_546 : decode cL_law 546 = .ok (.iconst 1, 1) := by decide +kernel
theorem dL_law_547 : decode cL_law 547 = .ok (.iadd, 1) := by decide +kernel
theorem dL_law_548 : decode cL_law 548 = .ok (.iaload, 1) := by decide +kernel
theorem dL_law_549 : decode cL_law 549 = .ok (.invokevirtual 70, 3) := by decide +kernel
theorem dL_law_552 : decode cL_law 552 = .ok (.aload_n 2, 1) := by decide +kernel
theorem dL_law_553 : decode cL_law 553 = .ok (.aload_n 0, 1) := by decide +kernel
theorem dL_law_554 : decode cL_law 554 = .ok (.iload_n 3, 1) := by decide +kernel
theorem dL_law_555 : decode cL_law 555 = .ok (.iconst 1, 1) := by decide +kernel
theorem dL_law_556 : decode cL_law 556 = .ok (.iadd, 1) := by decide +kernel
theorem dL_law_557 : decode cL_law 557 = .ok (.iaload, 1) := by decide +kernel
theorem dL_law_558 : decode cL_law 558 = .ok (.invokevirtual 73, 3) := by decide +kernel
theorem dL_law_561 : decode cL_law 561 = .ok (.if_icmp .eq 255, 3) := by decide +kernel
theorem dL_law_564 : decode cL_law 564 = .ok (.iconst 0, 1) := by decide +kernel
theorem dL_law_565 : decode cL_law 565 = .ok (.ireturn, 1) := by decide +kernel
theorem dL_law_566 : decode cL_law 566 = .ok (.aload_n 1, 1) := by decide +kernel
theorem dL_law_567 : decode cL_law 567 = .ok (.aload_n 0, 1) := by decide +kernel
theorem dL_law_568 : decode cL_law 568 = .ok (.iload_n 3, 1) := by decide +kernel
theorem dL_law_569 : decode cL_law 569 = .ok (.iconst 1, 1) := by decide +kernel
theorem dL_law_570 : decode cL_law 570 = .ok (.iadd, 1) := by decide +kernel
theorem dL_law_571 : decode cL_law 571 = .ok (.iaload, 1) := by decide +kernel
theorem dL_law_572 : decode cL_law 572 = .ok (.aload_n 0, 1) := by decide +kernel
theorem dL_law_573 : decode cL_law 573 = .ok (.iload_n 3, 1) := by decide +kernel
theorem dL_law_574 : decode cL_law 574 = .ok (.iconst 2, 1) := by decide +kernel
theorem dL_law_575 : decode cL_law 575 = .ok (.iadd, 1) := by decide +kernel
theorem dL_law_576 : decode cL_law 576 = .ok (.iaload, 1) := by decide +kernel
theorem dL_law_577 : decode cL_law 577 = .ok (.invokevirtual 74, 3) := by decide +kernel
theorem dL_law_580 : decode cL_law 580 = .ok (.aload_n 2, 1) := by decide +kernel
theorem dL_law_581 : decode cL_law 581 = .ok (.aload_n 0, 1) := by decide +kernel
theorem dL_law_582 : decode cL_law 582 = .ok (.iload_n 3, 1) := by decide +kernel
theorem dL_law_583 : decode cL_law 583 = .ok (.iconst 1, 1) := by decide +kernel
theorem dL_law_584 : decode cL_law 584 = .ok (.iadd, 1) := by decide +kernel
theorem dL_law_585 : decode cL_law 585 = .ok (.iaload, 1) := by decide +kernel
theorem dL_law_586 : decode cL_law 586 = .ok (.aload_n 0, 1) := by decide +kernel
theorem dL_law_587 : decode cL_law 587 = .ok (.iload_n 3, 1) := by decide +kernel
theorem dL_law_588 : decode cL_law 588 = .ok (.iconst 2, 1) := by decide +kernel
theorem dL_law_589 : decode cL_law 589 = .ok (.iadd, 1) := by decide +kernel
theorem dL_law_590 : decode cL_law 590 = .ok (.iaload, 1) := by decide +kernel
theorem dL_law_591 : decode cL_law 591 = .ok (.invokevirtual 77, 3) := by decide +kernel
theorem dL_law_594 : decode cL_law 594 = .ok (.if_icmp .eq 222, 3) := by decide +kernel
theorem dL_law_597 : decode cL_law 597 = .ok (.iconst 0, 1) := by decide +kernel
theorem dL_law_598 : decode cL_law 598 = .ok (.ireturn, 1) := by decide +kernel
theorem dL_law_599 : decode cL_law 599 = .ok (.aload_n 1, 1) := by decide +kernel
theorem dL_law_600 : decode cL_law 600 = .ok (.aload_n 0, 1) := by decide +kernel
theorem dL_law_601 : decode cL_law 601 = .ok (.iload_n 3, 1) := by decide +kernel
theorem dL_law_602 : decode cL_law 602 = .ok (.iconst 1, 1) := by decide +kernel
theorem dL_law_603 : decode cL_law 603 = .ok (.iadd, 1) := by decide +kernel
theorem dL_law_604 : decode cL_law 604 = .ok (.iaload, 1) := by decide +kernel
theorem dL_law_605 : decode cL_law 605 = .ok (.aload_n 0, 1) := by decide +kernel
theorem dL_law_606 : decode cL_law 606 = .ok (.iload_n 3, 1) := by decide +kernel
theorem dL_law_607 : decode cL_law 607 = .ok (.iconst 2, 1) := by decide +kernel
theorem dL_law_608 : decode cL_law 608 = .ok (.iadd, 1) := by decide +kernel
theorem dL_law_609 : decode cL_law 609 = .ok (.iaload, 1) := by decide +kernel
theorem dL_law_610 : decode cL_law 610 = .ok (.aload_n 0, 1) := by decide +kernel
theorem dL_law_611 : decode cL_law 611 = .ok (.iload_n 3, 1) := by decide +kernel
theorem dL_law_612 : decode cL_law 612 = .ok (.iconst 3, 1) := by decide +kernel
theorem dL_law_613 : decode cL_law 613 = .ok (.iadd, 1) := by decide +kernel
theorem dL_law_614 : decode cL_law 614 = .ok (.iaload, 1) := by decide +kernel
theorem dL_law_615 : decode cL_law 615 = .ok (.invokevirtual 78, 3) := by decide +kernel
theorem dL_law_618 : decode cL_law 618 = .ok (.aload_n 2, 1) := by decide +kernel
theorem dL_law_619 : decode cL_law 619 = .ok (.aload_n 0, 1) := by decide +kernel
theorem dL_law_620 : decode cL_law 620 = .ok (.iload_n 3, 1) := by decide +kernel
theorem dL_law_621 : decode cL_law 621 = .ok (.iconst 1, 1) := by decide +kernel
theorem dL_law_622 : decode cL_law 622 = .ok (.iadd, 1) := by decide +kernel
theorem dL_law_623 : decode cL_law 623 = .ok (.iaload, 1) := by decide +kernel
theorem dL_law_624 : decode cL_law 624 = .ok (.aload_n 0, 1) := by decide +kernel
theorem dL_law_625 : decode cL_law 625 = .ok (.iload_n 3, 1) := by decide +kernel
theorem dL_law_626 : decode cL_law 626 = .ok (.iconst 2, 1) := by decide +kernel
theorem dL_law_627 : decode cL_law 627 = .ok (.iadd, 1) := by decide +kernel
theorem dL_law_628 : decode cL_law 628 = .ok (.iaload, 1) := by decide +kernel
theorem dL_law_629 : decode cL_law 629 = .ok (.aload_n 0, 1) := by decide +kernel
theorem dL_law_630 : decode cL_law 630 = .ok (.iload_n 3, 1) := by decide +kernel
theorem dL_law_631 : decode cL_law 631 = .ok (.iconst 3, 1) := by decide +kernel
theorem dL_law_632 : decode cL_law 632 = .ok (.iadd, 1) := by decide +kernel
theorem dL_law_633 : decode cL_law 633 = .ok (.iaload, 1) := by decide +kernel
theorem dL_law_634 : decode cL_law 634 = .ok (.invokevirtual 81, 3) := by decide +kernel
theorem dL_law_637 : decode cL_law 637 = .ok (.if_icmp .eq 179, 3) := by decide +kernel
theorem dL_law_640 : decode cL_law 640 = .ok (.iconst 0, 1) := by decide +kernel
theorem dL_law_641 : decode cL_law 641 = .ok (.ireturn, 1) := by decide +kernel
theorem dL_law_642 : decode cL_law 642 = .ok (.aload_n 1, 1) := by decide +kernel
theorem dL_law_643 : decode cL_law 643 = .ok (.aload_n 0, 1) := by decide +kernel
theorem dL_law_644 : decode cL_law 644 = .ok (.iload_n 3, 1) := by decide +kernel
theorem dL_law_645 : decode cL_law 645 = .ok (.iconst 1, 1) := by decide +kernel
theorem dL_law_646 : decode cL_law 646 = .ok (.iadd, 1) := by decide +kernel
theorem dL_law_647 : decode cL_law 647 = .ok (.iaload, 1) := by decide +kernel
theorem dL_law_648 : decode cL_law 648 = .ok (.aload_n 0, 1) := by decide +kernel
theorem dL_law_649 : decode cL_law 649 = .ok (.iload_n 3, 1) := by decide +kernel
theorem dL_law_650 : decode cL_law 650 = .ok (.iconst 2, 1) := by decide +kernel
theorem dL_law_651 : decode cL_law 651 = .ok (.iadd, 1) := by decide +kernel
theorem dL_law_652 : decode cL_law 652 = .ok (.iaload, 1) := by decide +kernel
theorem dL_law_653 : decode cL_law 653 = .ok (.invokevirtual 82, 3) := by decide +kernel
theorem dL_law_656 : decode cL_law 656 = .ok (.aload_n 2, 1) := by decide +kernel
theorem dL_law_657 : decode cL_law 657 = .ok (.aload_n 0, 1) := by decide +kernel
theorem dL_law_658 : decode cL_law 658 = .ok (.iload_n 3, 1) := by decide +kernel
theorem dL_law_659 : decode cL_law 659 = .ok (.iconst 1, 1) := by decide +kernel
theorem dL_law_660 : decode cL_law 660 = .ok (.iadd, 1) := by decide +kernel
theorem dL_law_661 : decode cL_law 661 = .ok (.iaload, 1) := by decide +kernel
theorem dL_law_662 : decode cL_law 662 = .ok (.aload_n 0, 1) := by decide +kernel
theorem dL_law_663 : decode cL_law 663 = .ok (.iload_n 3, 1) := by decide +kernel
theorem dL_law_664 : decode cL_law 664 = .ok (.iconst 2, 1) := by decide +kernel
theorem dL_law_665 : decode cL_law 665 = .ok (.iadd, 1) := by decide +kernel
theorem dL_law_666 : decode cL_law 666 = .ok (.iaload, 1) := by decide +kernel
theorem dL_law_667 : decode cL_law 667 = .ok (.invokevirtual 85, 3) := by decide +kernel
theorem dL_law_670 : decode cL_law 670 = .ok (.if_icmp .eq 146, 3) := by decide +kernel
theorem dL_law_673 : decode cL_law 673 = .ok (.iconst 0, 1) := by decide +kernel
theorem dL_law_674 : decode cL_law 674 = .ok (.ireturn, 1) := by decide +kernel
theorem dL_law_675 : decode cL_law 675 = .ok (.aload_n 1, 1) := by decide +kernel
theorem dL_law_676 : decode cL_law 676 = .ok (.aload_n 0, 1) := by decide +kernel
theorem dL_law_677 : decode cL_law 677 = .ok (.iload_n 3, 1) := by decide +kernel
theorem dL_law_678 : decode cL_law 678 = .ok (.iconst 1, 1) := by decide +kernel
theorem dL_law_679 : decode cL_law 679 = .ok (.iadd, 1) := by decide +kernel
theorem dL_law_680 : decode cL_law 680 = .ok (.iaload, 1) := by decide +kernel
theorem dL_law_681 : decode cL_law 681 = .ok (.aload_n 0, 1) := by decide +kernel
theorem dL_law_682 : decode cL_law 682 = .ok (.iload_n 3, 1) := by decide +kernel
theorem dL_law_683 : decode cL_law 683 = .ok (.iconst 2, 1) := by decide +kernel
theorem dL_law_684 : decode cL_law 684 = .ok (.iadd, 1) := by decide +kernel
theorem dL_law_685 : decode cL_law 685 = .ok (.iaload, 1) := by decide +kernel
theorem dL_law_686 : decode cL_law 686 = .ok (.invokevirtual 86, 3) := by decide +kernel
theorem dL_law_689 : decode cL_law 689 = .ok (.aload_n 2, 1) := by decide +kernel
theorem dL_law_690 : decode cL_law 690 = .ok (.aload_n 0, 1) := by decide +kernel
theorem dL_law_691 : decode cL_law 691 = .ok (.iload_n 3, 1) := by decide +kernel
theorem dL_law_692 : decode cL_law 692 = .ok (.iconst 1, 1) := by decide +kernel
theorem dL_law_693 : decode cL_law 693 = .ok (.iadd, 1) := by decide +kernel
theorem dL_law_694 : decode cL_law 694 = .ok (.iaload, 1) := by decide +kernel
theorem dL_law_695 : decode cL_law 695 = .ok (.aload_n 0, 1) := by decide +kernel
theorem dL_law_696 : decode cL_law 696 = .ok (.iload_n 3, 1) := by decide +kernel
theorem dL_law_697 : decode cL_law 697 = .ok (.iconst 2, 1) := by decide +kernel
theorem dL_law_698 : decode cL_law 698 = .ok (.iadd, 1) := by decide +kernel
theorem dL_law_699 : decode cL_law 699 = .ok (.iaload, 1) := by decide +kernel
theorem dL_law_700 : decode cL_law 700 = .ok (.invokevirtual 89, 3) := by decide +kernel
theorem dL_law_703 : decode cL_law 703 = .ok (.if_icmp .eq 113, 3) := by decide +kernel
theorem dL_law_706 : decode cL_law 706 = .ok (.iconst 0, 1) := by decide +kernel
theorem dL_law_707 : decode cL_law 707 = .ok (.ireturn, 1) := by decide +kernel
theorem dL_law_708 : decode cL_law 708 = .ok (.aload_n 1, 1) := by decide +kernel
theorem dL_law_709 : decode cL_law 709 = .ok (.invokevirtual 90, 3) := by decide +kernel
theorem dL_law_712 : decode cL_law 712 = .ok (.aload_n 2, 1) := by decide +kernel
theorem dL_law_713 : decode cL_law 713 = .ok (.invokevirtual 93, 3) := by decide +kernel
theorem dL_law_716 : decode cL_law 716 = .ok (.if_icmp .eq 100, 3) := by decide +kernel
theorem dL_law_719 : decode cL_law 719 = .ok (.iconst 0, 1) := by decide +kernel
theorem dL_law_720 : decode cL_law 720 = .ok (.ireturn, 1) := by decide +kernel
theorem dL_law_721 : decode cL_law 721 = .ok (.aload_n 1, 1) := by decide +kernel
theorem dL_law_722 : decode cL_law 722 = .ok (.aload_n 0, 1) := by decide +kernel
theorem dL_law_723 : decode cL_law 723 = .ok (.iload_n 3, 1) := by decide +kernel
theorem dL_law_724 : decode cL_law 724 = .ok (.iconst 1, 1) := by decide +kernel
theorem dL_law_725 : decode cL_law 725 = .ok (.iadd, 1) := by decide +kernel
theorem dL_law_726 : decode cL_law 726 = .ok (.iaload, 1) := by decide +kernel
theorem dL_law_727 : decode cL_law 727 = .ok (.invokevirtual 94, 3) := by decide +kernel
theorem dL_law_730 : decode cL_law 730 = .ok (.aload_n 2, 1) := by decide +kernel
theorem dL_law_731 : decode cL_law 731 = .ok (.aload_n 0, 1) := by decide +kernel
theorem dL_law_732 : decode cL_law 732 = .ok (.iload_n 3, 1) := by decide +kernel
theorem dL_law_733 : decode cL_law 733 = .ok (.iconst 1, 1) := by decide +kernel
theorem dL_law_734 : decode cL_law 734 = .ok (.iadd, 1) := by decide +kernel
theorem dL_law_735 : decode cL_law 735 = .ok (.iaload, 1) := by decide +kernel
theorem dL_law_736 : decode cL_law 736 = .ok (.invokevirtual 97, 3) := by decide +kernel
theorem dL_law_739 : decode cL_law 739 = .ok (.if_icmp .eq 77, 3) := by decide +kernel
theorem dL_law_742 : decode cL_law 742 = .ok (.iconst 0, 1) := by decide +kernel
theorem dL_law_743 : decode cL_law 743 = .ok (.ireturn, 1) := by decide +kernel
theorem dL_law_744 : decode cL_law 744 = .ok (.aload_n 1, 1) := by decide +kernel
theorem dL_law_745 : decode cL_law 745 = .ok (.aload_n 0, 1) := by decide +kernel
theorem dL_law_746 : decode cL_law 746 = .ok (.iload_n 3, 1) := by decide +kernel
theorem dL_law_747 : decode cL_law 747 = .ok (.iconst 1, 1) := by decide +kernel
theorem dL_law_748 : decode cL_law 748 = .ok (.iadd, 1) := by decide +kernel
theorem dL_law_749 : decode cL_law 749 = .ok (.iaload, 1) := by decide +kernel
theorem dL_law_750 : decode cL_law 750 = .ok (.invokevirtual 98, 3) := by decide +kernel
theorem dL_law_753 : decode cL_law 753 = .ok (.aload_n 2, 1) := by decide +kernel
theorem dL_law_754 : decode cL_law 754 = .ok (.aload_n 0, 1) := by decide +kernel
theorem dL_law_755 : decode cL_law 755 = .ok (.iload_n 3, 1) := by decide +kernel
theorem dL_law_756 : decode cL_law 756 = .ok (.iconst 1, 1) := by decide +kernel
theorem dL_law_757 : decode cL_law 757 = .ok (.iadd, 1) := by decide +kernel
theorem dL_law_758 : decode cL_law 758 = .ok (.iaload, 1) := by decide +kernel
theorem dL_law_759 : decode cL_law 759 = .ok (.invokevirtual 101, 3) := by decide +kernel
theorem dL_law_762 : decode cL_law 762 = .ok (.if_icmp .eq 54, 3) := by decide +kernel
theorem dL_law_765 : decode cL_law 765 = .ok (.iconst 0, 1) := by decide +kernel
theorem dL_law_766 : decode cL_law 766 = .ok (.ireturn, 1) := by decide +kernel
theorem dL_law_767 : decode cL_law 767 = .ok (.aload_n 1, 1) := by decide +kernel
theorem dL_law_768 : decode cL_law 768 = .ok (.invokevirtual 102, 3) := by decide +kernel
theorem dL_law_771 : decode cL_law 771 = .ok (.aload_n 2, 1) := by decide +kernel
theorem dL_law_772 : decode cL_law 772 = .ok (.invokevirtual 105, 3) := by decide +kernel
theorem dL_law_775 : decode cL_law 775 = .ok (.if_icmp .eq 41, 3) := by decide +kernel
theorem dL_law_778 : decode cL_law 778 = .ok (.iconst 0, 1) := by decide +kernel
theorem dL_law_779 : decode cL_law 779 = .ok (.ireturn, 1) := by decide +kernel
theorem dL_law_780 : decode cL_law 780 = .ok (.aload_n 1, 1) := by decide +kernel
theorem dL_law_781 : decode cL_law 781 = .ok (.aload_n 0, 1) := by decide +kernel
theorem dL_law_782 : decode cL_law 782 = .ok (.iload_n 3, 1) := by decide +kernel
theorem dL_law_783 : decode cL_law 783 = .ok (.iconst 1, 1) := by decide +kernel
theorem dL_law_784 : decode cL_law 784 = .ok (.iadd, 1) := by decide +kernel
theorem dL_law_785 : decode cL_law 785 = .ok (.iaload, 1) := by decide +kernel
theorem dL_law_786 : decode cL_law 786 = .ok (.invokevirtual 106, 3) := by decide +kernel
theorem dL_law_789 : decode cL_law 789 = .ok (.aload_n 2, 1) := by decide +kernel
theorem dL_law_790 : decode cL_law 790 = .ok (.aload_n 0, 1) := by decide +kernel
theorem dL_law_791 : decode cL_law 791 = .ok (.iload_n 3, 1) := by decide +kernel
theorem dL_law_792 : decode cL_law 792 = .ok (.iconst 1, 1) := by decide +kernel
theorem dL_law_793 : decode cL_law 793 = .ok (.iadd, 1) := by decide +kernel
theorem dL_law_794 : decode cL_law 794 = .ok (.iaload, 1) := by decide +kernel
theorem dL_law_795 : decode cL_law 795 = .ok (.invokevirtual 109, 3) := by decide +kernel
theorem dL_law_798 : decode cL_law 798 = .ok (.if_icmp .eq 18, 3) := by decide +kernel
theorem dL_law_801 : decode cL_law 801 = .ok (.iconst 0, 1) := by decide +kernel
theorem dL_law_802 : decode cL_law 802 = .ok (.ireturn, 1) := by decide +kernel
theorem dL_law_803 : decode cL_law 803 = .ok (.aload_n 1, 1) := by decide +kernel
theorem dL_law_804 : decode cL_law 804 = .ok (.invokevirtual 110, 3) := by decide +kernel
theorem dL_law_807 : decode cL_law 807 = .ok (.aload_n 2, 1) := by decide +kernel
theorem dL_law_808 : decode cL_law 808 = .ok (.invokevirtual 113, 3) := by decide +kernel
theorem dL_law_811 : decode cL_law 811 = .ok (.if_icmp .eq 5, 3) := by decide +kernel
theorem dL_law_814 : decode cL_law 814 = .ok (.iconst 0, 1) := by decide +kernel
theorem dL_law_815 : decode cL_law 815 = .ok (.ireturn, 1) := by decide +kernel
theorem dL_law_816 : decode cL_law 816 = .ok (.iinc 3 5, 3) := by decide +kernel
theorem dL_law_819 : decode cL_law 819 = .ok (.goto (-801), 3) := by decide +kernel
theorem dL_law_822 : decode cL_law 822 = .ok (.iconst 1, 1) := by decide +kernel
theorem dL_law_823 : decode cL_law 823 = .ok (.ireturn, 1) := by decide +kernel
end
section
/-! An abstract machine: values and cells without addresses, a world of n cells as a function. A walk of one method is a predicate Γ of the place, the locals, the stack, the room used, and the world: 'from here the method ends as it must'. Each row below turns Γ at an instruction into Γ at the next one. -/
abbrev AV : Type := Option (Int32 ⊕ Option Nat)
abbrev aI (x : Int32) : AV := some (.inl x)
abbrev aR (k : Nat) : AV := some (.inr (some k))
abbrev aN : AV := some (.inr none)
def rv (ad : Nat → Nat) : AV → Value
  | some (.inl x) => .int x
  | some (.inr (some k)) => .ref (ad k)
  | some (.inr none) => .null
  | none => .null
abbrev AC : Type := (Nat × Nat × (Nat → Int32)) ⊕ ((Nat × (Nat → Option Nat)) ⊕ (Nat × List AV))
abbrev cArr (t n : Nat) (f : Nat → Int32) : AC := .inl (t, n, f)
abbrev cRef (n : Nat) (f : Nat → Option Nat) : AC := .inr (.inl (n, f))
abbrev cObj (ci : Nat) (fs : List AV) : AC := .inr (.inr (ci, fs))
def rc (cT : Nat → ClassId) (ad : Nat → Nat) : AC → va_E
  | .inl (t, n, f) => .inl (cT t, n, .inl f)
  | .inr (.inl (n, f)) => .inl (cT 3, n, .inr (.inr (.inr (.inr (fun j => (f j).map ad)))))
  | .inr (.inr (ci, fs)) => .inr (ci, fs.map (rv ad))
theorem rv_cat (ad : Nat → Nat) (v : AV) : (rv ad v).category = 1 := by
  rcases v with _ | x | _ | k <;> rfl
theorem rv_sum (ad : Nat → Nat) : ∀ st : List AV, ((st.map (rv ad)).map fun v => v.category).sum = st.length
  | [] => rfl
  | v :: st => by
    have h := rv_sum ad st
    simp only [List.map_cons, List.sum_cons, List.length_cons, rv_cat] at h ⊢
    omega
def tysG (cT : Nat → ClassId) : List (ClassId × FieldType) := [(cT 0, .int), (cT 1, .byte), (cT 2, .char), (cT 3, .object "RelayBank$Bank")]
def wsW (cT : Nat → ClassId) (ad : Nat → Nat) (n : Nat) (w : Nat → AC) : va_W := (List.range n).map fun k => (ad k, rc cT ad (w k))
def upw (w : Nat → AC) (k : Nat) (c : AC) : Nat → AC := fun j => if j = k then c else w j
theorem upw_self (w : Nat → AC) (k : Nat) (c : AC) : upw w k c k = c := by simp [upw]
theorem upw_ne (w : Nat → AC) (k : Nat) (c : AC) {j : Nat} (h : j ≠ k) : upw w k c j = w j := by simp [upw, h]
theorem wsW_get {cT : Nat → ClassId} {ad : Nat → Nat} {n k : Nat} {w : Nat → AC} (h : k < n) : (wsW cT ad n w)[k]? = some (ad k, rc cT ad (w k)) := by
  simp [wsW, h]
theorem wsW_set {cT : Nat → ClassId} {ad : Nat → Nat} {n k : Nat} {w : Nat → AC} (c : AC) (h : k < n) : (wsW cT ad n w).set k (ad k, rc cT ad c) = wsW cT ad n (upw w k c) := by
  apply List.ext_getElem?
  intro i
  rw [List.getElem?_set]
  by_cases hi : k = i
  · subst hi
    simp [wsW, upw, h]
  · by_cases hn : i < n
    · rw [if_neg hi, wsW_get hn, wsW_get hn, upw_ne _ _ _ (Ne.symm hi)]
    · simp [wsW, hi, hn]
theorem wsW_push {cT : Nat → ClassId} {ad ad' : Nat → Nat} {n q : Nat} {w : Nat → AC} (c : AC) (hq : ad' n = q) (ho : ∀ j, j < n → ad' j = ad j) (hc : ∀ k, k < n → rc cT ad' (w k) = rc cT ad (w k)) : wsW cT ad n w ++ [(q, rc cT ad' c)] = wsW cT ad' (n + 1) (upw w n c) := by
  apply List.ext_getElem?
  intro i
  have hl : (wsW cT ad n w).length = n := by simp [wsW]
  by_cases hn : i < n
  · rw [List.getElem?_append_left (by rw [hl]; exact hn), wsW_get hn, wsW_get (by omega), upw_ne _ _ _ (by omega), ho i hn, hc i hn]
  · rw [List.getElem?_append_right (by rw [hl]; omega), hl]
    by_cases he : i = n
    · subst he
      rw [wsW_get (by omega), upw_self, hq, Nat.sub_self]
      rfl
    · rw [List.getElem?_eq_none (by simp; omega), List.getElem?_eq_none (by simp [wsW]; omega)]
/-- the words that a method's own class may use of a nest mate's private members -/
def nestG : List (String × Nat × MethodName) := [(RX0, 65, yX5_isWithin), (RX0, 73, yX5_at), (RX0, 77, yX5_put), (RX0, 106, yX5_isIn), (RX2, 52, yX5_put), (RX2, 60, yX5_at), (RX2, 74, yX5_isWithin), (RX5, 25, yX4_init), (RX5, 32, yX2_init)]
def KK (D : va_G) (cT : Nat → ClassId) (U : State) : Prop := va_K D vwCl (tysG cT) U ∧ va_AO "RelayBank$Bank" U ∧ ∀ q ∈ nestG, va_Nw (.methodLinkNest q.1 q.2.1 q.2.2 "RelayBank") U
theorem KK.warm {D : va_G} {cT : Nat → ClassId} {s U : State} (hW : s.WarmedH U.vm) (h : KK D cT s) : KK D cT U := ⟨va_K.moved hW.alike h.1, va_AO.moved hW.alike h.2.1, fun q hq => va_Nw.warmM hW (h.2.2 q hq)⟩
theorem KK.same {D : va_G} {cT : Nat → ClassId} {u U : State} (e : u.vm = U.vm) (h : KK D cT u) : KK D cT U := by
  have ha : u.vm.Alike U.vm := by rw [e]; exact Vm.Alike.refl U.vm
  exact ⟨va_K.moved ha h.1, va_AO.moved ha h.2.1, fun q hq => va_Nw.same rfl e (h.2.2 q hq)⟩
/-- addresses: more cells may have come, the old ones stay -/
def Ex (n0 : Nat) (ad0 : Nat → Nat) (n : Nat) (ad : Nat → Nat) : Prop := (n = n0 → ad = ad0) ∧ n0 ≤ n ∧ ∀ j, j < n0 → ad j = ad0 j
theorem Ex.rf {n : Nat} {ad : Nat → Nat} : Ex n ad n ad := ⟨fun _ => rfl, Nat.le_refl _, fun _ _ => rfl⟩
theorem Ex.tr {n0 n1 n2 : Nat} {a0 a1 a2 : Nat → Nat} (h : Ex n0 a0 n1 a1) (g : Ex n1 a1 n2 a2) : Ex n0 a0 n2 a2 := by
  obtain ⟨h1, h2, h3⟩ := h
  obtain ⟨g1, g2, g3⟩ := g
  refine ⟨fun e => ?_, by omega, fun j hj => (g3 j (by omega)).trans (h3 j hj)⟩
  rw [g1 (by omega), h1 (by omega)]
def Rp (D : va_G) (cT : Nat → ClassId) (A : Nat → Prop) (s : State) (ad : Nat → Nat) (n : Nat) (w : Nat → AC) (H : Heap) (locs : List Loc) : Prop := va_P D vwCl (wsW cT ad n w) H ∧ va_D A (wsW cT ad n w) ∧ va_S A s.heap H locs
def lg (L : List AV) (i : Nat) : AV := L.getD i none
def Lc (ad : Nat → Nat) (mL : Nat) (L : List AV) (ls : Array Slot) : Prop := ls.size = mL ∧ lv_wf ls ∧ ∀ i x, lg L i = some x → ls[i]? = some (.val (rv ad (some x)))
def lprs (ad : Nat → Nat) (L : List AV) : List (Nat × Value) := (List.range L.length).filterMap fun i => (lg L i).map fun x => (i, rv ad (some x))
theorem lg_lt {L : List AV} {i : Nat} {x : Int32 ⊕ Option Nat} (h : lg L i = some x) : i < L.length := by
  rcases Nat.lt_or_ge i L.length with q | q
  · exact q
  · unfold lg at h
    rw [List.getD_eq_getElem?_getD, List.getElem?_eq_none q] at h
    cases h
theorem lprs_mem {ad : Nat → Nat} {L : List AV} {q : Nat × Value} : q ∈ lprs ad L ↔ ∃ x, lg L q.1 = some x ∧ q.2 = rv ad (some x) := by
  unfold lprs
  rw [List.mem_filterMap]
  constructor
  · rintro ⟨i, -, h⟩
    cases hx : lg L i with
    | none => rw [hx] at h; cases h
    | some x => rw [hx] at h; cases h; exact ⟨x, hx, rfl⟩
  · rintro ⟨x, h1, h2⟩
    refine ⟨q.1, List.mem_range.mpr (lg_lt h1), ?_⟩
    rw [h1]
    show some (q.1, rv ad (some x)) = some q
    rw [← h2]
theorem Lc.has {ad : Nat → Nat} {mL : Nat} {L : List AV} {ls : Array Slot} (h : Lc ad mL L ls) : lv_has ls mL (lprs ad L) := by
  refine ⟨h.1, h.2.1, fun q hq => ?_⟩
  obtain ⟨x, h1, h2⟩ := lprs_mem.mp hq
  rw [h.2.2 q.1 x h1, h2]
theorem lg_set (L : List AV) (k i : Nat) (v : AV) : lg (L.set k v) i = if i = k ∧ k < L.length then v else lg L i := by
  unfold lg
  rw [List.getD_eq_getElem?_getD, List.getElem?_set, List.getD_eq_getElem?_getD]
  by_cases h : k = i
  · subst h
    by_cases hl : k < L.length
    · simp [hl]
    · simp [hl]
  · rw [if_neg h, if_neg (fun q => h q.1.symm)]
theorem Lc.set {ad : Nat → Nat} {mL : Nat} {L : List AV} {ls' : Array Slot} {k : Nat} {v : AV} (h' : lv_has ls' mL ((k, rv ad v) :: (lprs ad L).filter (fun q => !(q.1 == k) && !(q.1 + 1 == k && q.2.category == 2)))) : Lc ad mL (L.set k v) ls' := by
  refine ⟨h'.1, h'.2.1, fun i x hx => ?_⟩
  rw [lg_set] at hx
  by_cases hi : i = k ∧ k < L.length
  · rw [if_pos hi] at hx
    obtain ⟨rfl, -⟩ := hi
    have h2 := h'.2.2 (i, rv ad v) List.mem_cons_self
    rw [← hx]
    exact h2
  · rw [if_neg hi] at hx
    have hk : ¬ i = k := fun e => hi ⟨e, by have := lg_lt hx; omega⟩
    refine h'.2.2 (i, rv ad (some x)) (List.mem_cons_of_mem _ (List.mem_filter.mpr ⟨lprs_mem.mpr ⟨x, hx, rfl⟩, ?_⟩))
    simp [hk, rv_cat]
theorem lg_sl_len (ad : Nat → Nat) : ∀ as : List AV, (lg_sl (as.map (rv ad))).length = as.length
  | [] => rfl
  | v :: as => by
    have h := lg_sl_len ad as
    unfold lg_sl at h ⊢
    simp only [List.map_cons, List.flatMap_cons, List.length_append, h, rv_cat]
    simp
    omega
theorem lv_args_mem (ad : Nat → Nat) : ∀ (as : List AV) (j i : Nat) (x : Int32 ⊕ Option Nat), lg as i = some x → (j + i, rv ad (some x)) ∈ lv_args j (as.map (rv ad))
  | [], j, i, x, h => absurd (lg_lt h) (by simp)
  | v :: as, j, 0, x, h => by
    have e : v = some x := h
    subst e
    exact List.mem_cons_self
  | v :: as, j, i + 1, x, h => by
    have h2 : lg as i = some x := by
      unfold lg at h ⊢
      rw [List.getD_eq_getElem?_getD] at h ⊢
      simpa using h
    have h3 := lv_args_mem ad as (j + 1) i x h2
    show _ ∈ (j, rv ad v) :: lv_args (if (rv ad v).category = 2 then j + 2 else j + 1) (as.map (rv ad))
    rw [if_neg (by rw [rv_cat]; decide), show j + (i + 1) = j + 1 + i by omega]
    exact List.mem_cons_of_mem _ h3
theorem lg_app (as : List AV) (k i : Nat) (x : Int32 ⊕ Option Nat) (h : lg (as ++ List.replicate k none) i = some x) : lg as i = some x := by
  unfold lg at h ⊢
  rw [List.getD_eq_getElem?_getD] at h ⊢
  by_cases hl : i < as.length
  · rw [List.getElem?_append_left hl] at h
    exact h
  · rw [List.getElem?_append_right (by omega), List.getElem?_replicate] at h
    split at h <;> simp at h
theorem Lc.entry (ad : Nat → Nat) {mL : Nat} (as : List AV) (h : as.length ≤ mL) : Lc ad mL (as ++ List.replicate (mL - as.length) none) ((lg_sl (as.map (rv ad)) ++ List.replicate (mL - (lg_sl (as.map (rv ad))).length) Slot.unset).toArray) := by
  have h1 := lv_entry (as.map (rv ad)) (n := mL) (by rw [lg_sl_len]; exact h)
  refine ⟨h1.1, h1.2.1, fun i x hx => ?_⟩
  have h2 := lv_args_mem ad as 0 i x (lg_app as _ i x hx)
  rw [Nat.zero_add] at h2
  exact h1.2.2 _ h2
abbrev Gm : Type := Nat → List AV → List AV → Nat × Nat → Nat → (Nat → AC) → Prop
def rmd (d mc ms : Nat) : Room := { frames := d, cells := mc, slots := ms, locals := 37 * d }
/-- what a walk stands on: its method, its code, the machine, the tables' words, the room -/
def Ok (Γ : Gm) (l : Launch) (y : MethodName) (cc : ByteArray) (mL d mc ms : Nat) : Prop :=
  ∃ (p : Program) (e : Env) (s : State) (m : MethodId) (args : Array Value) (below : List Frame) (meth : Method) (c : Code) (D : va_G) (cT : Nat → ClassId) (A : Nat → Prop) (Q : State → Prop) (n0 : Nat) (ad0 : Nat → Nat) (R : Room),
    Γ = (fun pc L st cs n w => ∀ (ad : Nat → Nat) (H : Heap) (locs : List Loc) (ls : Array Slot), Ex n0 ad0 n ad → Rp D cT A s ad n w H locs → Lc ad mL L ls → W p l e R s m args below meth c H locs cs.1 cs.2 Q (F0 m pc ls (st.map (rv ad)))) ∧
    p.tables.exec = Jvm.exec ∧ c.code = cc ∧ c.maxLocals = mL ∧ s.vm.findClass y.cls = some m.cls ∧ meth.name = y.name ∧ (∀ w ∈ wsL_law, w.before args s = true) ∧ KK D cT s ∧ (∀ q : Nat, s.heap.size ≤ q → A q) ∧
    d ≤ R.frames ∧ 37 * d ≤ R.locals ∧ R.cells = mc ∧ R.slots = ms
def PcW (D : va_G) (cT : Nat → ClassId) (ad : Nat → Nat) (sz : Nat) (as : List AV) (n : Nat) (w : Nat → AC) : Array Value → State → Prop := va_Pc (as.map (rv ad)) (fun U => U.heap.size = sz ∧ va_P D vwCl (wsW cT ad n w) U.heap ∧ KK D cT U ∧ va_D (fun _ => True) (wsW cT ad n w))
def QcW (D : va_G) (cT : Nat → ClassId) (ad : Nat → Nat) (sz : Nat) (n : Nat) (w : Nat → AC) (Qa : Option AV → Nat → (Nat → AC) → Prop) : Array Value → State → Outcome → State → Prop := fun _ st oc t =>
  (∃ (r : Option AV) (ad' : Nat → Nat) (n' : Nat) (w' : Nat → AC), oc = .returned (r.map (rv ad')) ∧ Qa r n' w' ∧ Ex n ad n' ad' ∧ va_P D vwCl (wsW cT ad' n' w') t.heap ∧ va_D (va_A (wsW cT ad n w) sz) (wsW cT ad' n' w')) ∧ va_F (va_A (wsW cT ad n w) sz) st t
/-- a method's contract: from these arguments and this world it returns, and Qa holds of its answer and the world -/
def Sp (l : Launch) (y : MethodName) (cc : ByteArray) (mL : Nat) (ret : Option FieldType) (d mc ms : Nat) (as : List AV) (n : Nat) (w : Nat → AC) (Qa : Option AV → Nat → (Nat → AC) → Prop) : Prop :=
  ∀ (D : va_G) (cT : Nat → ClassId) (ad : Nat → Nat) (sz : Nat), Met l y (Cond.code y cc mL ret :: wsL_law) (rmd d mc ms) (PcW D cT ad sz as n w) (QcW D cT ad sz n w Qa) mc ms (va_A (wsW cT ad n w) sz)
/-- how a walk may end -/
def Rt (Γ : Gm) (cc : ByteArray) (ret : Option FieldType) (mc ms : Nat) (Qa : Option AV → Nat → (Nat → AC) → Prop) : Prop :=
  (∀ (pc : Nat) (L : List AV) (x : Int32) (cs : Nat × Nat) (n : Nat) (w : Nat → AC), decode cc pc = .ok (.ireturn, 1) → (∃ ty, ret = some ty ∧ narrow ty (.int x) = .int x) → cs.1 ≤ mc → cs.2 ≤ ms → Qa (some (aI x)) n w → Γ pc L [aI x] cs n w) ∧
  (∀ (pc : Nat) (L : List AV) (cs : Nat × Nat) (n : Nat) (w : Nat → AC), decode cc pc = .ok (.return_, 1) → ret = none → cs.1 ≤ mc → cs.2 ≤ ms → Qa none n w → Γ pc L [] cs n w) ∧
  (∀ (pc : Nat) (L : List AV) (v : Option Nat) (cs : Nat × Nat) (n : Nat) (w : Nat → AC), decode cc pc = .ok (.areturn, 1) → (∃ C, ret = some (.object C)) → cs.1 ≤ mc → cs.2 ≤ ms → Qa (some (some (.inr v))) n w → Γ pc L [some (.inr v)] cs n w)
theorem Sp.of {l : Launch} {y : MethodName} {cc : ByteArray} {mL : Nat} {ret : Option FieldType} {d mc ms : Nat} {as : List AV} {n : Nat} {w : Nat → AC} {Qa : Option AV → Nat → (Nat → AC) → Prop} (hy : plainFor y = true) (hlen : as.length ≤ mL)
    (body : ∀ Γ : Gm, Ok Γ l y cc mL d mc ms → Rt Γ cc ret mc ms Qa → Γ 0 (as ++ List.replicate (mL - as.length) none) [] (0, 0) n w) : Sp l y cc mL ret d mc ms as n w Qa := by
  intro D cT ad sz
  refine va_MetF (cc := cc) (maxL := mL) (ret := ret) hy rfl ?_
  intro p e s m args below meth c s₁ B hml hv
  obtain ⟨rfl, hsz, hP, hK, hD0⟩ := hv
  have hx := B.exec
  have hb := B.bytes
  have hr := B.returns
  have hts := atoms_spec (ws := Cond.code y cc mL ret :: wsL_law) B.pre
  have hown : s.vm.findClass y.cls = some m.cls := findClass_of_methodNamed B.named
  have hlocks := B.notSynchronized
  have hin : meth.name = y.name := (name_of_methodNamed B.named B.method).1
  subst hsz
  have hD := hD0.self (sz := s.heap.size)
  have hts' : ∀ w ∈ wsL_law, w.before (as.map (rv ad)).toArray s = true := fun w hw => hts w (List.mem_cons_of_mem _ hw)
  have key := body (fun pc L st cs n' w' => ∀ (ad' : Nat → Nat) (H : Heap) (locs : List Loc) (ls : Array Slot), Ex n ad n' ad' → Rp D cT (va_A (wsW cT ad n w) s.heap.size) s ad' n' w' H locs → Lc ad' mL L ls → W p l e (headSpec (Cond.code y cc mL ret :: wsL_law) (rmd d mc ms)).room s m (as.map (rv ad)).toArray below meth c H locs cs.1 cs.2 (MQ below (QcW D cT ad s.heap.size n w Qa) (as.map (rv ad)).toArray s mc ms (va_A (wsW cT ad n w) s.heap.size)) (F0 m pc ls (st.map (rv ad'))))
    ⟨p, e, s, m, _, below, meth, c, D, cT, _, _, n, ad, _, rfl, hx, hb, hml, hown, hin, hts', hK, fun q h => Or.inr h, Nat.le_refl _, Nat.le_refl _, rfl, rfl⟩ ⟨?_, ?_, ?_⟩
  · rw [lg_entry_eq]
    exact key ad s.heap [] _ Ex.rf ⟨hP, hD, va_S.rf⟩ (Lc.entry ad as hlen)
  · intro pc L x cs n' w' hd ⟨ty, hty, hn⟩ hc1 hc2 hq ad' H locs ls hE hR hL
    obtain ⟨hP1, hD1, hS1⟩ := hR
    refine W.widen hc1 hc2 ?_
    exact W.zret (v := x) (ty := ty) hx hb (by rw [hr]; exact hty) hn (fun t ht hW => ⟨⟨some (aI x), ad', n', w', rfl, hq, hE, by rw [ht]; exact hP1, hD1⟩, hS1.F ht⟩) hS1.2.2 hd
  · intro pc L cs n' w' hd hret hc1 hc2 hq ad' H locs ls hE hR hL
    obtain ⟨hP1, hD1, hS1⟩ := hR
    refine W.widen hc1 hc2 ?_
    exact W.vret hx hb (by rw [hr]; exact hret) (fun t ht hW => ⟨⟨none, ad', n', w', rfl, hq, hE, by rw [ht]; exact hP1, hD1⟩, hS1.F ht⟩) hS1.2.2 hd
  · intro pc L v cs n' w' hd ⟨C, hret⟩ hc1 hc2 hq ad' H locs ls hE hR hL
    obtain ⟨hP1, hD1, hS1⟩ := hR
    refine W.widen hc1 hc2 ?_
    exact W.aret (v := rv ad' (some (.inr v))) (rt := .object C) hx hb (by rw [hr]; exact hret) (Or.inl ⟨C, rfl⟩) (by cases v with | none => exact Or.inl rfl | some k => exact Or.inr ⟨ad' k, rfl⟩) (fun t ht hW => ⟨⟨some (some (.inr v)), ad', n', w', rfl, hq, hE, by rw [ht]; exact hP1, hD1⟩, hS1.F ht⟩) hS1.2.2 hd
end
section
theorem cpy_nat : Cond.native arraycopyName ∈ wsL_law := List.mem_of_getElem? (i := 98) (by decide +kernel)
theorem cpy_sta : Cond.static arraycopyName ∈ wsL_law := List.mem_of_getElem? (i := 99) (by decide +kernel)
theorem cpy_ini : Cond.initialized "java/lang/System" ∈ wsL_law := List.mem_of_getElem? (i := 100) (by decide +kernel)
section
variable {Γ : Gm} {l : Launch} {y : MethodName} {cc : ByteArray} {mL d mc ms : Nat} {pc n : Nat} {L st : List AV} {cs : Nat × Nat} {w : Nat → AC}
theorem qa_iconst (hΓ : Ok Γ l y cc mL d mc ms) {j : Int} {v : Int32} (hd : decode cc pc = .ok (.iconst j, 1)) (hv : Int32.ofInt j = v) (k : Γ (pc + 1) L (aI v :: st) cs n w) : Γ pc L (st) cs n w := by
  obtain ⟨p, e, s, m, args, below, meth, c, D, cT, A, Q, n0, ad0, R, rfl, hx, hb, hml, hown, hnm, hts, hK, hA, hRf, hRl, hRc, hRs⟩ := hΓ
  intro ad H locs ls hE hR hL
  exact lv_iconst hx hb hd hv (k ad H locs ls hE hR hL)
theorem qa_bipush (hΓ : Ok Γ l y cc mL d mc ms) {j : Int} {v : Int32} (hd : decode cc pc = .ok (.bipush j, 2)) (hv : (Int8.ofInt j).toInt32 = v) (k : Γ (pc + 2) L (aI v :: st) cs n w) : Γ pc L (st) cs n w := by
  obtain ⟨p, e, s, m, args, below, meth, c, D, cT, A, Q, n0, ad0, R, rfl, hx, hb, hml, hown, hnm, hts, hK, hA, hRf, hRl, hRc, hRs⟩ := hΓ
  intro ad H locs ls hE hR hL
  exact lv_bipush hx hb hd hv (k ad H locs ls hE hR hL)
theorem qa_sipush (hΓ : Ok Γ l y cc mL d mc ms) {j : Int} {v : Int32} (hd : decode cc pc = .ok (.sipush j, 3)) (hv : (Int16.ofInt j).toInt32 = v) (k : Γ (pc + 3) L (aI v :: st) cs n w) : Γ pc L (st) cs n w := by
  obtain ⟨p, e, s, m, args, below, meth, c, D, cT, A, Q, n0, ad0, R, rfl, hx, hb, hml, hown, hnm, hts, hK, hA, hRf, hRl, hRc, hRs⟩ := hΓ
  intro ad H locs ls hE hR hL
  exact lv_sipush hx hb hd hv (k ad H locs ls hE hR hL)
theorem qa_iadd (hΓ : Ok Γ l y cc mL d mc ms) {x z : Int32} (hd : decode cc pc = .ok (.iadd, 1)) (k : Γ (pc + 1) L (aI (x + z) :: st) cs n w) : Γ pc L (aI z :: aI x :: st) cs n w := by
  obtain ⟨p, e, s, m, args, below, meth, c, D, cT, A, Q, n0, ad0, R, rfl, hx, hb, hml, hown, hnm, hts, hK, hA, hRf, hRl, hRc, hRs⟩ := hΓ
  intro ad H locs ls hE hR hL
  exact lv_iadd hx hb hd (k ad H locs ls hE hR hL)
theorem qa_isub (hΓ : Ok Γ l y cc mL d mc ms) {x z : Int32} (hd : decode cc pc = .ok (.isub, 1)) (k : Γ (pc + 1) L (aI (x - z) :: st) cs n w) : Γ pc L (aI z :: aI x :: st) cs n w := by
  obtain ⟨p, e, s, m, args, below, meth, c, D, cT, A, Q, n0, ad0, R, rfl, hx, hb, hml, hown, hnm, hts, hK, hA, hRf, hRl, hRc, hRs⟩ := hΓ
  intro ad H locs ls hE hR hL
  exact lv_isub hx hb hd (k ad H locs ls hE hR hL)
theorem qa_imul (hΓ : Ok Γ l y cc mL d mc ms) {x z : Int32} (hd : decode cc pc = .ok (.imul, 1)) (k : Γ (pc + 1) L (aI (x * z) :: st) cs n w) : Γ pc L (aI z :: aI x :: st) cs n w := by
  obtain ⟨p, e, s, m, args, below, meth, c, D, cT, A, Q, n0, ad0, R, rfl, hx, hb, hml, hown, hnm, hts, hK, hA, hRf, hRl, hRc, hRs⟩ := hΓ
  intro ad H locs ls hE hR hL
  exact lv_imul hx hb hd (k ad H locs ls hE hR hL)
theorem qa_iand (hΓ : Ok Γ l y cc mL d mc ms) {x z : Int32} (hd : decode cc pc = .ok (.iand, 1)) (k : Γ (pc + 1) L (aI (x &&& z) :: st) cs n w) : Γ pc L (aI z :: aI x :: st) cs n w := by
  obtain ⟨p, e, s, m, args, below, meth, c, D, cT, A, Q, n0, ad0, R, rfl, hx, hb, hml, hown, hnm, hts, hK, hA, hRf, hRl, hRc, hRs⟩ := hΓ
  intro ad H locs ls hE hR hL
  exact lv_iand hx hb hd (k ad H locs ls hE hR hL)
theorem qa_ior (hΓ : Ok Γ l y cc mL d mc ms) {x z : Int32} (hd : decode cc pc = .ok (.ior, 1)) (k : Γ (pc + 1) L (aI (x ||| z) :: st) cs n w) : Γ pc L (aI z :: aI x :: st) cs n w := by
  obtain ⟨p, e, s, m, args, below, meth, c, D, cT, A, Q, n0, ad0, R, rfl, hx, hb, hml, hown, hnm, hts, hK, hA, hRf, hRl, hRc, hRs⟩ := hΓ
  intro ad H locs ls hE hR hL
  exact lv_ior hx hb hd (k ad H locs ls hE hR hL)
theorem qa_ixor (hΓ : Ok Γ l y cc mL d mc ms) {x z : Int32} (hd : decode cc pc = .ok (.ixor, 1)) (k : Γ (pc + 1) L (aI (x ^^^ z) :: st) cs n w) : Γ pc L (aI z :: aI x :: st) cs n w := by
  obtain ⟨p, e, s, m, args, below, meth, c, D, cT, A, Q, n0, ad0, R, rfl, hx, hb, hml, hown, hnm, hts, hK, hA, hRf, hRl, hRc, hRs⟩ := hΓ
  intro ad H locs ls hE hR hL
  exact lv_ixor hx hb hd (k ad H locs ls hE hR hL)
theorem qa_ishl (hΓ : Ok Γ l y cc mL d mc ms) {x z : Int32} (hd : decode cc pc = .ok (.ishl, 1)) (k : Γ (pc + 1) L (aI (x <<< (z &&& 31)) :: st) cs n w) : Γ pc L (aI z :: aI x :: st) cs n w := by
  obtain ⟨p, e, s, m, args, below, meth, c, D, cT, A, Q, n0, ad0, R, rfl, hx, hb, hml, hown, hnm, hts, hK, hA, hRf, hRl, hRc, hRs⟩ := hΓ
  intro ad H locs ls hE hR hL
  exact lv_ishl hx hb hd (k ad H locs ls hE hR hL)
theorem qa_ishr (hΓ : Ok Γ l y cc mL d mc ms) {x z : Int32} (hd : decode cc pc = .ok (.ishr, 1)) (k : Γ (pc + 1) L (aI (x >>> (z &&& 31)) :: st) cs n w) : Γ pc L (aI z :: aI x :: st) cs n w := by
  obtain ⟨p, e, s, m, args, below, meth, c, D, cT, A, Q, n0, ad0, R, rfl, hx, hb, hml, hown, hnm, hts, hK, hA, hRf, hRl, hRc, hRs⟩ := hΓ
  intro ad H locs ls hE hR hL
  exact lv_ishr hx hb hd (k ad H locs ls hE hR hL)
theorem qa_idiv (hΓ : Ok Γ l y cc mL d mc ms) {x z : Int32} (hd : decode cc pc = .ok (.idiv, 1)) (hne : ¬ z = 0) (k : Γ (pc + 1) L (aI (x / z) :: st) cs n w) : Γ pc L (aI z :: aI x :: st) cs n w := by
  obtain ⟨p, e, s, m, args, below, meth, c, D, cT, A, Q, n0, ad0, R, rfl, hx, hb, hml, hown, hnm, hts, hK, hA, hRf, hRl, hRc, hRs⟩ := hΓ
  intro ad H locs ls hE hR hL
  exact lv_idiv hx hb hd hne (k ad H locs ls hE hR hL)
theorem qa_irem (hΓ : Ok Γ l y cc mL d mc ms) {x z : Int32} (hd : decode cc pc = .ok (.irem, 1)) (hne : ¬ z = 0) (k : Γ (pc + 1) L (aI (x - x / z * z) :: st) cs n w) : Γ pc L (aI z :: aI x :: st) cs n w := by
  obtain ⟨p, e, s, m, args, below, meth, c, D, cT, A, Q, n0, ad0, R, rfl, hx, hb, hml, hown, hnm, hts, hK, hA, hRf, hRl, hRc, hRs⟩ := hΓ
  intro ad H locs ls hE hR hL
  exact lv_irem hx hb hd hne (k ad H locs ls hE hR hL)
theorem qa_iushr (hΓ : Ok Γ l y cc mL d mc ms) {x z v : Int32} (hd : decode cc pc = .ok (.iushr, 1)) (hv : (x.toUInt32 >>> (z.toUInt32 &&& Int32.toUInt32 31)).toInt32 = v) (k : Γ (pc + 1) L (aI v :: st) cs n w) : Γ pc L (aI z :: aI x :: st) cs n w := by
  obtain ⟨p, e, s, m, args, below, meth, c, D, cT, A, Q, n0, ad0, R, rfl, hx, hb, hml, hown, hnm, hts, hK, hA, hRf, hRl, hRc, hRs⟩ := hΓ
  intro ad H locs ls hE hR hL
  exact lv_iushr hx hb hd hv (k ad H locs ls hE hR hL)
theorem qa_i2b (hΓ : Ok Γ l y cc mL d mc ms) {x v : Int32} (hd : decode cc pc = .ok (.i2b, 1)) (hv : x.toInt8.toInt32 = v) (k : Γ (pc + 1) L (aI v :: st) cs n w) : Γ pc L (aI x :: st) cs n w := by
  obtain ⟨p, e, s, m, args, below, meth, c, D, cT, A, Q, n0, ad0, R, rfl, hx, hb, hml, hown, hnm, hts, hK, hA, hRf, hRl, hRc, hRs⟩ := hΓ
  intro ad H locs ls hE hR hL
  exact lv_i2b hx hb hd hv (k ad H locs ls hE hR hL)
theorem qa_i2c (hΓ : Ok Γ l y cc mL d mc ms) {x v : Int32} (hd : decode cc pc = .ok (.i2c, 1)) (hv : (x.toUInt32 % 65536).toInt32 = v) (k : Γ (pc + 1) L (aI v :: st) cs n w) : Γ pc L (aI x :: st) cs n w := by
  obtain ⟨p, e, s, m, args, below, meth, c, D, cT, A, Q, n0, ad0, R, rfl, hx, hb, hml, hown, hnm, hts, hK, hA, hRf, hRl, hRc, hRs⟩ := hΓ
  intro ad H locs ls hE hR hL
  exact lv_i2c hx hb hd hv (k ad H locs ls hE hR hL)
theorem qa_pop (hΓ : Ok Γ l y cc mL d mc ms) {v : AV} (hd : decode cc pc = .ok (.pop, 1)) (k : Γ (pc + 1) L (st) cs n w) : Γ pc L (v :: st) cs n w := by
  obtain ⟨p, e, s, m, args, below, meth, c, D, cT, A, Q, n0, ad0, R, rfl, hx, hb, hml, hown, hnm, hts, hK, hA, hRf, hRl, hRc, hRs⟩ := hΓ
  intro ad H locs ls hE hR hL
  exact lv_pop hx hb hd (rv_cat ad v) (k ad H locs ls hE hR hL)
theorem qa_dup (hΓ : Ok Γ l y cc mL d mc ms) {v : AV} (hd : decode cc pc = .ok (.dup, 1)) (k : Γ (pc + 1) L (v :: v :: st) cs n w) : Γ pc L (v :: st) cs n w := by
  obtain ⟨p, e, s, m, args, below, meth, c, D, cT, A, Q, n0, ad0, R, rfl, hx, hb, hml, hown, hnm, hts, hK, hA, hRf, hRl, hRc, hRs⟩ := hΓ
  intro ad H locs ls hE hR hL
  exact lv_dup hx hb hd (rv_cat ad v) (k ad H locs ls hE hR hL)
theorem qa_null (hΓ : Ok Γ l y cc mL d mc ms)  (hd : decode cc pc = .ok (.aconst_null, 1)) (k : Γ (pc + 1) L (aN :: st) cs n w) : Γ pc L (st) cs n w := by
  obtain ⟨p, e, s, m, args, below, meth, c, D, cT, A, Q, n0, ad0, R, rfl, hx, hb, hml, hown, hnm, hts, hK, hA, hRf, hRl, hRc, hRs⟩ := hΓ
  intro ad H locs ls hE hR hL
  exact lv_null hx hb hd (k ad H locs ls hE hR hL)
theorem qa_iload_n (hΓ : Ok Γ l y cc mL d mc ms) {j : Fin 4} {x : Int32} (hd : decode cc pc = .ok (.iload_n j, 1)) (hl : lg L j = aI x) (k : Γ (pc + 1) L (aI x :: st) cs n w) : Γ pc L st cs n w := by
  obtain ⟨p, e, s, m, args, below, meth, c, D, cT, A, Q, n0, ad0, R, rfl, hx, hb, hml, hown, hnm, hts, hK, hA, hRf, hRl, hRc, hRs⟩ := hΓ
  intro ad H locs ls hE hR hL
  exact lv_iload_n hx hb hd rfl (hL.2.2 _ _ hl) (k ad H locs ls hE hR hL)
theorem qa_iload (hΓ : Ok Γ l y cc mL d mc ms) {j : Nat} {x : Int32} (hd : decode cc pc = .ok (.iload j, 2)) (hl : lg L j = aI x) (k : Γ (pc + 2) L (aI x :: st) cs n w) : Γ pc L st cs n w := by
  obtain ⟨p, e, s, m, args, below, meth, c, D, cT, A, Q, n0, ad0, R, rfl, hx, hb, hml, hown, hnm, hts, hK, hA, hRf, hRl, hRc, hRs⟩ := hΓ
  intro ad H locs ls hE hR hL
  exact lv_iload hx hb hd (hL.2.2 _ _ hl) (k ad H locs ls hE hR hL)
theorem qa_aload_n (hΓ : Ok Γ l y cc mL d mc ms) {j : Fin 4} {x : Nat} (hd : decode cc pc = .ok (.aload_n j, 1)) (hl : lg L j = aR x) (k : Γ (pc + 1) L (aR x :: st) cs n w) : Γ pc L st cs n w := by
  obtain ⟨p, e, s, m, args, below, meth, c, D, cT, A, Q, n0, ad0, R, rfl, hx, hb, hml, hown, hnm, hts, hK, hA, hRf, hRl, hRc, hRs⟩ := hΓ
  intro ad H locs ls hE hR hL
  exact lv_aload_n hx hb hd rfl (hL.2.2 _ _ hl) (k ad H locs ls hE hR hL)
theorem qa_aload (hΓ : Ok Γ l y cc mL d mc ms) {j : Nat} {x : Nat} (hd : decode cc pc = .ok (.aload j, 2)) (hl : lg L j = aR x) (k : Γ (pc + 2) L (aR x :: st) cs n w) : Γ pc L st cs n w := by
  obtain ⟨p, e, s, m, args, below, meth, c, D, cT, A, Q, n0, ad0, R, rfl, hx, hb, hml, hown, hnm, hts, hK, hA, hRf, hRl, hRc, hRs⟩ := hΓ
  intro ad H locs ls hE hR hL
  exact lv_aload hx hb hd (hL.2.2 _ _ hl) (k ad H locs ls hE hR hL)
theorem qa_aload_nN (hΓ : Ok Γ l y cc mL d mc ms) {j : Fin 4} (hd : decode cc pc = .ok (.aload_n j, 1)) (hl : lg L j = aN) (k : Γ (pc + 1) L (aN :: st) cs n w) : Γ pc L st cs n w := by
  obtain ⟨p, e, s, m, args, below, meth, c, D, cT, A, Q, n0, ad0, R, rfl, hx, hb, hml, hown, hnm, hts, hK, hA, hRf, hRl, hRc, hRs⟩ := hΓ
  intro ad H locs ls hE hR hL
  exact lv_aload_nN hx hb hd rfl (hL.2.2 _ _ hl) (k ad H locs ls hE hR hL)
theorem qa_istore_n (hΓ : Ok Γ l y cc mL d mc ms) {j : Fin 4} {x : Int32} (hd : decode cc pc = .ok (.istore_n j, 1)) (hn : (j : Nat) < mL) (k : Γ (pc + 1) (L.set j (aI x)) st cs n w) : Γ pc L (aI x :: st) cs n w := by
  obtain ⟨p, e, s, m, args, below, meth, c, D, cT, A, Q, n0, ad0, R, rfl, hx, hb, hml, hown, hnm, hts, hK, hA, hRf, hRl, hRc, hRs⟩ := hΓ
  intro ad H locs ls hE hR hL
  exact lv_istore_n hx hb hd rfl hL.has hn rfl (fun ls' h' => k ad H locs ls' hE hR (Lc.set (v := aI x) h'))
theorem qa_istore (hΓ : Ok Γ l y cc mL d mc ms) {j : Nat} {x : Int32} (hd : decode cc pc = .ok (.istore j, 2)) (hn : j < mL) (k : Γ (pc + 2) (L.set j (aI x)) st cs n w) : Γ pc L (aI x :: st) cs n w := by
  obtain ⟨p, e, s, m, args, below, meth, c, D, cT, A, Q, n0, ad0, R, rfl, hx, hb, hml, hown, hnm, hts, hK, hA, hRf, hRl, hRc, hRs⟩ := hΓ
  intro ad H locs ls hE hR hL
  exact lv_istore hx hb hd hL.has hn rfl (fun ls' h' => k ad H locs ls' hE hR (Lc.set (v := aI x) h'))
theorem qa_astore_n (hΓ : Ok Γ l y cc mL d mc ms) {j : Fin 4} {x : Nat} (hd : decode cc pc = .ok (.astore_n j, 1)) (hn : (j : Nat) < mL) (k : Γ (pc + 1) (L.set j (aR x)) st cs n w) : Γ pc L (aR x :: st) cs n w := by
  obtain ⟨p, e, s, m, args, below, meth, c, D, cT, A, Q, n0, ad0, R, rfl, hx, hb, hml, hown, hnm, hts, hK, hA, hRf, hRl, hRc, hRs⟩ := hΓ
  intro ad H locs ls hE hR hL
  exact lv_astore_n hx hb hd rfl hL.has hn rfl (fun ls' h' => k ad H locs ls' hE hR (Lc.set (v := aR x) h'))
theorem qa_astore_nN (hΓ : Ok Γ l y cc mL d mc ms) {j : Fin 4} (hd : decode cc pc = .ok (.astore_n j, 1)) (hn : (j : Nat) < mL) (k : Γ (pc + 1) (L.set j aN) st cs n w) : Γ pc L (aN :: st) cs n w := by
  obtain ⟨p, e, s, m, args, below, meth, c, D, cT, A, Q, n0, ad0, R, rfl, hx, hb, hml, hown, hnm, hts, hK, hA, hRf, hRl, hRc, hRs⟩ := hΓ
  intro ad H locs ls hE hR hL
  exact lv_astore_nN hx hb hd rfl hL.has hn rfl (fun ls' h' => k ad H locs ls' hE hR (Lc.set (v := aN) h'))
theorem qa_iinc (hΓ : Ok Γ l y cc mL d mc ms) {j : Nat} {b : Int} {x v : Int32} (hd : decode cc pc = .ok (.iinc j b, 3)) (hl : lg L j = aI x) (hv : x + Int32.ofInt b = v) (hn : j < mL) (k : Γ (pc + 3) (L.set j (aI v)) st cs n w) : Γ pc L st cs n w := by
  obtain ⟨p, e, s, m, args, below, meth, c, D, cT, A, Q, n0, ad0, R, rfl, hx, hb, hml, hown, hnm, hts, hK, hA, hRf, hRl, hRc, hRs⟩ := hΓ
  intro ad H locs ls hE hR hL
  have hi : (j, Value.int x) ∈ lprs ad L := lprs_mem.mpr ⟨.inl x, hl, rfl⟩
  obtain ⟨i, hi⟩ := List.getElem?_of_mem hi
  exact lv_iinc hx hb hd hL.has hi hv hn rfl (fun ls' h' => k ad H locs ls' hE hR (Lc.set (v := aI v) h'))
theorem qa_icmp_eq (hΓ : Ok Γ l y cc mL d mc ms) {x z : Int32} {off : Int} {tgt : Nat} (hd : decode cc pc = .ok (.if_icmp .eq off, 3)) (ht : (pc : Int) + off = (tgt : Int)) (kt : x = z → Γ tgt L st cs n w) (kf : ¬ x = z → Γ (pc + 3) L st cs n w) : Γ pc L (aI z :: aI x :: st) cs n w := by
  obtain ⟨p, e, s, m, args, below, meth, c, D, cT, A, Q, n0, ad0, R, rfl, hx, hb, hml, hown, hnm, hts, hK, hA, hRf, hRl, hRc, hRs⟩ := hΓ
  intro ad H locs ls hE hR hL
  exact lv_icmp_eq hx hb hd ht (fun h => kt h ad H locs ls hE hR hL) (fun h => kf h ad H locs ls hE hR hL)
theorem qa_icmp_ne (hΓ : Ok Γ l y cc mL d mc ms) {x z : Int32} {off : Int} {tgt : Nat} (hd : decode cc pc = .ok (.if_icmp .ne off, 3)) (ht : (pc : Int) + off = (tgt : Int)) (kt : ¬ x = z → Γ tgt L st cs n w) (kf : x = z → Γ (pc + 3) L st cs n w) : Γ pc L (aI z :: aI x :: st) cs n w := by
  obtain ⟨p, e, s, m, args, below, meth, c, D, cT, A, Q, n0, ad0, R, rfl, hx, hb, hml, hown, hnm, hts, hK, hA, hRf, hRl, hRc, hRs⟩ := hΓ
  intro ad H locs ls hE hR hL
  exact lv_icmp_ne hx hb hd ht (fun h => kt h ad H locs ls hE hR hL) (fun h => kf h ad H locs ls hE hR hL)
theorem qa_icmp_lt (hΓ : Ok Γ l y cc mL d mc ms) {x z : Int32} {off : Int} {tgt : Nat} (hd : decode cc pc = .ok (.if_icmp .lt off, 3)) (ht : (pc : Int) + off = (tgt : Int)) (kt : x < z → Γ tgt L st cs n w) (kf : ¬ x < z → Γ (pc + 3) L st cs n w) : Γ pc L (aI z :: aI x :: st) cs n w := by
  obtain ⟨p, e, s, m, args, below, meth, c, D, cT, A, Q, n0, ad0, R, rfl, hx, hb, hml, hown, hnm, hts, hK, hA, hRf, hRl, hRc, hRs⟩ := hΓ
  intro ad H locs ls hE hR hL
  exact lv_icmp_lt hx hb hd ht (fun h => kt h ad H locs ls hE hR hL) (fun h => kf h ad H locs ls hE hR hL)
theorem qa_icmp_ge (hΓ : Ok Γ l y cc mL d mc ms) {x z : Int32} {off : Int} {tgt : Nat} (hd : decode cc pc = .ok (.if_icmp .ge off, 3)) (ht : (pc : Int) + off = (tgt : Int)) (kt : z ≤ x → Γ tgt L st cs n w) (kf : ¬ z ≤ x → Γ (pc + 3) L st cs n w) : Γ pc L (aI z :: aI x :: st) cs n w := by
  obtain ⟨p, e, s, m, args, below, meth, c, D, cT, A, Q, n0, ad0, R, rfl, hx, hb, hml, hown, hnm, hts, hK, hA, hRf, hRl, hRc, hRs⟩ := hΓ
  intro ad H locs ls hE hR hL
  exact lv_icmp_ge hx hb hd ht (fun h => kt h ad H locs ls hE hR hL) (fun h => kf h ad H locs ls hE hR hL)
theorem qa_icmp_gt (hΓ : Ok Γ l y cc mL d mc ms) {x z : Int32} {off : Int} {tgt : Nat} (hd : decode cc pc = .ok (.if_icmp .gt off, 3)) (ht : (pc : Int) + off = (tgt : Int)) (kt : z < x → Γ tgt L st cs n w) (kf : ¬ z < x → Γ (pc + 3) L st cs n w) : Γ pc L (aI z :: aI x :: st) cs n w := by
  obtain ⟨p, e, s, m, args, below, meth, c, D, cT, A, Q, n0, ad0, R, rfl, hx, hb, hml, hown, hnm, hts, hK, hA, hRf, hRl, hRc, hRs⟩ := hΓ
  intro ad H locs ls hE hR hL
  exact lv_icmp_gt hx hb hd ht (fun h => kt h ad H locs ls hE hR hL) (fun h => kf h ad H locs ls hE hR hL)
theorem qa_icmp_le (hΓ : Ok Γ l y cc mL d mc ms) {x z : Int32} {off : Int} {tgt : Nat} (hd : decode cc pc = .ok (.if_icmp .le off, 3)) (ht : (pc : Int) + off = (tgt : Int)) (kt : x ≤ z → Γ tgt L st cs n w) (kf : ¬ x ≤ z → Γ (pc + 3) L st cs n w) : Γ pc L (aI z :: aI x :: st) cs n w := by
  obtain ⟨p, e, s, m, args, below, meth, c, D, cT, A, Q, n0, ad0, R, rfl, hx, hb, hml, hown, hnm, hts, hK, hA, hRf, hRl, hRc, hRs⟩ := hΓ
  intro ad H locs ls hE hR hL
  exact lv_icmp_le hx hb hd ht (fun h => kt h ad H locs ls hE hR hL) (fun h => kf h ad H locs ls hE hR hL)
theorem qa_if_eq (hΓ : Ok Γ l y cc mL d mc ms) {x : Int32} {off : Int} {tgt : Nat} (hd : decode cc pc = .ok (.ifCond .eq off, 3)) (ht : (pc : Int) + off = (tgt : Int)) (kt : x = 0 → Γ tgt L st cs n w) (kf : ¬ x = 0 → Γ (pc + 3) L st cs n w) : Γ pc L (aI x :: st) cs n w := by
  obtain ⟨p, e, s, m, args, below, meth, c, D, cT, A, Q, n0, ad0, R, rfl, hx, hb, hml, hown, hnm, hts, hK, hA, hRf, hRl, hRc, hRs⟩ := hΓ
  intro ad H locs ls hE hR hL
  exact lv_if_eq hx hb hd ht (fun h => kt h ad H locs ls hE hR hL) (fun h => kf h ad H locs ls hE hR hL)
theorem qa_if_ne (hΓ : Ok Γ l y cc mL d mc ms) {x : Int32} {off : Int} {tgt : Nat} (hd : decode cc pc = .ok (.ifCond .ne off, 3)) (ht : (pc : Int) + off = (tgt : Int)) (kt : ¬ x = 0 → Γ tgt L st cs n w) (kf : x = 0 → Γ (pc + 3) L st cs n w) : Γ pc L (aI x :: st) cs n w := by
  obtain ⟨p, e, s, m, args, below, meth, c, D, cT, A, Q, n0, ad0, R, rfl, hx, hb, hml, hown, hnm, hts, hK, hA, hRf, hRl, hRc, hRs⟩ := hΓ
  intro ad H locs ls hE hR hL
  exact lv_if_ne hx hb hd ht (fun h => kt h ad H locs ls hE hR hL) (fun h => kf h ad H locs ls hE hR hL)
theorem qa_if_lt (hΓ : Ok Γ l y cc mL d mc ms) {x : Int32} {off : Int} {tgt : Nat} (hd : decode cc pc = .ok (.ifCond .lt off, 3)) (ht : (pc : Int) + off = (tgt : Int)) (kt : x < 0 → Γ tgt L st cs n w) (kf : ¬ x < 0 → Γ (pc + 3) L st cs n w) : Γ pc L (aI x :: st) cs n w := by
  obtain ⟨p, e, s, m, args, below, meth, c, D, cT, A, Q, n0, ad0, R, rfl, hx, hb, hml, hown, hnm, hts, hK, hA, hRf, hRl, hRc, hRs⟩ := hΓ
  intro ad H locs ls hE hR hL
  exact lv_if_lt hx hb hd ht (fun h => kt h ad H locs ls hE hR hL) (fun h => kf h ad H locs ls hE hR hL)
theorem qa_if_ge (hΓ : Ok Γ l y cc mL d mc ms) {x : Int32} {off : Int} {tgt : Nat} (hd : decode cc pc = .ok (.ifCond .ge off, 3)) (ht : (pc : Int) + off = (tgt : Int)) (kt : 0 ≤ x → Γ tgt L st cs n w) (kf : ¬ 0 ≤ x → Γ (pc + 3) L st cs n w) : Γ pc L (aI x :: st) cs n w := by
  obtain ⟨p, e, s, m, args, below, meth, c, D, cT, A, Q, n0, ad0, R, rfl, hx, hb, hml, hown, hnm, hts, hK, hA, hRf, hRl, hRc, hRs⟩ := hΓ
  intro ad H locs ls hE hR hL
  exact lv_if_ge hx hb hd ht (fun h => kt h ad H locs ls hE hR hL) (fun h => kf h ad H locs ls hE hR hL)
theorem qa_if_gt (hΓ : Ok Γ l y cc mL d mc ms) {x : Int32} {off : Int} {tgt : Nat} (hd : decode cc pc = .ok (.ifCond .gt off, 3)) (ht : (pc : Int) + off = (tgt : Int)) (kt : 0 < x → Γ tgt L st cs n w) (kf : ¬ 0 < x → Γ (pc + 3) L st cs n w) : Γ pc L (aI x :: st) cs n w := by
  obtain ⟨p, e, s, m, args, below, meth, c, D, cT, A, Q, n0, ad0, R, rfl, hx, hb, hml, hown, hnm, hts, hK, hA, hRf, hRl, hRc, hRs⟩ := hΓ
  intro ad H locs ls hE hR hL
  exact lv_if_gt hx hb hd ht (fun h => kt h ad H locs ls hE hR hL) (fun h => kf h ad H locs ls hE hR hL)
theorem qa_if_le (hΓ : Ok Γ l y cc mL d mc ms) {x : Int32} {off : Int} {tgt : Nat} (hd : decode cc pc = .ok (.ifCond .le off, 3)) (ht : (pc : Int) + off = (tgt : Int)) (kt : x ≤ 0 → Γ tgt L st cs n w) (kf : ¬ x ≤ 0 → Γ (pc + 3) L st cs n w) : Γ pc L (aI x :: st) cs n w := by
  obtain ⟨p, e, s, m, args, below, meth, c, D, cT, A, Q, n0, ad0, R, rfl, hx, hb, hml, hown, hnm, hts, hK, hA, hRf, hRl, hRc, hRs⟩ := hΓ
  intro ad H locs ls hE hR hL
  exact lv_if_le hx hb hd ht (fun h => kt h ad H locs ls hE hR hL) (fun h => kf h ad H locs ls hE hR hL)
theorem qa_goto (hΓ : Ok Γ l y cc mL d mc ms) {off : Int} {tgt : Nat} (hd : decode cc pc = .ok (.goto off, 3)) (ht : (pc : Int) + off = (tgt : Int)) (k : Γ tgt L st cs n w) : Γ pc L st cs n w := by
  obtain ⟨p, e, s, m, args, below, meth, c, D, cT, A, Q, n0, ad0, R, rfl, hx, hb, hml, hown, hnm, hts, hK, hA, hRf, hRl, hRc, hRs⟩ := hΓ
  intro ad H locs ls hE hR hL
  exact lv_goto hx hb hd ht (k ad H locs ls hE hR hL)
theorem qa_dup2 (hΓ : Ok Γ l y cc mL d mc ms) {u v : AV} (hd : decode cc pc = .ok (.dup2, 1)) (k : Γ (pc + 1) L (u :: v :: u :: v :: st) cs n w) : Γ pc L (u :: v :: st) cs n w := by
  obtain ⟨p, e, s, m, args, below, meth, c, D, cT, A, Q, n0, ad0, R, rfl, hx, hb, hml, hown, hnm, hts, hK, hA, hRf, hRl, hRc, hRs⟩ := hΓ
  intro ad H locs ls hE hR hL
  exact lv_dup2_11 hx hb hd (rv_cat ad u) (rv_cat ad v) (k ad H locs ls hE hR hL)
theorem qa_ifnull (hΓ : Ok Γ l y cc mL d mc ms) {j : Nat} {off : Int} (hd : decode cc pc = .ok (.ifnull off, 3)) (k : Γ (pc + 3) L st cs n w) : Γ pc L (aR j :: st) cs n w := by
  obtain ⟨p, e, s, m, args, below, meth, c, D, cT, A, Q, n0, ad0, R, rfl, hx, hb, hml, hown, hnm, hts, hK, hA, hRf, hRl, hRc, hRs⟩ := hΓ
  intro ad H locs ls hE hR hL
  exact lv_ifnull hx hb hd (k ad H locs ls hE hR hL)
theorem qa_ifnullN (hΓ : Ok Γ l y cc mL d mc ms) {off : Int} {tgt : Nat} (hd : decode cc pc = .ok (.ifnull off, 3)) (ht : (pc : Int) + off = (tgt : Int)) (k : Γ tgt L st cs n w) : Γ pc L (aN :: st) cs n w := by
  obtain ⟨p, e, s, m, args, below, meth, c, D, cT, A, Q, n0, ad0, R, rfl, hx, hb, hml, hown, hnm, hts, hK, hA, hRf, hRl, hRc, hRs⟩ := hΓ
  intro ad H locs ls hE hR hL
  exact lv_ifnullN hx hb hd ht (k ad H locs ls hE hR hL)
theorem qa_ifnonnull (hΓ : Ok Γ l y cc mL d mc ms) {j : Nat} {off : Int} {tgt : Nat} (hd : decode cc pc = .ok (.ifnonnull off, 3)) (ht : (pc : Int) + off = (tgt : Int)) (k : Γ tgt L st cs n w) : Γ pc L (aR j :: st) cs n w := by
  obtain ⟨p, e, s, m, args, below, meth, c, D, cT, A, Q, n0, ad0, R, rfl, hx, hb, hml, hown, hnm, hts, hK, hA, hRf, hRl, hRc, hRs⟩ := hΓ
  intro ad H locs ls hE hR hL
  exact lv_ifnonnull hx hb hd ht (k ad H locs ls hE hR hL)
theorem qa_ifnonnullN (hΓ : Ok Γ l y cc mL d mc ms) {off : Int} (hd : decode cc pc = .ok (.ifnonnull off, 3)) (k : Γ (pc + 3) L st cs n w) : Γ pc L (aN :: st) cs n w := by
  obtain ⟨p, e, s, m, args, below, meth, c, D, cT, A, Q, n0, ad0, R, rfl, hx, hb, hml, hown, hnm, hts, hK, hA, hRf, hRl, hRc, hRs⟩ := hΓ
  intro ad H locs ls hE hR hL
  exact lv_ifnonnullN hx hb hd (k ad H locs ls hE hR hL)
theorem qa_tabOut (hΓ : Ok Γ l y cc mL d mc ms) {dflt lo hi : Int} {offs : Array Int} {len : Nat} {x : Int32} {tgt : Nat} (hd : decode cc pc = .ok (.tableswitch dflt lo hi offs, len)) (h : x.toInt < lo ∨ hi < x.toInt) (ht : (pc : Int) + dflt = (tgt : Int)) (k : Γ tgt L st cs n w) : Γ pc L (aI x :: st) cs n w := by
  obtain ⟨p, e, s, m, args, below, meth, c, D, cT, A, Q, n0, ad0, R, rfl, hx, hb, hml, hown, hnm, hts, hK, hA, hRf, hRl, hRc, hRs⟩ := hΓ
  intro ad H locs ls hE hR hL
  exact lv_tableOut hx hb hd h ht (k ad H locs ls hE hR hL)
theorem qa_tabIn (hΓ : Ok Γ l y cc mL d mc ms) {dflt lo hi : Int} {offs : Array Int} {len : Nat} {x : Int32} {off : Int} {tgt : Nat} (hd : decode cc pc = .ok (.tableswitch dflt lo hi offs, len)) (h1 : ¬ x.toInt < lo) (h2 : ¬ hi < x.toInt) (ho : offs[(x.toInt - lo).toNat]? = some off) (ht : (pc : Int) + off = (tgt : Int)) (k : Γ tgt L st cs n w) : Γ pc L (aI x :: st) cs n w := by
  obtain ⟨p, e, s, m, args, below, meth, c, D, cT, A, Q, n0, ad0, R, rfl, hx, hb, hml, hown, hnm, hts, hK, hA, hRf, hRl, hRc, hRs⟩ := hΓ
  intro ad H locs ls hE hR hL
  exact lv_tableIn hx hb hd h1 h2 ho ht (k ad H locs ls hE hR hL)
theorem qa_lookup (hΓ : Ok Γ l y cc mL d mc ms) {dflt : Int} {ps : Array (Int × Int)} {len : Nat} {x : Int32} {off : Int} {tgt : Nat} (hd : decode cc pc = .ok (.lookupswitch dflt ps, len)) (hp : (ps.toList.zip (ps.toList.drop 1)).all (fun (a, next) => a.1 < next.1) = true) (ho : Op.lookupswitch.offset ps.toList dflt x.toInt = off) (ht : (pc : Int) + off = (tgt : Int)) (k : Γ tgt L st cs n w) : Γ pc L (aI x :: st) cs n w := by
  obtain ⟨p, e, s, m, args, below, meth, c, D, cT, A, Q, n0, ad0, R, rfl, hx, hb, hml, hown, hnm, hts, hK, hA, hRf, hRl, hRc, hRs⟩ := hΓ
  intro ad H locs ls hE hR hL
  exact lv_lookup hx hb hd hp ho ht (k ad H locs ls hE hR hL)
theorem qa_ldc (hΓ : Ok Γ l y cc mL d mc ms) {j : Nat} {v : Int32} (hd : decode cc pc = .ok (.ldc j, 2)) (hc : Cond.constant y.cls j v ∈ wsL_law) (k : Γ (pc + 2) L (aI v :: st) cs n w) : Γ pc L st cs n w := by
  obtain ⟨p, e, s, m, args, below, meth, c, D, cT, A, Q, n0, ad0, R, rfl, hx, hb, hml, hown, hnm, hts, hK, hA, hRf, hRl, hRc, hRs⟩ := hΓ
  intro ad H locs ls hE hR hL
  exact lv_ldc hx hb hown (hts _ hc) hd (k ad H locs ls hE hR hL)
end
/-- a field by its place in the pool: kind ci of vwCl, slot k, final or not, its type -/
def FLK (own : String) (idx ci k : Nat) (fin : Bool) (ty : FieldType) : Prop := ∃ (C : String) (T : u_T) (N : Nat) (ty0 : Nat → FieldType), vwCl[ci]? = some (C, T, N) ∧ (∀ w ∈ u_ws C T N, w ∈ wsL_law) ∧ k < N ∧ Cond.fieldLink own idx (T k).1 (T k).2.1 (T k).2.2.1 ∈ wsL_law ∧ (∀ j, j < N → parseFieldDescriptor (T j).2.2.1 = some (ty0 j)) ∧ (∀ a, a < N → ∀ b, b < N → a ≠ b → (T a).2.1 ≠ (T b).2.1) ∧ (T k).2.2.2 = fin ∧ parseFieldDescriptor (T k).2.2.1 = some ty ∧ (T k).1 = C
/-- the same array, as far as it goes -/
def cEq (c c' : AC) : Prop := c = c' ∨ ∃ t n f g, c = cArr t n f ∧ c' = cArr t n g ∧ ∀ j, j < n → f j = g j
theorem vp_cell_ext {cA : ClassId} {n : Nat} {f g : Nat → Int32} (h : ∀ j, j < n → f j = g j) : vp_cell cA (n, .inl f) = vp_cell cA (n, .inl g) := by
  rw [vp_cell_i, vp_cell_i]
  unfold arrV
  congr 1
  congr 1
  funext j
  show Value.int (f j.val) = Value.int (g j.val)
  rw [h j.val j.isLt]
theorem Rp.ext {D : va_G} {cT : Nat → ClassId} {A : Nat → Prop} {s : State} {ad : Nat → Nat} {n : Nat} {w w' : Nat → AC} {H : Heap} {locs : List Loc} (h : Rp D cT A s ad n w H locs) (he : ∀ k, k < n → cEq (w k) (w' k)) : Rp D cT A s ad n w' H locs := by
  obtain ⟨hP, hD, hS⟩ := h
  have key : ∀ (k : Nat) (q : Nat × va_E), (wsW cT ad n w')[k]? = some q → k < n ∧ q = (ad k, rc cT ad (w' k)) := by
    intro k q hq
    rcases Nat.lt_or_ge k n with hk | hk
    · rw [wsW_get hk] at hq
      exact ⟨hk, (Option.some.inj hq).symm⟩
    · rw [List.getElem?_eq_none (by simp [wsW]; omega)] at hq
      cases hq
  refine ⟨fun k q hq => ?_, ⟨fun i j p q hi hj hpq => ?_, fun k q hq => ?_⟩, hS⟩
  · obtain ⟨hk, rfl⟩ := key k q hq
    have h1 := hP k _ (wsW_get hk)
    rcases he k hk with e | ⟨t, m, f, g, e1, e2, e3⟩
    · rw [← e]
      exact h1
    · rw [e1] at h1
      rw [e2]
      show H[ad k]? = some (vp_cell (cT t) (m, .inl g))
      rw [← vp_cell_ext e3]
      exact h1
  · obtain ⟨hi', rfl⟩ := key i p hi
    obtain ⟨hj', rfl⟩ := key j q hj
    exact hD.1 i j _ _ (wsW_get hi') (wsW_get hj') hpq
  · obtain ⟨hk, rfl⟩ := key k q hq
    exact hD.2 k (ad k, rc cT ad (w k)) (wsW_get hk)
theorem Rp.set {D : va_G} {cT : Nat → ClassId} {A : Nat → Prop} {s : State} {ad : Nat → Nat} {n k : Nat} {w : Nat → AC} {c : AC} {H : Heap} {locs : List Loc} (hk : k < n) (h1 : va_P D vwCl ((wsW cT ad n w).set k (ad k, rc cT ad c)) H) (h2 : va_D A ((wsW cT ad n w).set k (ad k, rc cT ad c))) (h3 : va_S A s.heap H locs) : Rp D cT A s ad n (upw w k c) H locs := by
  rw [wsW_set c hk] at h1 h2
  exact ⟨h1, h2, h3⟩
theorem ty_int (cT : Nat → ClassId) : (tysG cT)[0]? = some (cT 0, .int) := rfl
theorem ty_byte (cT : Nat → ClassId) : (tysG cT)[1]? = some (cT 1, .byte) := rfl
theorem ty_char (cT : Nat → ClassId) : (tysG cT)[2]? = some (cT 2, .char) := rfl
theorem ty_ref (cT : Nat → ClassId) : (tysG cT)[3]? = some (cT 3, .object "RelayBank$Bank") := rfl
section
variable {Γ : Gm} {l : Launch} {y : MethodName} {cc : ByteArray} {mL d mc ms : Nat} {pc n : Nat} {L st : List AV} {cs : Nat × Nat} {w : Nat → AC}
theorem qa_ext (hΓ : Ok Γ l y cc mL d mc ms) {w' : Nat → AC} (he : ∀ k, k < n → cEq (w k) (w' k)) (k : Γ pc L st cs n w') : Γ pc L st cs n w := by
  obtain ⟨p, e, s, m, args, below, meth, c, D, cT, A, Q, n0, ad0, R, rfl, hx, hb, hml, hown, hnm, hts, hK, hA, hRf, hRl, hRc, hRs⟩ := hΓ
  intro ad H locs ls hE hR hL
  exact k ad H locs ls hE (hR.ext he) hL
theorem qa_get (hΓ : Ok Γ l y cc mL d mc ms) {idx ci k k0 : Nat} {fin : Bool} {ty : FieldType} {fs : List AV} {v : AV} (hd : decode cc pc = .ok (.getfield idx, 3)) (hf : FLK y.cls idx ci k fin ty) (hk : k0 < n) (hw : w k0 = cObj ci fs) (hv : fs[k]? = some v) (kk : Γ (pc + 3) L (v :: st) cs n w) : Γ pc L (aR k0 :: st) cs n w := by
  obtain ⟨p, e, s, m, args, below, meth, c, D, cT, A, Q, n0, ad0, R, rfl, hx, hb, hml, hown, hnm, hts, hK, hA, hRf, hRl, hRc, hRs⟩ := hΓ
  intro ad H locs ls hE hR hL
  obtain ⟨C, T, N, ty0, f1, f2, f3, f4, f5, f6, f7, f8, f9⟩ := hf
  have he := wsW_get (cT := cT) (ad := ad) (w := w) hk
  rw [hw] at he
  exact va_get (D := D) (ci := ci) (v := rv ad v) (C := C) (T := T) (N := N) hx hb hts f2 hown hK.1 hR.1 k0 he f1 k f3 (hts _ f4) (fun _ h9 => h9) (by rw [List.getElem?_map, hv]; rfl) hd (kk ad H locs ls hE hR hL)
theorem qa_puti (hΓ : Ok Γ l y cc mL d mc ms) {idx ci k k0 : Nat} {fs : List AV} {x : Int32} (hd : decode cc pc = .ok (.putfield idx, 3)) (hf : FLK y.cls idx ci k false .int) (hk : k0 < n) (hw : w k0 = cObj ci fs) (hl : k < fs.length) (kk : Γ (pc + 3) L st cs n (upw w k0 (cObj ci (fs.set k (aI x))))) : Γ pc L (aI x :: aR k0 :: st) cs n w := by
  obtain ⟨p, e, s, m, args, below, meth, c, D, cT, A, Q, n0, ad0, R, rfl, hx, hb, hml, hown, hnm, hts, hK, hA, hRf, hRl, hRc, hRs⟩ := hΓ
  intro ad H locs ls hE hR hL
  obtain ⟨C, T, N, ty0, f1, f2, f3, f4, f5, f6, f7, f8, f9⟩ := hf
  have he := wsW_get (cT := cT) (ad := ad) (w := w) hk
  rw [hw] at he
  refine va_put (D := D) (ci := ci) (v := .int x) (ty := .int) (C := C) (T := T) (N := N) hx hb hts f2 ty0 f5 f6 hown hK.1 hR.1 hR.2.1 hR.2.2 k0 he f1 k f3 (hts _ f4) (fun _ h9 => h9) f7 f8 rfl rfl (by rw [List.length_map]; exact hl) hd (fun H1 locs1 g1 g2 g3 => kk ad H1 locs1 ls hE (Rp.set hk ?_ ?_ g3) hL)
  · show va_P D vwCl ((wsW cT ad n w).set k0 (ad k0, .inr (ci, (fs.set k (aI x)).map (rv ad)))) H1
    rw [List.map_set]
    exact g1
  · show va_D A ((wsW cT ad n w).set k0 (ad k0, .inr (ci, (fs.set k (aI x)).map (rv ad))))
    rw [List.map_set]
    exact g2
theorem qa_putF (hΓ : Ok Γ l y cc mL d mc ms) {idx ci k k0 : Nat} {ty : FieldType} {fs : List AV} {v : AV} (hd : decode cc pc = .ok (.putfield idx, 3)) (hf : FLK y.cls idx ci k true ty) (hi : y.name = "<init>") (hC : ∀ C T N, vwCl[ci]? = some (C, T, N) → C = y.cls) (hn : ∀ ad : Nat → Nat, narrow ty (rv ad v) = rv ad v ∧ fits ty (rv ad v) = true) (hk : k0 < n) (hw : w k0 = cObj ci fs) (hl : k < fs.length) (kk : Γ (pc + 3) L st cs n (upw w k0 (cObj ci (fs.set k v)))) : Γ pc L (v :: aR k0 :: st) cs n w := by
  obtain ⟨p, e, s, m, args, below, meth, c, D, cT, A, Q, n0, ad0, R, rfl, hx, hb, hml, hown, hnm, hts, hK, hA, hRf, hRl, hRc, hRs⟩ := hΓ
  intro ad H locs ls hE hR hL
  obtain ⟨C, T, N, ty0, f1, f2, f3, f4, f5, f6, f7, f8, f9⟩ := hf
  have he := wsW_get (cT := cT) (ad := ad) (w := w) hk
  rw [hw] at he
  refine va_putF (D := D) (ci := ci) (v := rv ad v) (ty := ty) (C := C) (T := T) (N := N) hx hb hts f2 ty0 f5 f6 hown hK.1 hR.1 hR.2.1 hR.2.2 k0 he f1 k f3 (hts _ f4) (fun _ h9 => h9) f7 (hnm.trans hi) (f9.trans (hC C T N f1)) f8 (hn ad).1 (hn ad).2 (by rw [List.length_map]; exact hl) hd (fun H1 locs1 g1 g2 g3 => kk ad H1 locs1 ls hE (Rp.set hk ?_ ?_ g3) hL)
  · show va_P D vwCl ((wsW cT ad n w).set k0 (ad k0, .inr (ci, (fs.set k v).map (rv ad)))) H1
    rw [List.map_set]
    exact g1
  · show va_D A ((wsW cT ad n w).set k0 (ad k0, .inr (ci, (fs.set k v).map (rv ad))))
    rw [List.map_set]
    exact g2
theorem qa_iald (hΓ : Ok Γ l y cc mL d mc ms) {k0 N : Nat} {f : Nat → Int32} {i : Int32} (hd : decode cc pc = .ok (.iaload, 1)) (hk : k0 < n) (hw : w k0 = cArr 0 N f) (hin : vp_in i N) (kk : Γ (pc + 1) L (aI (f i.toNatClampNeg) :: st) cs n w) : Γ pc L (aI i :: aR k0 :: st) cs n w := by
  obtain ⟨p, e, s, m, args, below, meth, c, D, cT, A, Q, n0, ad0, R, rfl, hx, hb, hml, hown, hnm, hts, hK, hA, hRf, hRl, hRc, hRs⟩ := hΓ
  intro ad H locs ls hE hR hL
  have he := wsW_get (cT := cT) (ad := ad) (w := w) hk
  rw [hw] at he
  exact va_iald hx hb hK.1 hR.1 k0 0 he (ty_int cT) hin hd (kk ad H locs ls hE hR hL)
theorem qa_iast (hΓ : Ok Γ l y cc mL d mc ms) {k0 N : Nat} {f : Nat → Int32} {i x : Int32} (hd : decode cc pc = .ok (.iastore, 1)) (hk : k0 < n) (hw : w k0 = cArr 0 N f) (hin : vp_in i N) (kk : Γ (pc + 1) L st cs n (upw w k0 (cArr 0 N (upd f i.toNatClampNeg (x))))) : Γ pc L (aI x :: aI i :: aR k0 :: st) cs n w := by
  obtain ⟨p, e, s, m, args, below, meth, c, D, cT, A, Q, n0, ad0, R, rfl, hx, hb, hml, hown, hnm, hts, hK, hA, hRf, hRl, hRc, hRs⟩ := hΓ
  intro ad H locs ls hE hR hL
  have he := wsW_get (cT := cT) (ad := ad) (w := w) hk
  rw [hw] at he
  exact va_iast hx hb hK.1 hR.1 hR.2.1 hR.2.2 k0 0 he (ty_int cT) hin hd (fun H1 locs1 g1 g2 g3 => kk ad H1 locs1 ls hE (Rp.set hk g1 g2 g3) hL)
theorem qa_bald (hΓ : Ok Γ l y cc mL d mc ms) {k0 N : Nat} {f : Nat → Int32} {i : Int32} (hd : decode cc pc = .ok (.baload, 1)) (hk : k0 < n) (hw : w k0 = cArr 1 N f) (hin : vp_in i N) (kk : Γ (pc + 1) L (aI (f i.toNatClampNeg) :: st) cs n w) : Γ pc L (aI i :: aR k0 :: st) cs n w := by
  obtain ⟨p, e, s, m, args, below, meth, c, D, cT, A, Q, n0, ad0, R, rfl, hx, hb, hml, hown, hnm, hts, hK, hA, hRf, hRl, hRc, hRs⟩ := hΓ
  intro ad H locs ls hE hR hL
  have he := wsW_get (cT := cT) (ad := ad) (w := w) hk
  rw [hw] at he
  exact va_bald hx hb hK.1 hR.1 k0 1 he (ty_byte cT) hin hd (kk ad H locs ls hE hR hL)
theorem qa_bast (hΓ : Ok Γ l y cc mL d mc ms) {k0 N : Nat} {f : Nat → Int32} {i x : Int32} (hd : decode cc pc = .ok (.bastore, 1)) (hk : k0 < n) (hw : w k0 = cArr 1 N f) (hin : vp_in i N) (kk : Γ (pc + 1) L st cs n (upw w k0 (cArr 1 N (upd f i.toNatClampNeg (vp_nar .byte x))))) : Γ pc L (aI x :: aI i :: aR k0 :: st) cs n w := by
  obtain ⟨p, e, s, m, args, below, meth, c, D, cT, A, Q, n0, ad0, R, rfl, hx, hb, hml, hown, hnm, hts, hK, hA, hRf, hRl, hRc, hRs⟩ := hΓ
  intro ad H locs ls hE hR hL
  have he := wsW_get (cT := cT) (ad := ad) (w := w) hk
  rw [hw] at he
  exact va_bast hx hb hK.1 hR.1 hR.2.1 hR.2.2 k0 1 he (ty_byte cT) hin hd (fun H1 locs1 g1 g2 g3 => kk ad H1 locs1 ls hE (Rp.set hk g1 g2 g3) hL)
theorem qa_cald (hΓ : Ok Γ l y cc mL d mc ms) {k0 N : Nat} {f : Nat → Int32} {i : Int32} (hd : decode cc pc = .ok (.caload, 1)) (hk : k0 < n) (hw : w k0 = cArr 2 N f) (hin : vp_in i N) (kk : Γ (pc + 1) L (aI (f i.toNatClampNeg) :: st) cs n w) : Γ pc L (aI i :: aR k0 :: st) cs n w := by
  obtain ⟨p, e, s, m, args, below, meth, c, D, cT, A, Q, n0, ad0, R, rfl, hx, hb, hml, hown, hnm, hts, hK, hA, hRf, hRl, hRc, hRs⟩ := hΓ
  intro ad H locs ls hE hR hL
  have he := wsW_get (cT := cT) (ad := ad) (w := w) hk
  rw [hw] at he
  exact va_cald hx hb hK.1 hR.1 k0 2 he (ty_char cT) hin hd (kk ad H locs ls hE hR hL)
theorem qa_cast (hΓ : Ok Γ l y cc mL d mc ms) {k0 N : Nat} {f : Nat → Int32} {i x : Int32} (hd : decode cc pc = .ok (.castore, 1)) (hk : k0 < n) (hw : w k0 = cArr 2 N f) (hin : vp_in i N) (kk : Γ (pc + 1) L st cs n (upw w k0 (cArr 2 N (upd f i.toNatClampNeg (vp_nar .char x))))) : Γ pc L (aI x :: aI i :: aR k0 :: st) cs n w := by
  obtain ⟨p, e, s, m, args, below, meth, c, D, cT, A, Q, n0, ad0, R, rfl, hx, hb, hml, hown, hnm, hts, hK, hA, hRf, hRl, hRc, hRs⟩ := hΓ
  intro ad H locs ls hE hR hL
  have he := wsW_get (cT := cT) (ad := ad) (w := w) hk
  rw [hw] at he
  exact va_cast hx hb hK.1 hR.1 hR.2.1 hR.2.2 k0 2 he (ty_char cT) hin hd (fun H1 locs1 g1 g2 g3 => kk ad H1 locs1 ls hE (Rp.set hk g1 g2 g3) hL)
theorem qa_alen (hΓ : Ok Γ l y cc mL d mc ms) {k0 t N : Nat} {f : Nat → Int32} {v : Int32} (hd : decode cc pc = .ok (.arraylength, 1)) (hk : k0 < n) (hw : w k0 = cArr t N f) (ht : t < 3) (hv : nI N = v) (kk : Γ (pc + 1) L (aI v :: st) cs n w) : Γ pc L (aR k0 :: st) cs n w := by
  obtain ⟨p, e, s, m, args, below, meth, c, D, cT, A, Q, n0, ad0, R, rfl, hx, hb, hml, hown, hnm, hts, hK, hA, hRf, hRl, hRc, hRs⟩ := hΓ
  intro ad H locs ls hE hR hL
  have he := wsW_get (cT := cT) (ad := ad) (w := w) hk
  rw [hw] at he
  rcases (show t = 0 ∨ t = 1 ∨ t = 2 by omega) with rfl | rfl | rfl
  · exact va_alen hx hb hK.1 hR.1 k0 0 he (ty_int cT) hv hd (kk ad H locs ls hE hR hL)
  · exact va_alen hx hb hK.1 hR.1 k0 1 he (ty_byte cT) hv hd (kk ad H locs ls hE hR hL)
  · exact va_alen hx hb hK.1 hR.1 k0 2 he (ty_char cT) hv hd (kk ad H locs ls hE hR hL)
theorem qa_alenR (hΓ : Ok Γ l y cc mL d mc ms) {k0 N : Nat} {f : Nat → Option Nat} {v : Int32} (hd : decode cc pc = .ok (.arraylength, 1)) (hk : k0 < n) (hw : w k0 = cRef N f) (hv : nI N = v) (kk : Γ (pc + 1) L (aI v :: st) cs n w) : Γ pc L (aR k0 :: st) cs n w := by
  obtain ⟨p, e, s, m, args, below, meth, c, D, cT, A, Q, n0, ad0, R, rfl, hx, hb, hml, hown, hnm, hts, hK, hA, hRf, hRl, hRc, hRs⟩ := hΓ
  intro ad H locs ls hE hR hL
  have he := wsW_get (cT := cT) (ad := ad) (w := w) hk
  rw [hw] at he
  exact va_alen hx hb hK.1 hR.1 k0 3 he (ty_ref cT) hv hd (kk ad H locs ls hE hR hL)
theorem qa_aald (hΓ : Ok Γ l y cc mL d mc ms) {k0 N : Nat} {f : Nat → Option Nat} {i : Int32} (hd : decode cc pc = .ok (.aaload, 1)) (hk : k0 < n) (hw : w k0 = cRef N f) (hin : vp_in i N) (kk : Γ (pc + 1) L (some (.inr (f i.toNatClampNeg)) :: st) cs n w) : Γ pc L (aI i :: aR k0 :: st) cs n w := by
  obtain ⟨p, e, s, m, args, below, meth, c, D, cT, A, Q, n0, ad0, R, rfl, hx, hb, hml, hown, hnm, hts, hK, hA, hRf, hRl, hRc, hRs⟩ := hΓ
  intro ad H locs ls hE hR hL
  have he := wsW_get (cT := cT) (ad := ad) (w := w) hk
  rw [hw] at he
  have e : va_rf ((f i.toNatClampNeg).map ad) = rv ad (some (.inr (f i.toNatClampNeg))) := by
    cases f i.toNatClampNeg <;> rfl
  refine va_aldq hx hb hK.1 hR.1 k0 3 he (ty_ref cT) hin hd ?_
  rw [e]
  exact kk ad H locs ls hE hR hL
theorem qa_aast (hΓ : Ok Γ l y cc mL d mc ms) {k0 N j ci : Nat} {fs : List AV} {f : Nat → Option Nat} {i : Int32} (hd : decode cc pc = .ok (.aastore, 1)) (hk : k0 < n) (hw : w k0 = cRef N f) (hj : j < n) (hwj : w j = cObj 0 fs) (hin : vp_in i N) (kk : Γ (pc + 1) L st cs n (upw w k0 (cRef N (va_up f i.toNatClampNeg (some j))))) : Γ pc L (aR j :: aI i :: aR k0 :: st) cs n w := by
  obtain ⟨p, e, s, m, args, below, meth, c, D, cT, A, Q, n0, ad0, R, rfl, hx, hb, hml, hown, hnm, hts, hK, hA, hRf, hRl, hRc, hRs⟩ := hΓ
  intro ad H locs ls hE hR hL
  have he := wsW_get (cT := cT) (ad := ad) (w := w) hk
  rw [hw] at he
  have hej := wsW_get (cT := cT) (ad := ad) (w := w) hj
  rw [hwj] at hej
  refine va_astq (r := (RX0, TX0, 15)) hx hb hK.1 hR.1 hR.2.1 hR.2.2 k0 3 j 0 he (ty_ref cT) hej rfl hin hd (fun H1 locs1 g1 g2 g3 => kk ad H1 locs1 ls hE ?_ hL)
  have e : (fun k => (va_up f i.toNatClampNeg (some j) k).map ad) = va_up (fun k => (f k).map ad) i.toNatClampNeg (some (ad j)) := by
    funext k
    by_cases h : k = i.toNatClampNeg <;> simp [va_up, h]
  refine Rp.set hk ?_ ?_ g3
  · show va_P D vwCl ((wsW cT ad n w).set k0 (ad k0, .inl (cT 3, N, .inr (.inr (.inr (.inr (fun k => (va_up f i.toNatClampNeg (some j) k).map ad))))))) H1
    rw [e]
    exact g1
  · show va_D A ((wsW cT ad n w).set k0 (ad k0, .inl (cT 3, N, .inr (.inr (.inr (.inr (fun k => (va_up f i.toNatClampNeg (some j) k).map ad)))))))
    rw [e]
    exact g2
theorem qa_copy (hΓ : Ok Γ l y cc mL d mc ms) {idx k0 k1 N : Nat} {f g : Nat → Int32} {x z v : Int32} (hd : decode cc pc = .ok (.invokestatic idx, 3)) (hl : Cond.methodLink y.cls idx arraycopyName ∈ wsL_law) (h0 : k0 < n) (hw0 : w k0 = cArr 0 N f) (h1 : k1 < n) (hw1 : w k1 = cArr 0 N g) (hx0 : x = 0) (hz0 : z = 0) (hv : v = nI N) (hN : N < 2 ^ 31) (hdd : 1 ≤ d) (hst : st = []) (kk : Γ (pc + 3) L st cs n (upw w k1 (cArr 0 N f))) : Γ pc L (aI v :: aI z :: aR k1 :: aI x :: aR k0 :: st) cs n w := by
  obtain ⟨p, e, s, m, args, below, meth, c, D, cT, A, Q, n0, ad0, R, rfl, hx, hb, hml, hown, hnm, hts, hK, hA, hRf, hRl, hRc, hRs⟩ := hΓ
  intro ad H locs ls hE hR hL
  have e0 := wsW_get (cT := cT) (ad := ad) (w := w) h0
  rw [hw0] at e0
  have e1 := wsW_get (cT := cT) (ad := ad) (w := w) h1
  rw [hw1] at e1
  subst hx0 hz0 hv hst
  have hz : (0 : Int32).toNatClampNeg = 0 := rfl
  refine va_copyi hx hb (by rw [hml]; exact hL.1.symm) hown (hts _ hl) (hts _ cpy_nat) (hts _ cpy_sta) (hts _ cpy_ini) hK.1 hR.1 hR.2.1 hR.2.2 k0 k1 0 0 e0 e1 (ty_int cT) (ty_int cT) rfl (by decide) (by decide) (nI_pos hN) (by rw [hz, nI_clamp hN]; omega) (by rw [hz, nI_clamp hN]; omega) (fun _ _ => rfl) (by omega) (by show 0 + (7 + 11) ≤ _; omega) hd (fun H1 locs1 g1 g2 g3 => kk ad H1 locs1 ls hE ?_ hL)
  have h9 : Rp D cT A s ad n (upw w k1 (cArr 0 N (va_cpy f g 0 0 (nI N).toNatClampNeg))) H1 locs1 := Rp.set h1 g1 g2 g3
  refine h9.ext fun k hk => ?_
  by_cases e : k = k1
  · subst e
    rw [upw_self, upw_self]
    refine Or.inr ⟨0, N, _, f, rfl, rfl, fun j hj => ?_⟩
    rw [nI_clamp hN]
    simp [va_cpy, hj]
  · rw [upw_ne _ _ _ e, upw_ne _ _ _ e]
    exact Or.inl rfl
end
end
section
/-- a method that may be called: its words -/
def MW (z : MethodName) (cz : ByteArray) (mz : Nat) (rz : Option FieldType) (np : Nat) : Prop := Cond.initialized z.cls ∈ wsL_law ∧ Cond.code z cz mz rz ∈ wsL_law ∧ mz ≤ 18 ∧ (z.cls ≠ "java/lang/invoke/MethodHandle" ∧ z.cls ≠ "java/lang/invoke/VarHandle" ∧ (parseMethodDescriptor z.desc).map (fun d => d.parameters.length) = some np)
def VW (z : MethodName) (cz : ByteArray) (mz : Nat) (rz : Option FieldType) (np : Nat) : Prop := MW z cz mz rz np ∧ Cond.instanceMethod z ∈ wsL_law ∧ Cond.selects z.cls z z ∈ wsL_law
def SW (z : MethodName) (cz : ByteArray) (mz : Nat) (rz : Option FieldType) (np : Nat) : Prop := MW z cz mz rz np ∧ Cond.static z ∈ wsL_law
def IW (z : MethodName) (cz : ByteArray) (mz : Nat) (np : Nat) : Prop := MW z cz mz none np ∧ Cond.instanceMethod z ∈ wsL_law ∧ z.name = "<init>"
theorem MW.gi {z : MethodName} {cz : ByteArray} {mz : Nat} {rz : Option FieldType} {np : Nat} (h : MW z cz mz rz np) : GoodIn wsL_law (Cond.code z cz mz rz :: wsL_law) := by
  intro w hw
  rcases List.mem_cons.mp hw with rfl | hw
  · exact ⟨h.2.1, good_of_word (wsL_law_gd _ h.2.1)⟩
  · exact wsL_GI w hw
theorem PcW.blind {D : va_G} {cT : Nat → ClassId} {ad : Nat → Nat} {sz : Nat} {as : List AV} {n : Nat} {w : Nat → AC} : FrameBlind (PcW D cT ad sz as n w) := by
  intro a U g mk h
  obtain ⟨h1, h2, h3, h4, h5⟩ := h
  exact ⟨h1, h2, h3, KK.same (u := U) (U := U.calling g mk a) rfl h4, h5⟩
def okV (n : Nat) (v : AV) : Prop := ∀ k, v = aR k → k < n
theorem okV_I (n : Nat) (x : Int32) : okV n (aI x) := fun k h => by cases h
theorem okV_N (n : Nat) : okV n aN := fun k h => by cases h
theorem okV_0 (n : Nat) : okV n none := fun k h => by cases h
theorem okV_R {n k : Nat} (h : k < n) : okV n (aR k) := fun j e => by cases e; exact h
theorem rv_ok {n : Nat} {ad ad' : Nat → Nat} {v : AV} (h : okV n v) (ha : ∀ j, j < n → ad' j = ad j) : rv ad' v = rv ad v := by
  rcases v with _ | x | _ | k
  · rfl
  · rfl
  · rfl
  · show Value.ref (ad' k) = Value.ref (ad k)
    rw [ha k (h k rfl)]
theorem rvs_ok {n : Nat} {ad ad' : Nat → Nat} (ha : ∀ j, j < n → ad' j = ad j) : ∀ {st : List AV}, (∀ v ∈ st, okV n v) → st.map (rv ad') = st.map (rv ad)
  | [], _ => rfl
  | v :: st, h => by
    rw [List.map_cons, List.map_cons, rv_ok (h v List.mem_cons_self) ha, rvs_ok ha (fun u hu => h u (List.mem_cons_of_mem _ hu))]
theorem lg_mem {L : List AV} {i : Nat} {x : Int32 ⊕ Option Nat} (h : lg L i = some x) : some x ∈ L := by
  have hl := lg_lt h
  unfold lg at h
  rw [List.getD_eq_getElem?_getD, List.getElem?_eq_getElem hl] at h
  rw [← h]
  exact List.getElem_mem hl
theorem Lc.moved {n : Nat} {ad ad' : Nat → Nat} {mL : Nat} {L : List AV} {ls : Array Slot} (h : Lc ad mL L ls) (hok : ∀ v ∈ L, okV n v) (ha : ∀ j, j < n → ad' j = ad j) : Lc ad' mL L ls :=
  ⟨h.1, h.2.1, fun i x hx => by rw [rv_ok (hok _ (lg_mem hx)) ha]; exact h.2.2 i x hx⟩
def okC (n : Nat) : AC → Prop
  | .inl _ => True
  | .inr (.inl (_, f)) => ∀ j i, f j = some i → i < n
  | .inr (.inr (_, fs)) => ∀ v ∈ fs, okV n v
theorem rc_ok {n : Nat} {cT : Nat → ClassId} {ad ad' : Nat → Nat} {c : AC} (h : okC n c) (ha : ∀ j, j < n → ad' j = ad j) : rc cT ad' c = rc cT ad c := by
  rcases c with ⟨t, m, f⟩ | ⟨m, f⟩ | ⟨ci, fs⟩
  · rfl
  · show (Sum.inl (cT 3, m, Sum.inr (Sum.inr (Sum.inr (Sum.inr fun j => (f j).map ad')))) : va_E) = Sum.inl (cT 3, m, Sum.inr (Sum.inr (Sum.inr (Sum.inr fun j => (f j).map ad))))
    have e : (fun j => (f j).map ad') = fun j => (f j).map ad := by
      funext j
      cases hj : f j with
      | none => rfl
      | some i => show some (ad' i) = some (ad i); rw [ha i (h j i hj)]
    rw [e]
  · show (Sum.inr (ci, fs.map (rv ad')) : va_E) = Sum.inr (ci, fs.map (rv ad))
    rw [rvs_ok ha h]
def clW (n : Nat) (w : Nat → AC) : Prop := ∀ k, k < n → okC n (w k)
theorem okV.mono {n m : Nat} {v : AV} (h : okV n v) (hm : n ≤ m) : okV m v := fun k e => Nat.lt_of_lt_of_le (h k e) hm
theorem okC.mono {n m : Nat} {c : AC} (h : okC n c) (hm : n ≤ m) : okC m c := by
  rcases c with ⟨t, q, f⟩ | ⟨q, f⟩ | ⟨ci, fs⟩
  · exact trivial
  · exact fun j i e => Nat.lt_of_lt_of_le (h j i e) hm
  · exact fun v hv => (h v hv).mono hm
theorem clW.up {n : Nat} {w : Nat → AC} {k : Nat} {c : AC} (h : clW n w) (hc : okC n c) : clW n (upw w k c) := by
  intro j hj
  by_cases e : j = k
  · subst e
    rw [upw_self]
    exact hc
  · rw [upw_ne _ _ _ e]
    exact h j hj
theorem clW.push {n : Nat} {w : Nat → AC} {c : AC} (h : clW n w) (hc : okC (n + 1) c) : clW (n + 1) (upw w n c) := by
  intro j hj
  by_cases e : j = n
  · subst e
    rw [upw_self]
    exact hc
  · rw [upw_ne _ _ _ e]
    exact (h j (by omega)).mono (by omega)
section
variable {p : Program} {l : Launch} {e : Env} {R : Room} {s : State} {m : MethodId} {args : Array Value} {below : List Frame} {meth : Method} {c : Code} {H : Heap} {locs : List Loc} {cells slots : Nat} {Q : State → Prop} {pc : Nat} {ls : Array Slot} {rest st0 : List Value}
theorem va_callW {D : va_G} {cT : Nat → ClassId} {A : Nat → Prop} {ad : Nat → Nat} {n : Nat} {w : Nat → AC} {Qa : Option AV → Nat → (Nat → AC) → Prop} {a : Array Value} {mc ms : Nat} {free : Addr → Prop} (hr : va_Run p l e R s m args below meth c H locs cells slots mc ms (F0 m pc ls st0) rest (QcW D cT ad H.size n w Qa a) free) (hS : va_S A s.heap H locs) (hA : ∀ q, va_A (wsW cT ad n w) H.size q → A q) (hf : ∀ q, free q → A q)
    (kk : ∀ (r : Option AV) (ad' : Nat → Nat) (n' : Nat) (w' : Nat → AC) (H1 : Heap) (locs1 : List Loc), Qa r n' w' → Ex n ad n' ad' → Rp D cT A s ad' n' w' H1 locs1 → W p l e R s m args below meth c H1 locs1 (cells + mc) (slots + ms) Q (F0 m (pc + 3) ls ((r.map (rv ad')).toList ++ rest))) : W p l e R s m args below meth c H locs cells slots Q (F0 m pc ls st0) := by
  intro T hT X
  obtain ⟨v, st₀, t, T', L, h0, X', hL, e1, e2, ⟨⟨r, ad', n', w', hv, hq, hex, hP', hD'⟩, hz, hk⟩, st⟩ := hr T hT X
  cases hv
  rw [h0] at hz hk
  obtain ⟨t2, a1, b1⟩ := kk r ad' n' w' T'.heap (locs ++ L) hq hex ⟨by rw [e1]; exact hP', hD'.weaken (fun _ q _ h => hA q.1 h), Nat.le_trans hS.1 (by rw [e1]; exact hz), fun q h1 h2 => by rw [e1, hk q (Nat.lt_of_lt_of_le h1 hS.1) (fun z => h2 (hA q z))]; exact hS.2.1 q h1 h2, fun q hq => by
      rcases List.mem_append.mp hq with h | h
      · exact hS.2.2 q h
      · exact hf _ (hL q h)⟩ T' rfl X'
  exact ⟨t2, st t2 a1, b1⟩
theorem vaA_in {cT : Nat → ClassId} {A : Nat → Prop} {ad : Nat → Nat} {n : Nat} {w : Nat → AC} {H0 : Heap} (hD : va_D A (wsW cT ad n w)) (hS : va_S A H0 H locs) (hA : ∀ q : Nat, H0.size ≤ q → A q) : ∀ q, va_A (wsW cT ad n w) H.size q → A q := by
  intro q h
  rcases h with ⟨k, e, h⟩ | h
  · exact hD.2 k _ h
  · exact hA q (Nat.le_trans hS.1 h)
end
section
variable {Γ : Gm} {l : Launch} {y : MethodName} {cc : ByteArray} {mL d mc ms : Nat} {pc n : Nat} {L st : List AV} {cs : Nat × Nat} {w : Nat → AC}
variable {idx mz np d' mc' ms' k0 : Nat} {z : MethodName} {cz : ByteArray} {rz : Option FieldType} {as st0 : List AV} {Qa : Option AV → Nat → (Nat → AC) → Prop}
theorem qa_callV (hΓ : Ok Γ l y cc mL d mc ms) (hd : decode cc pc = .ok (.invokevirtual idx, 3)) (hlk : Cond.methodLink y.cls idx z ∈ wsL_law) (hz : VW z cz mz rz np) (hS : Sp l z cz mz rz d' 0 0 (aR k0 :: as) n w Qa) (hdd : d' + 1 ≤ d) (hnp : as.length = np) {ci : Nat} {fs : List AV} {T : u_T} {N : Nat} (hk : k0 < n) (hw : w k0 = cObj ci fs) (hc : vwCl[ci]? = some (z.cls, T, N)) (hst : st0 = as.reverse ++ aR k0 :: st) (hl8 : st.length ≤ 8) (hcs : cs.1 ≤ mc ∧ cs.2 ≤ ms) (hq : ∀ r n' w', Qa r n' w' → n' = n) (kk : ∀ r w', Qa r n w' → Γ (pc + 3) L (r.toList ++ st) cs n w') : Γ pc L st0 cs n w := by
  obtain ⟨p, e, s, m, args, below, meth, c, D, cT, A, Q, n0, ad0, R, rfl, hx, hb, hml, hown, hnm, hts, hK, hA, hRf, hRl, hRc, hRs⟩ := hΓ
  intro ad H locs ls hE hR hL
  have he := wsW_get (cT := cT) (ad := ad) (w := w) hk
  rw [hw] at he
  obtain ⟨⟨z1, z2, z3, z4⟩, z5, z6⟩ := id hz
  subst hst
  refine va_callW (A := A) (va_runV (As := as.map (rv ad)) (rest := st.map (rv ad)) ⟨hx, hb, hml, hown, hts⟩ (hS D cT ad H.size) ⟨callB_of np hts hz.1.gi rfl rfl rfl (hts _ z1) (hts _ hlk) z4 ⟨by show d' + 1 ≤ _; omega, by show 8 + (mz + 11) + 37 * d' ≤ _; omega⟩, hts _ z5, hts _ z6⟩ ⟨PcW.blind, va_recv hK.1 hR.1 (ci := ci) (q0 := k0) hc he, fun U hU hW => ⟨rfl, by rw [hU], by rw [hU]; exact hR.1, KK.warm hW hK, hR.2.1.weaken (fun _ _ _ _ => trivial)⟩⟩ rfl (by rw [List.length_map]; exact hnp) hL.1 (by show List.map (rv ad) _ = _; rw [List.map_append, List.map_reverse]; rfl) (lv_room (by rw [rv_sum]; exact hl8)) hd ⟨by rw [hRc]; exact hcs.1, by rw [hRs]; exact hcs.2⟩) hR.2.2 (vaA_in hR.2.1 hR.2.2 hA) (vaA_in hR.2.1 hR.2.2 hA) (fun r ad' n' w' H1 locs1 q1 q2 q3 => ?_)
  have e := hq r n' w' q1
  subst e
  have e2 := q2.1 rfl
  subst e2
  have h9 := kk r w' q1 ad' H1 locs1 ls (hE.tr q2) q3 hL
  cases r with
  | none => exact h9
  | some v => exact h9
theorem qa_callS (hΓ : Ok Γ l y cc mL d mc ms) (hd : decode cc pc = .ok (.invokestatic idx, 3)) (hlk : Cond.methodLink y.cls idx z ∈ wsL_law) (hz : SW z cz mz rz np) (hS : Sp l z cz mz rz d' 0 0 as n w Qa) (hdd : d' + 1 ≤ d) (hnp : as.length = np) (hst : st0 = as.reverse ++ st) (hl8 : st.length ≤ 8) (hcs : cs.1 ≤ mc ∧ cs.2 ≤ ms) (hq : ∀ r n' w', Qa r n' w' → n' = n) (kk : ∀ r w', Qa r n w' → Γ (pc + 3) L (r.toList ++ st) cs n w') : Γ pc L st0 cs n w := by
  obtain ⟨p, e, s, m, args, below, meth, c, D, cT, A, Q, n0, ad0, R, rfl, hx, hb, hml, hown, hnm, hts, hK, hA, hRf, hRl, hRc, hRs⟩ := hΓ
  intro ad H locs ls hE hR hL
  obtain ⟨⟨z1, z2, z3, z4⟩, z5⟩ := id hz
  subst hst
  refine va_callW (A := A) (va_runS (As := as.map (rv ad)) (rest := st.map (rv ad)) ⟨hx, hb, hml, hown, hts⟩ (hS D cT ad H.size) ⟨callB_of np hts hz.1.gi rfl rfl rfl (hts _ z1) (hts _ hlk) z4 ⟨by show d' + 1 ≤ _; omega, by show 8 + (mz + 11) + 37 * d' ≤ _; omega⟩, hts _ z5⟩ ⟨PcW.blind, fun U hU hW => ⟨rfl, by rw [hU], by rw [hU]; exact hR.1, KK.warm hW hK, hR.2.1.weaken (fun _ _ _ _ => trivial)⟩⟩ rfl (by rw [List.length_map]; exact hnp) hL.1 (by show List.map (rv ad) _ = _; rw [List.map_append, List.map_reverse]) (lv_room (by rw [rv_sum]; exact hl8)) hd ⟨by rw [hRc]; exact hcs.1, by rw [hRs]; exact hcs.2⟩) hR.2.2 (vaA_in hR.2.1 hR.2.2 hA) (vaA_in hR.2.1 hR.2.2 hA) (fun r ad' n' w' H1 locs1 q1 q2 q3 => ?_)
  have e := hq r n' w' q1
  subst e
  have e2 := q2.1 rfl
  subst e2
  have h9 := kk r w' q1 ad' H1 locs1 ls (hE.tr q2) q3 hL
  cases r with
  | none => exact h9
  | some v => exact h9
theorem qa_callN (hΓ : Ok Γ l y cc mL d mc ms) (hd : decode cc pc = .ok (.invokestatic idx, 3)) (hlk : (y.cls, idx, z) ∈ nestG) (hz : SW z cz mz rz np) (hS : Sp l z cz mz rz d' 0 0 as n w Qa) (hdd : d' + 1 ≤ d) (hnp : as.length = np) (hst : st0 = as.reverse ++ st) (hl8 : st.length ≤ 8) (hcs : cs.1 ≤ mc ∧ cs.2 ≤ ms) (hq : ∀ r n' w', Qa r n' w' → n' = n) (kk : ∀ r w', Qa r n w' → Γ (pc + 3) L (r.toList ++ st) cs n w') : Γ pc L st0 cs n w := by
  obtain ⟨p, e, s, m, args, below, meth, c, D, cT, A, Q, n0, ad0, R, rfl, hx, hb, hml, hown, hnm, hts, hK, hA, hRf, hRl, hRc, hRs⟩ := hΓ
  intro ad H locs ls hE hR hL
  obtain ⟨⟨z1, z2, z3, z4⟩, z5⟩ := id hz
  subst hst
  refine va_callW (A := A) (va_runSN (As := as.map (rv ad)) (rest := st.map (rv ad)) ⟨hx, hb, hml, hown, hts⟩ (hS D cT ad H.size) ⟨va_cnB np hts hz.1.gi rfl rfl rfl (hK.2.2 _ hlk) (hts _ z1) z4 ⟨by show d' + 1 ≤ _; omega, by show 8 + (mz + 11) + 37 * d' ≤ _; omega⟩, hts _ z5, trivial⟩ ⟨PcW.blind, fun U hU hW => ⟨rfl, by rw [hU], by rw [hU]; exact hR.1, KK.warm hW hK, hR.2.1.weaken (fun _ _ _ _ => trivial)⟩⟩ rfl (by rw [List.length_map]; exact hnp) hL.1 (by show List.map (rv ad) _ = _; rw [List.map_append, List.map_reverse]) (lv_room (by rw [rv_sum]; exact hl8)) hd ⟨by rw [hRc]; exact hcs.1, by rw [hRs]; exact hcs.2⟩) hR.2.2 (vaA_in hR.2.1 hR.2.2 hA) (vaA_in hR.2.1 hR.2.2 hA) (fun r ad' n' w' H1 locs1 q1 q2 q3 => ?_)
  have e := hq r n' w' q1
  subst e
  have e2 := q2.1 rfl
  subst e2
  have h9 := kk r w' q1 ad' H1 locs1 ls (hE.tr q2) q3 hL
  cases r with
  | none => exact h9
  | some v => exact h9
theorem qa_callI (hΓ : Ok Γ l y cc mL d mc ms) (hd : decode cc pc = .ok (.invokespecial idx, 3)) (hlk : Cond.methodLink y.cls idx z ∈ wsL_law) (hz : IW z cz mz np) (hS : Sp l z cz mz none d' mc' ms' (aR k0 :: as) n w Qa) (hdd : d' + 1 ≤ d) (hnp : as.length = np) (hst : st0 = as.reverse ++ aR k0 :: st) (hl8 : st.length ≤ 8) (hcs : cs.1 + mc' ≤ mc ∧ cs.2 + ms' ≤ ms) (hq : ∀ r n' w', Qa r n' w' → r = none) (hokL : ∀ v ∈ L, okV n v) (hokS : ∀ v ∈ st, okV n v) (kk : ∀ n' w', n ≤ n' → Qa none n' w' → Γ (pc + 3) L st (cs.1 + mc', cs.2 + ms') n' w') : Γ pc L st0 cs n w := by
  obtain ⟨p, e, s, m, args, below, meth, c, D, cT, A, Q, n0, ad0, R, rfl, hx, hb, hml, hown, hnm, hts, hK, hA, hRf, hRl, hRc, hRs⟩ := hΓ
  intro ad H locs ls hE hR hL
  obtain ⟨⟨z1, z2, z3, z4⟩, z5, z6⟩ := id hz
  subst hst
  refine va_callW (A := A) (va_runI (As := as.map (rv ad)) (b := ad k0) (rest := st.map (rv ad)) ⟨hx, hb, hml, hown, hts⟩ (hS D cT ad H.size) ⟨callB_of np hts hz.1.gi rfl rfl rfl (hts _ z1) (hts _ hlk) z4 ⟨by show d' + 1 ≤ _; omega, by show 8 + (mz + 11) + 37 * d' ≤ _; omega⟩, z6, hts _ z5⟩ ⟨PcW.blind, fun U hU hW => ⟨rfl, by rw [hU], by rw [hU]; exact hR.1, KK.warm hW hK, hR.2.1.weaken (fun _ _ _ _ => trivial)⟩⟩ rfl (by rw [List.length_map]; exact hnp) hL.1 (by show List.map (rv ad) _ = _; rw [List.map_append, List.map_reverse]; rfl) (lv_room (by rw [rv_sum]; exact hl8)) hd ⟨by rw [hRc]; exact hcs.1, by rw [hRs]; exact hcs.2⟩) hR.2.2 (vaA_in hR.2.1 hR.2.2 hA) (vaA_in hR.2.1 hR.2.2 hA) (fun r ad' n' w' H1 locs1 q1 q2 q3 => ?_)
  have e := hq r n' w' q1
  subst e
  have h9 := kk n' w' q2.2.1 q1 ad' H1 locs1 ls (hE.tr q2) q3 (hL.moved hokL q2.2.2)
  rw [rvs_ok q2.2.2 hokS] at h9
  exact h9
theorem qa_callIN (hΓ : Ok Γ l y cc mL d mc ms) (hd : decode cc pc = .ok (.invokespecial idx, 3)) (hlk : (y.cls, idx, z) ∈ nestG) (hz : IW z cz mz np) (hS : Sp l z cz mz none d' mc' ms' (aR k0 :: as) n w Qa) (hdd : d' + 1 ≤ d) (hnp : as.length = np) (hst : st0 = as.reverse ++ aR k0 :: st) (hl8 : st.length ≤ 8) (hcs : cs.1 + mc' ≤ mc ∧ cs.2 + ms' ≤ ms) (hq : ∀ r n' w', Qa r n' w' → r = none) (hokL : ∀ v ∈ L, okV n v) (hokS : ∀ v ∈ st, okV n v) (kk : ∀ n' w', n ≤ n' → Qa none n' w' → Γ (pc + 3) L st (cs.1 + mc', cs.2 + ms') n' w') : Γ pc L st0 cs n w := by
  obtain ⟨p, e, s, m, args, below, meth, c, D, cT, A, Q, n0, ad0, R, rfl, hx, hb, hml, hown, hnm, hts, hK, hA, hRf, hRl, hRc, hRs⟩ := hΓ
  intro ad H locs ls hE hR hL
  obtain ⟨⟨z1, z2, z3, z4⟩, z5, z6⟩ := id hz
  subst hst
  refine va_callW (A := A) (va_runIN (As := as.map (rv ad)) (b := ad k0) (rest := st.map (rv ad)) ⟨hx, hb, hml, hown, hts⟩ (hS D cT ad H.size) ⟨va_cnB np hts hz.1.gi rfl rfl rfl (hK.2.2 _ hlk) (hts _ z1) z4 ⟨by show d' + 1 ≤ _; omega, by show 8 + (mz + 11) + 37 * d' ≤ _; omega⟩, z6, hts _ z5⟩ ⟨PcW.blind, fun U hU hW => ⟨rfl, by rw [hU], by rw [hU]; exact hR.1, KK.warm hW hK, hR.2.1.weaken (fun _ _ _ _ => trivial)⟩⟩ rfl (by rw [List.length_map]; exact hnp) hL.1 (by show List.map (rv ad) _ = _; rw [List.map_append, List.map_reverse]; rfl) (lv_room (by rw [rv_sum]; exact hl8)) hd ⟨by rw [hRc]; exact hcs.1, by rw [hRs]; exact hcs.2⟩) hR.2.2 (vaA_in hR.2.1 hR.2.2 hA) (vaA_in hR.2.1 hR.2.2 hA) (fun r ad' n' w' H1 locs1 q1 q2 q3 => ?_)
  have e := hq r n' w' q1
  subst e
  have h9 := kk n' w' q2.2.1 q1 ad' H1 locs1 ls (hE.tr q2) q3 (hL.moved hokL q2.2.2)
  rw [rvs_ok q2.2.2 hokS] at h9
  exact h9
end
end
section
theorem arr_int : Cond.arrayClass .int ∈ wsL_law := List.mem_of_getElem? (i := 34) (by decide +kernel)
theorem arr_byte : Cond.arrayClass .byte ∈ wsL_law := List.mem_of_getElem? (i := 66) (by decide +kernel)
theorem arr_char : Cond.arrayClass .char ∈ wsL_law := List.mem_of_getElem? (i := 52) (by decide +kernel)
theorem obj_ins : Cond.instanceMethod Lib.objectInit ∈ wsL_law := List.mem_of_getElem? (i := 10) (by decide +kernel)
theorem obj_cod : Cond.code Lib.objectInit ⟨#[0xb1]⟩ 1 none ∈ wsL_law := List.mem_of_getElem? (i := 11) (by decide +kernel)
def adN (ad : Nat → Nat) (n q : Nat) : Nat → Nat := fun j => if j = n then q else ad j
theorem adN_lt {ad : Nat → Nat} {n q : Nat} : ∀ j, j < n → adN ad n q j = ad j := fun j hj => by
  unfold adN
  rw [if_neg (by omega)]
theorem Ex.push {n0 n q : Nat} {ad0 ad : Nat → Nat} (h : Ex n0 ad0 n ad) : Ex n0 ad0 (n + 1) (adN ad n q) := by
  obtain ⟨h1, h2, h3⟩ := h
  exact ⟨fun e => by omega, by omega, fun j hj => (adN_lt j (by omega)).trans (h3 j hj)⟩
theorem wsW_new {cT : Nat → ClassId} {ad : Nat → Nat} {n q : Nat} {w : Nat → AC} {c : AC} (hc : clW n w) (hi : ∀ a b : Nat → Nat, rc cT a c = rc cT b c) : wsW cT ad n w ++ [(q, rc cT ad c)] = wsW cT (adN ad n q) (n + 1) (upw w n c) := by
  rw [← wsW_push (ad := ad) (ad' := adN ad n q) (q := q) c (by simp [adN]) adN_lt (fun k hk => rc_ok (hc k hk) adN_lt), hi ad (adN ad n q)]
/-- a class that may be made: its words, and the fields of a new object -/
def CLK (own : String) (idx ci : Nat) (N : Nat) (fs : List AV) : Prop := ∃ (C : String) (T : u_T) (ty0 : Nat → FieldType), vwCl[ci]? = some (C, T, N) ∧ (∀ w ∈ u_ws C T N, w ∈ wsL_law) ∧ (∀ j, j < N → parseFieldDescriptor (T j).2.2.1 = some (ty0 j)) ∧ Cond.classLink own idx C ∈ wsL_law ∧ Cond.instantiable C N ∈ wsL_law ∧ Cond.initialized C ∈ wsL_law ∧ (∀ (ad : Nat → Nat) (j : Nat), j < N → defaultValue (ty0 j) = vp_V (fs.map (rv ad)) j) ∧ (∀ a b : Nat → Nat, fs.map (rv a) = fs.map (rv b))
theorem same_cls {D : va_G} {cT : Nat → ClassId} {s : State} (hK : KK D cT s) (t : Nat) {ty : FieldType} (ht : (tysG cT)[t]? = some (cT t, ty)) {cA : ClassId} (h2 : va_K D vwCl (tysG cT ++ [(cA, ty)]) s) : cA = cT t := by
  have h1 := (hK.1.2 t _ ht).2
  have h3 := (h2.2 4 (cA, ty) (by simp [tysG])).2
  have key : ∀ c, va_RA s c ty → s.vm.findClass ("[" ++ ty.toString) = some c := by
    intro c hc
    cases ty with
    | object C => obtain ⟨_, _, _, _, _, h⟩ := hc; exact h
    | _ => exact hc
  exact Option.some.inj ((key _ h3).symm.trans (key _ h1))
section
variable {Γ : Gm} {l : Launch} {y : MethodName} {cc : ByteArray} {mL d mc ms : Nat} {pc n : Nat} {L st : List AV} {cs : Nat × Nat} {w : Nat → AC}
theorem qa_new (hΓ : Ok Γ l y cc mL d mc ms) {idx ci N : Nat} {fs : List AV} (hd : decode cc pc = .ok (.new idx, 3)) (hc : CLK y.cls idx ci N fs) (hcs : cs.1 + 1 ≤ mc ∧ cs.2 + N ≤ ms) (hw : clW n w) (hokL : ∀ v ∈ L, okV n v) (hokS : ∀ v ∈ st, okV n v) (kk : Γ (pc + 3) L (aR n :: st) (cs.1 + 1, cs.2 + N) (n + 1) (upw w n (cObj ci fs))) : Γ pc L st cs n w := by
  obtain ⟨p, e, s, m, args, below, meth, c, D, cT, A, Q, n0, ad0, R, rfl, hx, hb, hml, hown, hnm, hts, hK, hA, hRf, hRl, hRc, hRs⟩ := hΓ
  intro ad H locs ls hE hR hL
  obtain ⟨C, T, ty0, f1, f2, f3, f4, f5, f6, f7, f8⟩ := hc
  refine va_new (fs := fs.map (rv ad)) (C := C) (T := T) (N := N) hx hb hts f2 ty0 f3 hown (hts _ f4) (hts _ f5) (hts _ f6) hK.1 hR.1 hR.2.1 hR.2.2 hA f1 (f7 ad) (by rw [hRc]; exact hcs.1) (by rw [hRs]; exact hcs.2) hd (fun q H1 g1 g2 g3 => ?_)
  have e := wsW_new (cT := cT) (ad := ad) (q := q) (c := cObj ci fs) hw (fun a b => by show (Sum.inr (ci, fs.map (rv a)) : va_E) = Sum.inr (ci, fs.map (rv b)); rw [f8 a b])
  have h9 := kk (adN ad n q) H1 locs ls hE.push ⟨e ▸ g1, e ▸ g2, g3⟩ (hL.moved hokL adN_lt)
  rw [List.map_cons, rvs_ok adN_lt hokS, show rv (adN ad n q) (aR n) = Value.ref q by simp [rv, adN]] at h9
  exact h9
theorem qa_newa_int (hΓ : Ok Γ l y cc mL d mc ms) {N : Nat} {v : Int32} (hd : decode cc pc = .ok (.newarray .int, 2)) (hv : v = nI N) (hN : N < 1000000) (hcs : cs.1 + 1 ≤ mc ∧ cs.2 + N ≤ ms) (hw : clW n w) (hokL : ∀ v ∈ L, okV n v) (hokS : ∀ v ∈ st, okV n v) (kk : Γ (pc + 2) L (aR n :: st) (cs.1 + 1, cs.2 + N) (n + 1) (upw w n (cArr 0 N (fun _ => 0)))) : Γ pc L (aI v :: st) cs n w := by
  obtain ⟨p, e, s, m, args, below, meth, c, D, cT, A, Q, n0, ad0, R, rfl, hx, hb, hml, hown, hnm, hts, hK, hA, hRf, hRl, hRc, hRs⟩ := hΓ
  intro ad H locs ls hE hR hL
  subst hv
  refine va_newa (atype := .int) (ty := .int) (a0 := (N, .inl (fun _ => 0))) hx hb (hts _ arr_int) rfl hK.1 hR.1 hR.2.1 hR.2.2 hA (fun _ => rfl) (nI_pos (by omega)) (nI_clamp (by omega)) (Nat.le_trans (Nat.mul_le_mul_left N (show componentBytes .int ≤ 8 by decide)) (by omega)) (by rw [hRc]; exact hcs.1) (by rw [hRs]; exact hcs.2) hd (fun q cA H1 g0 g1 g2 g3 => ?_)
  have ec := same_cls hK 0 (ty_int cT) g0
  subst ec
  have e := wsW_new (cT := cT) (ad := ad) (q := q) (c := cArr 0 N (fun _ => 0)) hw (fun _ _ => rfl)
  have h9 := kk (adN ad n q) H1 locs ls hE.push ⟨e ▸ g1, e ▸ g2, g3⟩ (hL.moved hokL adN_lt)
  rw [List.map_cons, rvs_ok adN_lt hokS, show rv (adN ad n q) (aR n) = Value.ref q by simp [rv, adN]] at h9
  exact h9
theorem qa_newa_byte (hΓ : Ok Γ l y cc mL d mc ms) {N : Nat} {v : Int32} (hd : decode cc pc = .ok (.newarray .byte, 2)) (hv : v = nI N) (hN : N < 1000000) (hcs : cs.1 + 1 ≤ mc ∧ cs.2 + N ≤ ms) (hw : clW n w) (hokL : ∀ v ∈ L, okV n v) (hokS : ∀ v ∈ st, okV n v) (kk : Γ (pc + 2) L (aR n :: st) (cs.1 + 1, cs.2 + N) (n + 1) (upw w n (cArr 1 N (fun _ => 0)))) : Γ pc L (aI v :: st) cs n w := by
  obtain ⟨p, e, s, m, args, below, meth, c, D, cT, A, Q, n0, ad0, R, rfl, hx, hb, hml, hown, hnm, hts, hK, hA, hRf, hRl, hRc, hRs⟩ := hΓ
  intro ad H locs ls hE hR hL
  subst hv
  refine va_newa (atype := .byte) (ty := .byte) (a0 := (N, .inl (fun _ => 0))) hx hb (hts _ arr_byte) rfl hK.1 hR.1 hR.2.1 hR.2.2 hA (fun _ => rfl) (nI_pos (by omega)) (nI_clamp (by omega)) (Nat.le_trans (Nat.mul_le_mul_left N (show componentBytes .byte ≤ 8 by decide)) (by omega)) (by rw [hRc]; exact hcs.1) (by rw [hRs]; exact hcs.2) hd (fun q cA H1 g0 g1 g2 g3 => ?_)
  have ec := same_cls hK 1 (ty_byte cT) g0
  subst ec
  have e := wsW_new (cT := cT) (ad := ad) (q := q) (c := cArr 1 N (fun _ => 0)) hw (fun _ _ => rfl)
  have h9 := kk (adN ad n q) H1 locs ls hE.push ⟨e ▸ g1, e ▸ g2, g3⟩ (hL.moved hokL adN_lt)
  rw [List.map_cons, rvs_ok adN_lt hokS, show rv (adN ad n q) (aR n) = Value.ref q by simp [rv, adN]] at h9
  exact h9
theorem qa_newa_char (hΓ : Ok Γ l y cc mL d mc ms) {N : Nat} {v : Int32} (hd : decode cc pc = .ok (.newarray .char, 2)) (hv : v = nI N) (hN : N < 1000000) (hcs : cs.1 + 1 ≤ mc ∧ cs.2 + N ≤ ms) (hw : clW n w) (hokL : ∀ v ∈ L, okV n v) (hokS : ∀ v ∈ st, okV n v) (kk : Γ (pc + 2) L (aR n :: st) (cs.1 + 1, cs.2 + N) (n + 1) (upw w n (cArr 2 N (fun _ => 0)))) : Γ pc L (aI v :: st) cs n w := by
  obtain ⟨p, e, s, m, args, below, meth, c, D, cT, A, Q, n0, ad0, R, rfl, hx, hb, hml, hown, hnm, hts, hK, hA, hRf, hRl, hRc, hRs⟩ := hΓ
  intro ad H locs ls hE hR hL
  subst hv
  refine va_newa (atype := .char) (ty := .char) (a0 := (N, .inl (fun _ => 0))) hx hb (hts _ arr_char) rfl hK.1 hR.1 hR.2.1 hR.2.2 hA (fun _ => rfl) (nI_pos (by omega)) (nI_clamp (by omega)) (Nat.le_trans (Nat.mul_le_mul_left N (show componentBytes .char ≤ 8 by decide)) (by omega)) (by rw [hRc]; exact hcs.1) (by rw [hRs]; exact hcs.2) hd (fun q cA H1 g0 g1 g2 g3 => ?_)
  have ec := same_cls hK 2 (ty_char cT) g0
  subst ec
  have e := wsW_new (cT := cT) (ad := ad) (q := q) (c := cArr 2 N (fun _ => 0)) hw (fun _ _ => rfl)
  have h9 := kk (adN ad n q) H1 locs ls hE.push ⟨e ▸ g1, e ▸ g2, g3⟩ (hL.moved hokL adN_lt)
  rw [List.map_cons, rvs_ok adN_lt hokS, show rv (adN ad n q) (aR n) = Value.ref q by simp [rv, adN]] at h9
  exact h9
theorem qa_newq (hΓ : Ok Γ l y cc mL d mc ms) {idx N : Nat} {v : Int32} (hd : decode cc pc = .ok (.anewarray idx, 3)) (hc : Cond.classLink y.cls idx "RelayBank$Bank" ∈ wsL_law) (hv : v = nI N) (hN : N < 1000000) (hcs : cs.1 + 1 ≤ mc ∧ cs.2 + N ≤ ms) (hw : clW n w) (hokL : ∀ v ∈ L, okV n v) (hokS : ∀ v ∈ st, okV n v) (kk : Γ (pc + 3) L (aR n :: st) (cs.1 + 1, cs.2 + N) (n + 1) (upw w n (cRef N (fun _ => none)))) : Γ pc L (aI v :: st) cs n w := by
  obtain ⟨p, e, s, m, args, below, meth, c, D, cT, A, Q, n0, ad0, R, rfl, hx, hb, hml, hown, hnm, hts, hK, hA, hRf, hRl, hRc, hRs⟩ := hΓ
  intro ad H locs ls hE hR hL
  subst hv
  refine va_newq (C := "RelayBank$Bank") hx hb hown (hts _ hc) hK.2.1 hK.1 hR.1 hR.2.1 hR.2.2 hA (nI_pos (by omega)) (nI_clamp (by omega)) (by omega) (by rw [hRc]; exact hcs.1) (by rw [hRs]; exact hcs.2) hd (fun q cA H1 g0 g1 g2 g3 => ?_)
  have ec := same_cls hK 3 (ty_ref cT) g0
  subst ec
  have e := wsW_new (cT := cT) (ad := ad) (q := q) (c := cRef N (fun _ => none)) hw (fun _ _ => rfl)
  have h9 := kk (adN ad n q) H1 locs ls hE.push ⟨e ▸ g1, e ▸ g2, g3⟩ (hL.moved hokL adN_lt)
  rw [List.map_cons, rvs_ok adN_lt hokS, show rv (adN ad n q) (aR n) = Value.ref q by simp [rv, adN]] at h9
  exact h9
theorem qa_objInit (hΓ : Ok Γ l y cc mL d mc ms) {idx k0 : Nat} (hd : decode cc pc = .ok (.invokespecial idx, 3)) (hlk : Cond.methodLink y.cls idx Lib.objectInit ∈ wsL_law) (hdd : 1 ≤ d) (hl8 : st.length ≤ 8) (kk : Γ (pc + 3) L st cs n w) : Γ pc L (aR k0 :: st) cs n w := by
  obtain ⟨p, e, s, m, args, below, meth, c, D, cT, A, Q, n0, ad0, R, rfl, hx, hb, hml, hown, hnm, hts, hK, hA, hRf, hRl, hRc, hRs⟩ := hΓ
  intro ad H locs ls hE hR hL
  refine W.objInit hx hb hown (hts _ hlk) (hts _ obj_ins) (hts _ obj_cod) rfl (by rw [hml]; exact hL.1) rfl hd (by omega) (by
    have h1 := rv_sum ad st
    have h2 := lv_room (m := m) (pc := pc) (ls := ls) (rest := st.map (rv ad)) (st := st.map (rv ad)) (by rw [h1]; exact hl8)
    show 2 * 0 + ((st.map (rv ad)).map fun v => v.category).sum + 12 ≤ R.locals
    omega) ?_
  exact kk ad H locs ls hE hR hL
end
end
section
theorem clk_L_7 : Cond.classLink RL 7 RX5 ∈ wsL_law := List.mem_of_getElem? (i := 0) (by decide +kernel)
theorem clk_L_10 : Cond.classLink RL 10 RX6 ∈ wsL_law := List.mem_of_getElem? (i := 3) (by decide +kernel)
theorem lk_L_9 : Cond.methodLink RL 9 yX5_init ∈ wsL_law := List.mem_of_getElem? (i := 6) (by decide +kernel)
theorem lk_X5_3 : Cond.methodLink RX5 3 objectInit ∈ wsL_law := List.mem_of_getElem? (i := 9) (by decide +kernel)
theorem clk_X5_9 : Cond.classLink RX5 9 RX0 ∈ wsL_law := List.mem_of_getElem? (i := 12) (by decide +kernel)
theorem fk_X5_12 : FLK RX5 12 4 0 true (.object "RelayBank$Bank") := ⟨RX5, TX5, 6, tyX5, rfl, inlX5, by decide, List.mem_of_getElem? (i := 15) (by decide +kernel), tyX5_ok, nmX5, rfl, tyX5_ok 0 (by decide), rfl⟩
theorem clk_X5_16 : Cond.classLink RX5 16 RX3 ∈ wsL_law := List.mem_of_getElem? (i := 16) (by decide +kernel)
theorem fk_X5_19 : FLK RX5 19 4 1 true (.object "RelayBank$Past") := ⟨RX5, TX5, 6, tyX5, rfl, inlX5, by decide, List.mem_of_getElem? (i := 19) (by decide +kernel), tyX5_ok, nmX5, rfl, tyX5_ok 1 (by decide), rfl⟩
theorem clk_X5_23 : Cond.classLink RX5 23 RX4 ∈ wsL_law := List.mem_of_getElem? (i := 20) (by decide +kernel)
theorem fk_X5_26 : FLK RX5 26 4 2 true (.object "RelayBank$Text") := ⟨RX5, TX5, 6, tyX5, rfl, inlX5, by decide, List.mem_of_getElem? (i := 23) (by decide +kernel), tyX5_ok, nmX5, rfl, tyX5_ok 2 (by decide), rfl⟩
theorem clk_X5_30 : Cond.classLink RX5 30 RX2 ∈ wsL_law := List.mem_of_getElem? (i := 24) (by decide +kernel)
theorem fk_X5_33 : FLK RX5 33 4 3 true (.object "RelayBank$CircuitReader") := ⟨RX5, TX5, 6, tyX5, rfl, inlX5, by decide, List.mem_of_getElem? (i := 27) (by decide +kernel), tyX5_ok, nmX5, rfl, tyX5_ok 3 (by decide), rfl⟩
theorem fk_X5_37 : FLK RX5 37 4 4 true (.object "RelayBank$Bank") := ⟨RX5, TX5, 6, tyX5, rfl, inlX5, by decide, List.mem_of_getElem? (i := 28) (by decide +kernel), tyX5_ok, nmX5, rfl, tyX5_ok 4 (by decide), rfl⟩
theorem fk_X5_40 : FLK RX5 40 4 5 true (.object "RelayBank$Bank") := ⟨RX5, TX5, 6, tyX5, rfl, inlX5, by decide, List.mem_of_getElem? (i := 29) (by decide +kernel), tyX5_ok, nmX5, rfl, tyX5_ok 5 (by decide), rfl⟩
theorem lk_X5_11 : Cond.methodLink RX5 11 yX0_init ∈ wsL_law := List.mem_of_getElem? (i := 30) (by decide +kernel)
theorem lk_X0_3 : Cond.methodLink RX0 3 objectInit ∈ wsL_law := List.mem_of_getElem? (i := 33) (by decide +kernel)
theorem fk_X0_9 : FLK RX0 9 0 0 true (.array .int) := ⟨RX0, TX0, 15, tyX0, rfl, inlX0, by decide, List.mem_of_getElem? (i := 35) (by decide +kernel), tyX0_ok, nmX0, rfl, tyX0_ok 0 (by decide), rfl⟩
theorem fk_X0_15 : FLK RX0 15 0 1 true (.array .int) := ⟨RX0, TX0, 15, tyX0, rfl, inlX0, by decide, List.mem_of_getElem? (i := 36) (by decide +kernel), tyX0_ok, nmX0, rfl, tyX0_ok 1 (by decide), rfl⟩
theorem fk_X0_18 : FLK RX0 18 0 2 true (.array .int) := ⟨RX0, TX0, 15, tyX0, rfl, inlX0, by decide, List.mem_of_getElem? (i := 37) (by decide +kernel), tyX0_ok, nmX0, rfl, tyX0_ok 2 (by decide), rfl⟩
theorem fk_X0_21 : FLK RX0 21 0 3 true (.array .int) := ⟨RX0, TX0, 15, tyX0, rfl, inlX0, by decide, List.mem_of_getElem? (i := 38) (by decide +kernel), tyX0_ok, nmX0, rfl, tyX0_ok 3 (by decide), rfl⟩
theorem fk_X0_24 : FLK RX0 24 0 4 true (.array .int) := ⟨RX0, TX0, 15, tyX0, rfl, inlX0, by decide, List.mem_of_getElem? (i := 39) (by decide +kernel), tyX0_ok, nmX0, rfl, tyX0_ok 4 (by decide), rfl⟩
theorem fk_X0_27 : FLK RX0 27 0 5 true (.array .int) := ⟨RX0, TX0, 15, tyX0, rfl, inlX0, by decide, List.mem_of_getElem? (i := 40) (by decide +kernel), tyX0_ok, nmX0, rfl, tyX0_ok 5 (by decide), rfl⟩
theorem ck_X0_30 : Cond.constant RX0 30 (2147483647) ∈ wsL_law := List.mem_of_getElem? (i := 41) (by decide +kernel)
theorem lk_X5_18 : Cond.methodLink RX5 18 yX3_init ∈ wsL_law := List.mem_of_getElem? (i := 42) (by decide +kernel)
theorem lk_X3_3 : Cond.methodLink RX3 3 objectInit ∈ wsL_law := List.mem_of_getElem? (i := 45) (by decide +kernel)
theorem clk_X3_9 : Cond.classLink RX3 9 RX0 ∈ wsL_law := List.mem_of_getElem? (i := 46) (by decide +kernel)
theorem fk_X3_11 : FLK RX3 11 2 0 true (.array (.object "RelayBank$Bank")) := ⟨RX3, TX3, 3, tyX3, rfl, inlX3, by decide, List.mem_of_getElem? (i := 47) (by decide +kernel), tyX3_ok, nmX3, rfl, tyX3_ok 0 (by decide), rfl⟩
theorem lk_X3_17 : Cond.methodLink RX3 17 yX0_init ∈ wsL_law := List.mem_of_getElem? (i := 48) (by decide +kernel)
theorem lk_X4_3 : Cond.methodLink RX4 3 objectInit ∈ wsL_law := List.mem_of_getElem? (i := 51) (by decide +kernel)
theorem fk_X4_9 : FLK RX4 9 3 0 true (.array .char) := ⟨RX4, TX4, 2, tyX4, rfl, inlX4, by decide, List.mem_of_getElem? (i := 53) (by decide +kernel), tyX4_ok, nmX4, rfl, tyX4_ok 0 (by decide), rfl⟩
theorem lk_X2_3 : Cond.methodLink RX2 3 objectInit ∈ wsL_law := List.mem_of_getElem? (i := 56) (by decide +kernel)
theorem fk_X2_9 : FLK RX2 9 1 0 true (.array .int) := ⟨RX2, TX2, 4, tyX2, rfl, inlX2, by decide, List.mem_of_getElem? (i := 57) (by decide +kernel), tyX2_ok, nmX2, rfl, tyX2_ok 0 (by decide), rfl⟩
theorem lk_L_12 : Cond.methodLink RL 12 yX6_init ∈ wsL_law := List.mem_of_getElem? (i := 58) (by decide +kernel)
theorem lk_X6_1 : Cond.methodLink RX6 1 objectInit ∈ wsL_law := List.mem_of_getElem? (i := 61) (by decide +kernel)
theorem fk_X6_7 : FLK RX6 7 5 0 true (.array .int) := ⟨RX6, TX6, 9, tyX6, rfl, inlX6, by decide, List.mem_of_getElem? (i := 62) (by decide +kernel), tyX6_ok, nmX6, rfl, tyX6_ok 0 (by decide), rfl⟩
theorem fk_X6_13 : FLK RX6 13 5 1 true (.array .int) := ⟨RX6, TX6, 9, tyX6, rfl, inlX6, by decide, List.mem_of_getElem? (i := 63) (by decide +kernel), tyX6_ok, nmX6, rfl, tyX6_ok 1 (by decide), rfl⟩
theorem fk_X6_16 : FLK RX6 16 5 3 true (.array .int) := ⟨RX6, TX6, 9, tyX6, rfl, inlX6, by decide, List.mem_of_getElem? (i := 64) (by decide +kernel), tyX6_ok, nmX6, rfl, tyX6_ok 3 (by decide), rfl⟩
theorem fk_X6_19 : FLK RX6 19 5 4 true (.array .int) := ⟨RX6, TX6, 9, tyX6, rfl, inlX6, by decide, List.mem_of_getElem? (i := 65) (by decide +kernel), tyX6_ok, nmX6, rfl, tyX6_ok 4 (by decide), rfl⟩
theorem fk_X6_22 : FLK RX6 22 5 5 true (.array .byte) := ⟨RX6, TX6, 9, tyX6, rfl, inlX6, by decide, List.mem_of_getElem? (i := 67) (by decide +kernel), tyX6_ok, nmX6, rfl, tyX6_ok 5 (by decide), rfl⟩
theorem fk_X6_26 : FLK RX6 26 5 6 false .int := ⟨RX6, TX6, 9, tyX6, rfl, inlX6, by decide, List.mem_of_getElem? (i := 68) (by decide +kernel), tyX6_ok, nmX6, rfl, tyX6_ok 6 (by decide), rfl⟩
theorem lk_L_13 : Cond.methodLink RL 13 yX5_addRelay ∈ wsL_law := List.mem_of_getElem? (i := 69) (by decide +kernel)
theorem lk_X5_43 : Cond.methodLink RX5 43 yX5_areDelays ∈ wsL_law := List.mem_of_getElem? (i := 73) (by decide +kernel)
theorem lk_X5_71 : Cond.methodLink RX5 71 yX5_isWithin ∈ wsL_law := List.mem_of_getElem? (i := 76) (by decide +kernel)
theorem lk_X5_51 : Cond.methodLink RX5 51 yX3_save ∈ wsL_law := List.mem_of_getElem? (i := 79) (by decide +kernel)
theorem fk_X3_28 : FLK RX3 28 2 2 false .int := ⟨RX3, TX3, 3, tyX3, rfl, inlX3, by decide, List.mem_of_getElem? (i := 83) (by decide +kernel), tyX3_ok, nmX3, rfl, tyX3_ok 2 (by decide), rfl⟩
theorem fk_X3_18 : FLK RX3 18 2 1 false .int := ⟨RX3, TX3, 3, tyX3, rfl, inlX3, by decide, List.mem_of_getElem? (i := 84) (by decide +kernel), tyX3_ok, nmX3, rfl, tyX3_ok 1 (by decide), rfl⟩
theorem lk_X3_22 : Cond.methodLink RX3 22 yJ9_floorMod_7cf53 ∈ wsL_law := List.mem_of_getElem? (i := 85) (by decide +kernel)
theorem lk_X3_31 : Cond.methodLink RX3 31 yX3_bankAt ∈ wsL_law := List.mem_of_getElem? (i := 89) (by decide +kernel)
theorem lk_X3_35 : Cond.methodLink RX3 35 yX0_copy ∈ wsL_law := List.mem_of_getElem? (i := 93) (by decide +kernel)
theorem lk_X0_31 : Cond.methodLink RX0 31 arraycopyName ∈ wsL_law := List.mem_of_getElem? (i := 97) (by decide +kernel)
theorem fk_X0_37 : FLK RX0 37 0 6 false .int := ⟨RX0, TX0, 15, tyX0, rfl, inlX0, by decide, List.mem_of_getElem? (i := 101) (by decide +kernel), tyX0_ok, nmX0, rfl, tyX0_ok 6 (by decide), rfl⟩
theorem fk_X0_41 : FLK RX0 41 0 7 false .int := ⟨RX0, TX0, 15, tyX0, rfl, inlX0, by decide, List.mem_of_getElem? (i := 102) (by decide +kernel), tyX0_ok, nmX0, rfl, tyX0_ok 7 (by decide), rfl⟩
theorem fk_X0_44 : FLK RX0 44 0 8 false .int := ⟨RX0, TX0, 15, tyX0, rfl, inlX0, by decide, List.mem_of_getElem? (i := 103) (by decide +kernel), tyX0_ok, nmX0, rfl, tyX0_ok 8 (by decide), rfl⟩
theorem fk_X0_47 : FLK RX0 47 0 9 false .int := ⟨RX0, TX0, 15, tyX0, rfl, inlX0, by decide, List.mem_of_getElem? (i := 104) (by decide +kernel), tyX0_ok, nmX0, rfl, tyX0_ok 9 (by decide), rfl⟩
theorem fk_X0_50 : FLK RX0 50 0 10 false .int := ⟨RX0, TX0, 15, tyX0, rfl, inlX0, by decide, List.mem_of_getElem? (i := 105) (by decide +kernel), tyX0_ok, nmX0, rfl, tyX0_ok 10 (by decide), rfl⟩
theorem fk_X0_53 : FLK RX0 53 0 11 false .int := ⟨RX0, TX0, 15, tyX0, rfl, inlX0, by decide, List.mem_of_getElem? (i := 106) (by decide +kernel), tyX0_ok, nmX0, rfl, tyX0_ok 11 (by decide), rfl⟩
theorem fk_X0_56 : FLK RX0 56 0 12 false .int := ⟨RX0, TX0, 15, tyX0, rfl, inlX0, by decide, List.mem_of_getElem? (i := 107) (by decide +kernel), tyX0_ok, nmX0, rfl, tyX0_ok 12 (by decide), rfl⟩
theorem fk_X0_59 : FLK RX0 59 0 13 false .int := ⟨RX0, TX0, 15, tyX0, rfl, inlX0, by decide, List.mem_of_getElem? (i := 108) (by decide +kernel), tyX0_ok, nmX0, rfl, tyX0_ok 13 (by decide), rfl⟩
theorem fk_X0_62 : FLK RX0 62 0 14 false .int := ⟨RX0, TX0, 15, tyX0, rfl, inlX0, by decide, List.mem_of_getElem? (i := 109) (by decide +kernel), tyX0_ok, nmX0, rfl, tyX0_ok 14 (by decide), rfl⟩
theorem lk_X5_55 : Cond.methodLink RX5 55 yX0_add ∈ wsL_law := List.mem_of_getElem? (i := 110) (by decide +kernel)
theorem lk_X0_69 : Cond.methodLink RX0 69 yX0_putDelays ∈ wsL_law := List.mem_of_getElem? (i := 114) (by decide +kernel)
theorem lk_L_17 : Cond.methodLink RL 17 yX6_addRelay ∈ wsL_law := List.mem_of_getElem? (i := 122) (by decide +kernel)
theorem lk_X6_33 : Cond.methodLink RX6 33 yX6_in ∈ wsL_law := List.mem_of_getElem? (i := 126) (by decide +kernel)
theorem lk_X6_79 : Cond.methodLink RX6 79 yX6_notes ∈ wsL_law := List.mem_of_getElem? (i := 129) (by decide +kernel)
theorem fk_X6_30 : FLK RX6 30 5 2 false .int := ⟨RX6, TX6, 9, tyX6, rfl, inlX6, by decide, List.mem_of_getElem? (i := 133) (by decide +kernel), tyX6_ok, nmX6, rfl, tyX6_ok 2 (by decide), rfl⟩
theorem lk_X6_49 : Cond.methodLink RX6 49 yX6_puts ∈ wsL_law := List.mem_of_getElem? (i := 134) (by decide +kernel)
theorem lk_L_18 : Cond.methodLink RL 18 yX5_setDelays ∈ wsL_law := List.mem_of_getElem? (i := 138) (by decide +kernel)
theorem lk_X5_59 : Cond.methodLink RX5 59 yX0_has ∈ wsL_law := List.mem_of_getElem? (i := 142) (by decide +kernel)
theorem lk_X5_63 : Cond.methodLink RX5 63 yX0_putDelays ∈ wsL_law := List.mem_of_getElem? (i := 146) (by decide +kernel)
theorem lk_L_22 : Cond.methodLink RL 22 yX6_setDelays ∈ wsL_law := List.mem_of_getElem? (i := 147) (by decide +kernel)
theorem lk_X6_82 : Cond.methodLink RX6 82 yX6_isRelay ∈ wsL_law := List.mem_of_getElem? (i := 151) (by decide +kernel)
theorem lk_X6_37 : Cond.methodLink RX6 37 yX6_of ∈ wsL_law := List.mem_of_getElem? (i := 155) (by decide +kernel)
theorem lk_L_23 : Cond.methodLink RL 23 yX5_setCondition ∈ wsL_law := List.mem_of_getElem? (i := 159) (by decide +kernel)
theorem lk_X5_67 : Cond.methodLink RX5 67 yX0_branchesOf ∈ wsL_law := List.mem_of_getElem? (i := 163) (by decide +kernel)
theorem lk_X5_74 : Cond.methodLink RX5 74 yX0_putCondition ∈ wsL_law := List.mem_of_getElem? (i := 167) (by decide +kernel)
theorem lk_X0_81 : Cond.methodLink RX0 81 yX0_branchesOf ∈ wsL_law := List.mem_of_getElem? (i := 171) (by decide +kernel)
theorem lk_X0_85 : Cond.methodLink RX0 85 yX0_branchAt ∈ wsL_law := List.mem_of_getElem? (i := 172) (by decide +kernel)
theorem lk_X0_89 : Cond.methodLink RX0 89 yX1_with ∈ wsL_law := List.mem_of_getElem? (i := 176) (by decide +kernel)
theorem lk_X1_9 : Cond.methodLink RX1 9 yX1_bit ∈ wsL_law := List.mem_of_getElem? (i := 180) (by decide +kernel)
theorem lk_X0_95 : Cond.methodLink RX0 95 yX0_putBranch ∈ wsL_law := List.mem_of_getElem? (i := 183) (by decide +kernel)
theorem lk_X0_99 : Cond.methodLink RX0 99 yX0_lookAtCoils ∈ wsL_law := List.mem_of_getElem? (i := 187) (by decide +kernel)
theorem lk_X0_114 : Cond.methodLink RX0 114 yX0_failing ∈ wsL_law := List.mem_of_getElem? (i := 191) (by decide +kernel)
theorem ck_X0_113 : Cond.constant RX0 113 (65535) ∈ wsL_law := List.mem_of_getElem? (i := 195) (by decide +kernel)
theorem lk_X0_110 : Cond.methodLink RX0 110 yX0_closedContacts ∈ wsL_law := List.mem_of_getElem? (i := 196) (by decide +kernel)
theorem lk_X0_117 : Cond.methodLink RX0 117 yX0_conducts ∈ wsL_law := List.mem_of_getElem? (i := 200) (by decide +kernel)
theorem lk_X0_120 : Cond.methodLink RX0 120 yX0_turnCoil ∈ wsL_law := List.mem_of_getElem? (i := 206) (by decide +kernel)
theorem lk_X0_103 : Cond.methodLink RX0 103 yX1_howOf ∈ wsL_law := List.mem_of_getElem? (i := 210) (by decide +kernel)
theorem lk_L_26 : Cond.methodLink RL 26 yX6_setCondition ∈ wsL_law := List.mem_of_getElem? (i := 213) (by decide +kernel)
theorem fk_X6_65 : FLK RX6 65 5 7 false .int := ⟨RX6, TX6, 9, tyX6, rfl, inlX6, by decide, List.mem_of_getElem? (i := 217) (by decide +kernel), tyX6_ok, nmX6, rfl, tyX6_ok 7 (by decide), rfl⟩
theorem lk_X6_85 : Cond.methodLink RX6 85 yX6_isSubject ∈ wsL_law := List.mem_of_getElem? (i := 218) (by decide +kernel)
theorem lk_X6_88 : Cond.methodLink RX6 88 yX6_opensBranch ∈ wsL_law := List.mem_of_getElem? (i := 222) (by decide +kernel)
theorem lk_X6_91 : Cond.methodLink RX6 91 yX6_how ∈ wsL_law := List.mem_of_getElem? (i := 226) (by decide +kernel)
theorem lk_X6_95 : Cond.methodLink RX6 95 yX6_conditions ∈ wsL_law := List.mem_of_getElem? (i := 230) (by decide +kernel)
theorem lk_X6_68 : Cond.methodLink RX6 68 yX6_looks ∈ wsL_law := List.mem_of_getElem? (i := 234) (by decide +kernel)
theorem lk_X6_41 : Cond.methodLink RX6 41 yX6_closed ∈ wsL_law := List.mem_of_getElem? (i := 238) (by decide +kernel)
theorem lk_X6_45 : Cond.methodLink RX6 45 yX6_conducts ∈ wsL_law := List.mem_of_getElem? (i := 242) (by decide +kernel)
theorem lk_L_27 : Cond.methodLink RL 27 yX5_removeBranch ∈ wsL_law := List.mem_of_getElem? (i := 246) (by decide +kernel)
theorem lk_X5_78 : Cond.methodLink RX5 78 yX0_dropBranch ∈ wsL_law := List.mem_of_getElem? (i := 250) (by decide +kernel)
theorem lk_L_31 : Cond.methodLink RL 31 yX6_removeBranch ∈ wsL_law := List.mem_of_getElem? (i := 254) (by decide +kernel)
theorem lk_L_32 : Cond.methodLink RL 32 yX5_appendCharacter ∈ wsL_law := List.mem_of_getElem? (i := 258) (by decide +kernel)
theorem lk_X5_85 : Cond.methodLink RX5 85 yX4_append ∈ wsL_law := List.mem_of_getElem? (i := 262) (by decide +kernel)
theorem fk_X4_15 : FLK RX4 15 3 1 false .int := ⟨RX4, TX4, 2, tyX4, rfl, inlX4, by decide, List.mem_of_getElem? (i := 266) (by decide +kernel), tyX4_ok, nmX4, rfl, tyX4_ok 1 (by decide), rfl⟩
theorem lk_L_36 : Cond.methodLink RL 36 yX6_appendCharacter ∈ wsL_law := List.mem_of_getElem? (i := 267) (by decide +kernel)
theorem lk_L_37 : Cond.methodLink RL 37 yX5_clearText ∈ wsL_law := List.mem_of_getElem? (i := 271) (by decide +kernel)
theorem lk_L_41 : Cond.methodLink RL 41 yX6_clearText ∈ wsL_law := List.mem_of_getElem? (i := 275) (by decide +kernel)
theorem lk_L_42 : Cond.methodLink RL 42 yX5_load ∈ wsL_law := List.mem_of_getElem? (i := 279) (by decide +kernel)
theorem lk_X5_89 : Cond.methodLink RX5 89 yX2_read ∈ wsL_law := List.mem_of_getElem? (i := 283) (by decide +kernel)
theorem fk_X2_15 : FLK RX2 15 1 2 false .int := ⟨RX2, TX2, 4, tyX2, rfl, inlX2, by decide, List.mem_of_getElem? (i := 287) (by decide +kernel), tyX2_ok, nmX2, rfl, tyX2_ok 2 (by decide), rfl⟩
theorem fk_X2_19 : FLK RX2 19 1 1 false .int := ⟨RX2, TX2, 4, tyX2, rfl, inlX2, by decide, List.mem_of_getElem? (i := 288) (by decide +kernel), tyX2_ok, nmX2, rfl, tyX2_ok 1 (by decide), rfl⟩
theorem fk_X2_22 : FLK RX2 22 1 3 false .int := ⟨RX2, TX2, 4, tyX2, rfl, inlX2, by decide, List.mem_of_getElem? (i := 289) (by decide +kernel), tyX2_ok, nmX2, rfl, tyX2_ok 3 (by decide), rfl⟩
theorem lk_X2_30 : Cond.methodLink RX2 30 yX4_characterAt ∈ wsL_law := List.mem_of_getElem? (i := 290) (by decide +kernel)
theorem lk_X2_34 : Cond.methodLink RX2 34 yX2_take ∈ wsL_law := List.mem_of_getElem? (i := 294) (by decide +kernel)
theorem lk_X2_38 : Cond.methodLink RX2 38 yX2_goTo ∈ wsL_law := List.mem_of_getElem? (i := 298) (by decide +kernel)
theorem lk_X2_42 : Cond.methodLink RX2 42 yX2_beginBranch ∈ wsL_law := List.mem_of_getElem? (i := 302) (by decide +kernel)
theorem lk_X2_45 : Cond.methodLink RX2 45 yX2_beginCondition ∈ wsL_law := List.mem_of_getElem? (i := 306) (by decide +kernel)
theorem lk_X2_48 : Cond.methodLink RX2 48 yX2_takeLetter ∈ wsL_law := List.mem_of_getElem? (i := 310) (by decide +kernel)
theorem lk_X2_56 : Cond.methodLink RX2 56 yX2_subjectOf ∈ wsL_law := List.mem_of_getElem? (i := 314) (by decide +kernel)
theorem lk_X2_64 : Cond.methodLink RX2 64 yX1_howOf ∈ wsL_law := List.mem_of_getElem? (i := 318) (by decide +kernel)
theorem lk_X2_70 : Cond.methodLink RX2 70 yX1_with ∈ wsL_law := List.mem_of_getElem? (i := 319) (by decide +kernel)
theorem lk_X5_100 : Cond.methodLink RX5 100 yX0_putCircuit ∈ wsL_law := List.mem_of_getElem? (i := 320) (by decide +kernel)
theorem lk_L_45 : Cond.methodLink RL 45 yX6_load ∈ wsL_law := List.mem_of_getElem? (i := 324) (by decide +kernel)
theorem fk_X6_99 : FLK RX6 99 5 8 false .int := ⟨RX6, TX6, 9, tyX6, rfl, inlX6, by decide, List.mem_of_getElem? (i := 328) (by decide +kernel), tyX6_ok, nmX6, rfl, tyX6_ok 8 (by decide), rfl⟩
theorem lk_X6_118 : Cond.methodLink RX6 118 yX6_keeps ∈ wsL_law := List.mem_of_getElem? (i := 329) (by decide +kernel)
theorem lk_X6_121 : Cond.methodLink RX6 121 yX6_reads ∈ wsL_law := List.mem_of_getElem? (i := 333) (by decide +kernel)
theorem lk_X6_102 : Cond.methodLink RX6 102 yX6_here ∈ wsL_law := List.mem_of_getElem? (i := 337) (by decide +kernel)
theorem lk_X6_115 : Cond.methodLink RX6 115 yX6_readsBranch ∈ wsL_law := List.mem_of_getElem? (i := 341) (by decide +kernel)
theorem lk_X6_108 : Cond.methodLink RX6 108 yX6_isEnd ∈ wsL_law := List.mem_of_getElem? (i := 345) (by decide +kernel)
theorem lk_X6_112 : Cond.methodLink RX6 112 yX6_readsCondition ∈ wsL_law := List.mem_of_getElem? (i := 349) (by decide +kernel)
theorem lk_X6_105 : Cond.methodLink RX6 105 yX6_subject ∈ wsL_law := List.mem_of_getElem? (i := 353) (by decide +kernel)
theorem lk_X6_124 : Cond.methodLink RX6 124 yX6_exchanges ∈ wsL_law := List.mem_of_getElem? (i := 357) (by decide +kernel)
theorem lk_L_46 : Cond.methodLink RL 46 yX5_press ∈ wsL_law := List.mem_of_getElem? (i := 361) (by decide +kernel)
theorem lk_X5_104 : Cond.methodLink RX5 104 yX5_isKey ∈ wsL_law := List.mem_of_getElem? (i := 365) (by decide +kernel)
theorem lk_X5_110 : Cond.methodLink RX5 110 yX5_isIn ∈ wsL_law := List.mem_of_getElem? (i := 368) (by decide +kernel)
theorem lk_X5_114 : Cond.methodLink RX5 114 yX0_turnKey ∈ wsL_law := List.mem_of_getElem? (i := 369) (by decide +kernel)
theorem lk_L_49 : Cond.methodLink RL 49 yX6_press ∈ wsL_law := List.mem_of_getElem? (i := 373) (by decide +kernel)
theorem lk_L_50 : Cond.methodLink RL 50 yX5_setFault ∈ wsL_law := List.mem_of_getElem? (i := 377) (by decide +kernel)
theorem lk_X5_117 : Cond.methodLink RX5 117 yX0_faultOf ∈ wsL_law := List.mem_of_getElem? (i := 381) (by decide +kernel)
theorem lk_X5_120 : Cond.methodLink RX5 120 yX0_putFault ∈ wsL_law := List.mem_of_getElem? (i := 385) (by decide +kernel)
theorem lk_L_53 : Cond.methodLink RL 53 yX6_setFault ∈ wsL_law := List.mem_of_getElem? (i := 389) (by decide +kernel)
theorem lk_L_54 : Cond.methodLink RL 54 yX5_stick ∈ wsL_law := List.mem_of_getElem? (i := 393) (by decide +kernel)
theorem lk_X5_127 : Cond.methodLink RX5 127 yX5_bitOf ∈ wsL_law := List.mem_of_getElem? (i := 397) (by decide +kernel)
theorem lk_L_57 : Cond.methodLink RL 57 yX6_stick ∈ wsL_law := List.mem_of_getElem? (i := 400) (by decide +kernel)
theorem lk_L_58 : Cond.methodLink RL 58 yX5_step ∈ wsL_law := List.mem_of_getElem? (i := 404) (by decide +kernel)
theorem lk_X5_130 : Cond.methodLink RX5 130 yX0_nextSlot ∈ wsL_law := List.mem_of_getElem? (i := 408) (by decide +kernel)
theorem lk_X5_134 : Cond.methodLink RX5 134 yX0_kindOf ∈ wsL_law := List.mem_of_getElem? (i := 412) (by decide +kernel)
theorem lk_X0_124 : Cond.methodLink RX0 124 yX0_isBounceEnd ∈ wsL_law := List.mem_of_getElem? (i := 416) (by decide +kernel)
theorem lk_X0_128 : Cond.methodLink RX0 128 yX0_relayOf ∈ wsL_law := List.mem_of_getElem? (i := 419) (by decide +kernel)
theorem lk_X5_137 : Cond.methodLink RX5 137 yX0_happen ∈ wsL_law := List.mem_of_getElem? (i := 422) (by decide +kernel)
theorem lk_X0_138 : Cond.methodLink RX0 138 yX0_moveArmature ∈ wsL_law := List.mem_of_getElem? (i := 426) (by decide +kernel)
theorem lk_X5_141 : Cond.methodLink RX5 141 yX0_relayOf ∈ wsL_law := List.mem_of_getElem? (i := 430) (by decide +kernel)
theorem lk_L_61 : Cond.methodLink RL 61 yX6_step ∈ wsL_law := List.mem_of_getElem? (i := 431) (by decide +kernel)
theorem lk_X6_71 : Cond.methodLink RX6 71 yX6_next ∈ wsL_law := List.mem_of_getElem? (i := 435) (by decide +kernel)
theorem lk_X6_57 : Cond.methodLink RX6 57 yX6_waits ∈ wsL_law := List.mem_of_getElem? (i := 439) (by decide +kernel)
theorem lk_X6_61 : Cond.methodLink RX6 61 yX6_isAhead ∈ wsL_law := List.mem_of_getElem? (i := 443) (by decide +kernel)
theorem lk_X6_53 : Cond.methodLink RX6 53 yX6_timeOf ∈ wsL_law := List.mem_of_getElem? (i := 447) (by decide +kernel)
theorem lk_X6_75 : Cond.methodLink RX6 75 yX6_happens ∈ wsL_law := List.mem_of_getElem? (i := 451) (by decide +kernel)
theorem lk_L_62 : Cond.methodLink RL 62 yX5_settle ∈ wsL_law := List.mem_of_getElem? (i := 455) (by decide +kernel)
theorem ck_X5_144 : Cond.constant RX5 144 (2147483647) ∈ wsL_law := List.mem_of_getElem? (i := 459) (by decide +kernel)
theorem lk_X5_145 : Cond.methodLink RX5 145 yX0_run ∈ wsL_law := List.mem_of_getElem? (i := 460) (by decide +kernel)
theorem lk_X0_131 : Cond.methodLink RX0 131 yX0_nextSlot ∈ wsL_law := List.mem_of_getElem? (i := 464) (by decide +kernel)
theorem lk_X0_141 : Cond.methodLink RX0 141 yX0_happen ∈ wsL_law := List.mem_of_getElem? (i := 465) (by decide +kernel)
theorem lk_L_65 : Cond.methodLink RL 65 yX6_settle ∈ wsL_law := List.mem_of_getElem? (i := 466) (by decide +kernel)
theorem lk_X6_127 : Cond.methodLink RX6 127 yX6_settles ∈ wsL_law := List.mem_of_getElem? (i := 470) (by decide +kernel)
theorem lk_L_66 : Cond.methodLink RL 66 yX5_pass ∈ wsL_law := List.mem_of_getElem? (i := 474) (by decide +kernel)
theorem ck_X5_152 : Cond.constant RX5 152 (100000) ∈ wsL_law := List.mem_of_getElem? (i := 478) (by decide +kernel)
theorem lk_X5_153 : Cond.methodLink RX5 153 yX0_copy ∈ wsL_law := List.mem_of_getElem? (i := 479) (by decide +kernel)
theorem lk_L_69 : Cond.methodLink RL 69 yX6_pass ∈ wsL_law := List.mem_of_getElem? (i := 480) (by decide +kernel)
theorem ck_X6_131 : Cond.constant RX6 131 (100000) ∈ wsL_law := List.mem_of_getElem? (i := 484) (by decide +kernel)
theorem lk_L_70 : Cond.methodLink RL 70 yX5_count ∈ wsL_law := List.mem_of_getElem? (i := 485) (by decide +kernel)
theorem lk_X5_156 : Cond.methodLink RX5 156 yX0_waiting ∈ wsL_law := List.mem_of_getElem? (i := 489) (by decide +kernel)
theorem lk_X5_166 : Cond.methodLink RX5 166 yX0_closedContacts ∈ wsL_law := List.mem_of_getElem? (i := 493) (by decide +kernel)
theorem lk_L_73 : Cond.methodLink RL 73 yX6_count ∈ wsL_law := List.mem_of_getElem? (i := 494) (by decide +kernel)
theorem lk_X6_132 : Cond.methodLink RX6 132 yX6_set ∈ wsL_law := List.mem_of_getElem? (i := 498) (by decide +kernel)
theorem lk_L_74 : Cond.methodLink RL 74 yX5_relay ∈ wsL_law := List.mem_of_getElem? (i := 502) (by decide +kernel)
theorem lk_X5_176 : Cond.methodLink RX5 176 yX5_at ∈ wsL_law := List.mem_of_getElem? (i := 506) (by decide +kernel)
theorem lk_X5_186 : Cond.methodLink RX5 186 yX0_concerns ∈ wsL_law := List.mem_of_getElem? (i := 507) (by decide +kernel)
theorem lk_X5_189 : Cond.methodLink RX5 189 yX0_failing ∈ wsL_law := List.mem_of_getElem? (i := 511) (by decide +kernel)
theorem lk_X5_192 : Cond.methodLink RX5 192 yX0_conducts ∈ wsL_law := List.mem_of_getElem? (i := 512) (by decide +kernel)
theorem lk_L_77 : Cond.methodLink RL 77 yX6_relay ∈ wsL_law := List.mem_of_getElem? (i := 513) (by decide +kernel)
theorem lk_X6_135 : Cond.methodLink RX6 135 yX6_ofItself ∈ wsL_law := List.mem_of_getElem? (i := 517) (by decide +kernel)
theorem lk_L_78 : Cond.methodLink RL 78 yX5_condition ∈ wsL_law := List.mem_of_getElem? (i := 521) (by decide +kernel)
theorem lk_X5_195 : Cond.methodLink RX5 195 yX0_branchAt ∈ wsL_law := List.mem_of_getElem? (i := 525) (by decide +kernel)
theorem lk_X5_198 : Cond.methodLink RX5 198 yX1_howOf ∈ wsL_law := List.mem_of_getElem? (i := 526) (by decide +kernel)
theorem lk_L_81 : Cond.methodLink RL 81 yX6_condition ∈ wsL_law := List.mem_of_getElem? (i := 527) (by decide +kernel)
theorem lk_L_82 : Cond.methodLink RL 82 yX5_event ∈ wsL_law := List.mem_of_getElem? (i := 531) (by decide +kernel)
theorem lk_X5_203 : Cond.methodLink RX5 203 yX0_slotAt ∈ wsL_law := List.mem_of_getElem? (i := 535) (by decide +kernel)
theorem lk_X0_135 : Cond.methodLink RX0 135 yX0_eventsBefore ∈ wsL_law := List.mem_of_getElem? (i := 539) (by decide +kernel)
theorem lk_L_85 : Cond.methodLink RL 85 yX6_event ∈ wsL_law := List.mem_of_getElem? (i := 543) (by decide +kernel)
theorem lk_L_86 : Cond.methodLink RL 86 yX5_outcome ∈ wsL_law := List.mem_of_getElem? (i := 547) (by decide +kernel)
theorem lk_X5_209 : Cond.methodLink RX5 209 yX5_endingOf ∈ wsL_law := List.mem_of_getElem? (i := 551) (by decide +kernel)
theorem lk_X5_217 : Cond.methodLink RX5 217 yX0_isQuiet ∈ wsL_law := List.mem_of_getElem? (i := 555) (by decide +kernel)
theorem lk_L_89 : Cond.methodLink RL 89 yX6_outcome ∈ wsL_law := List.mem_of_getElem? (i := 559) (by decide +kernel)
theorem lk_X6_138 : Cond.methodLink RX6 138 yX6_ends ∈ wsL_law := List.mem_of_getElem? (i := 563) (by decide +kernel)
theorem lk_X6_141 : Cond.methodLink RX6 141 yX6_restores ∈ wsL_law := List.mem_of_getElem? (i := 567) (by decide +kernel)
theorem lk_L_90 : Cond.methodLink RL 90 yX5_isRace ∈ wsL_law := List.mem_of_getElem? (i := 571) (by decide +kernel)
theorem lk_X5_213 : Cond.methodLink RX5 213 yX5_raceIn ∈ wsL_law := List.mem_of_getElem? (i := 575) (by decide +kernel)
theorem lk_L_93 : Cond.methodLink RL 93 yX6_isRace ∈ wsL_law := List.mem_of_getElem? (i := 579) (by decide +kernel)
theorem lk_X6_144 : Cond.methodLink RX6 144 yX6_races ∈ wsL_law := List.mem_of_getElem? (i := 583) (by decide +kernel)
theorem lk_L_94 : Cond.methodLink RL 94 yX5_raceBy ∈ wsL_law := List.mem_of_getElem? (i := 587) (by decide +kernel)
theorem lk_L_97 : Cond.methodLink RL 97 yX6_raceBy ∈ wsL_law := List.mem_of_getElem? (i := 591) (by decide +kernel)
theorem lk_L_98 : Cond.methodLink RL 98 yX5_hazards ∈ wsL_law := List.mem_of_getElem? (i := 595) (by decide +kernel)
theorem lk_L_101 : Cond.methodLink RL 101 yX6_hazards ∈ wsL_law := List.mem_of_getElem? (i := 599) (by decide +kernel)
theorem lk_L_102 : Cond.methodLink RL 102 yX5_stableStates ∈ wsL_law := List.mem_of_getElem? (i := 603) (by decide +kernel)
theorem lk_X5_221 : Cond.methodLink RX5 221 yX0_isStable ∈ wsL_law := List.mem_of_getElem? (i := 607) (by decide +kernel)
theorem lk_L_105 : Cond.methodLink RL 105 yX6_stableStates ∈ wsL_law := List.mem_of_getElem? (i := 611) (by decide +kernel)
theorem lk_X6_147 : Cond.methodLink RX6 147 yX6_isStable ∈ wsL_law := List.mem_of_getElem? (i := 615) (by decide +kernel)
theorem lk_L_106 : Cond.methodLink RL 106 yX5_explain ∈ wsL_law := List.mem_of_getElem? (i := 619) (by decide +kernel)
theorem lk_L_109 : Cond.methodLink RL 109 yX6_explain ∈ wsL_law := List.mem_of_getElem? (i := 623) (by decide +kernel)
theorem lk_L_110 : Cond.methodLink RL 110 yX5_undo ∈ wsL_law := List.mem_of_getElem? (i := 627) (by decide +kernel)
theorem lk_X5_224 : Cond.methodLink RX5 224 yX3_restore ∈ wsL_law := List.mem_of_getElem? (i := 631) (by decide +kernel)
theorem lk_L_113 : Cond.methodLink RL 113 yX6_undo ∈ wsL_law := List.mem_of_getElem? (i := 635) (by decide +kernel)
theorem nk_X0_65 : (RX0, 65, yX5_isWithin) ∈ nestG := List.mem_of_getElem? (i := 0) rfl
theorem nk_X0_73 : (RX0, 73, yX5_at) ∈ nestG := List.mem_of_getElem? (i := 1) rfl
theorem nk_X0_77 : (RX0, 77, yX5_put) ∈ nestG := List.mem_of_getElem? (i := 2) rfl
theorem nk_X0_106 : (RX0, 106, yX5_isIn) ∈ nestG := List.mem_of_getElem? (i := 3) rfl
theorem nk_X2_52 : (RX2, 52, yX5_put) ∈ nestG := List.mem_of_getElem? (i := 4) rfl
theorem nk_X2_60 : (RX2, 60, yX5_at) ∈ nestG := List.mem_of_getElem? (i := 5) rfl
theorem nk_X2_74 : (RX2, 74, yX5_isWithin) ∈ nestG := List.mem_of_getElem? (i := 6) rfl
theorem nk_X5_25 : (RX5, 25, yX4_init) ∈ nestG := List.mem_of_getElem? (i := 7) rfl
theorem nk_X5_32 : (RX5, 32, yX2_init) ∈ nestG := List.mem_of_getElem? (i := 8) rfl
theorem iw_X5_init : IW yX5_init cX5_init 1 0 := ⟨⟨List.mem_of_getElem? (i := 2) (by decide +kernel), List.mem_of_getElem? (i := 8) (by decide +kernel), by decide, by decide +kernel⟩, List.mem_of_getElem? (i := 7) (by decide +kernel), rfl⟩
theorem iw_X0_init : IW yX0_init cX0_init 2 0 := ⟨⟨List.mem_of_getElem? (i := 14) (by decide +kernel), List.mem_of_getElem? (i := 32) (by decide +kernel), by decide, by decide +kernel⟩, List.mem_of_getElem? (i := 31) (by decide +kernel), rfl⟩
theorem iw_X3_init : IW yX3_init cX3_init 2 0 := ⟨⟨List.mem_of_getElem? (i := 18) (by decide +kernel), List.mem_of_getElem? (i := 44) (by decide +kernel), by decide, by decide +kernel⟩, List.mem_of_getElem? (i := 43) (by decide +kernel), rfl⟩
theorem iw_X4_init : IW yX4_init cX4_init 1 0 := ⟨⟨List.mem_of_getElem? (i := 22) (by decide +kernel), List.mem_of_getElem? (i := 50) (by decide +kernel), by decide, by decide +kernel⟩, List.mem_of_getElem? (i := 49) (by decide +kernel), rfl⟩
theorem iw_X2_init : IW yX2_init cX2_init 1 0 := ⟨⟨List.mem_of_getElem? (i := 26) (by decide +kernel), List.mem_of_getElem? (i := 55) (by decide +kernel), by decide, by decide +kernel⟩, List.mem_of_getElem? (i := 54) (by decide +kernel), rfl⟩
theorem iw_X6_init : IW yX6_init cX6_init 1 0 := ⟨⟨List.mem_of_getElem? (i := 5) (by decide +kernel), List.mem_of_getElem? (i := 60) (by decide +kernel), by decide, by decide +kernel⟩, List.mem_of_getElem? (i := 59) (by decide +kernel), rfl⟩
theorem vw_X5_addRelay : VW yX5_addRelay cX5_addRelay 4 (some .int) 3 := ⟨⟨List.mem_of_getElem? (i := 2) (by decide +kernel), List.mem_of_getElem? (i := 72) (by decide +kernel), by decide, by decide +kernel⟩, List.mem_of_getElem? (i := 70) (by decide +kernel), List.mem_of_getElem? (i := 71) (by decide +kernel)⟩
theorem vw_X5_areDelays : SW yX5_areDelays cX5_areDelays 3 (some .boolean) 3 := ⟨⟨List.mem_of_getElem? (i := 2) (by decide +kernel), List.mem_of_getElem? (i := 75) (by decide +kernel), by decide, by decide +kernel⟩, List.mem_of_getElem? (i := 74) (by decide +kernel)⟩
theorem vw_X5_isWithin : SW yX5_isWithin cX5_isWithin 3 (some .boolean) 3 := ⟨⟨List.mem_of_getElem? (i := 2) (by decide +kernel), List.mem_of_getElem? (i := 78) (by decide +kernel), by decide, by decide +kernel⟩, List.mem_of_getElem? (i := 77) (by decide +kernel)⟩
theorem vw_X3_save : VW yX3_save cX3_save 3 none 1 := ⟨⟨List.mem_of_getElem? (i := 18) (by decide +kernel), List.mem_of_getElem? (i := 82) (by decide +kernel), by decide, by decide +kernel⟩, List.mem_of_getElem? (i := 80) (by decide +kernel), List.mem_of_getElem? (i := 81) (by decide +kernel)⟩
theorem vw_J9_floorMod_7cf53 : SW yJ9_floorMod_7cf53 cJ9_floorMod_7cf53 3 (some .int) 2 := ⟨⟨List.mem_of_getElem? (i := 87) (by decide +kernel), List.mem_of_getElem? (i := 88) (by decide +kernel), by decide, by decide +kernel⟩, List.mem_of_getElem? (i := 86) (by decide +kernel)⟩
theorem vw_X3_bankAt : VW yX3_bankAt cX3_bankAt 3 (some (.object "RelayBank$Bank")) 1 := ⟨⟨List.mem_of_getElem? (i := 18) (by decide +kernel), List.mem_of_getElem? (i := 92) (by decide +kernel), by decide, by decide +kernel⟩, List.mem_of_getElem? (i := 90) (by decide +kernel), List.mem_of_getElem? (i := 91) (by decide +kernel)⟩
theorem vw_X0_copy : VW yX0_copy cX0_copy 2 none 1 := ⟨⟨List.mem_of_getElem? (i := 14) (by decide +kernel), List.mem_of_getElem? (i := 96) (by decide +kernel), by decide, by decide +kernel⟩, List.mem_of_getElem? (i := 94) (by decide +kernel), List.mem_of_getElem? (i := 95) (by decide +kernel)⟩
theorem vw_X0_add : VW yX0_add cX0_add 5 (some .int) 3 := ⟨⟨List.mem_of_getElem? (i := 14) (by decide +kernel), List.mem_of_getElem? (i := 113) (by decide +kernel), by decide, by decide +kernel⟩, List.mem_of_getElem? (i := 111) (by decide +kernel), List.mem_of_getElem? (i := 112) (by decide +kernel)⟩
theorem vw_X0_putDelays : VW yX0_putDelays cX0_putDelays 6 (some .boolean) 4 := ⟨⟨List.mem_of_getElem? (i := 14) (by decide +kernel), List.mem_of_getElem? (i := 117) (by decide +kernel), by decide, by decide +kernel⟩, List.mem_of_getElem? (i := 115) (by decide +kernel), List.mem_of_getElem? (i := 116) (by decide +kernel)⟩
theorem vw_X5_at : SW yX5_at cX5_at 2 (some .int) 2 := ⟨⟨List.mem_of_getElem? (i := 2) (by decide +kernel), List.mem_of_getElem? (i := 119) (by decide +kernel), by decide, by decide +kernel⟩, List.mem_of_getElem? (i := 118) (by decide +kernel)⟩
theorem vw_X5_put : SW yX5_put cX5_put 3 none 3 := ⟨⟨List.mem_of_getElem? (i := 2) (by decide +kernel), List.mem_of_getElem? (i := 121) (by decide +kernel), by decide, by decide +kernel⟩, List.mem_of_getElem? (i := 120) (by decide +kernel)⟩
theorem vw_X6_addRelay : VW yX6_addRelay cX6_addRelay 6 (some .int) 3 := ⟨⟨List.mem_of_getElem? (i := 5) (by decide +kernel), List.mem_of_getElem? (i := 125) (by decide +kernel), by decide, by decide +kernel⟩, List.mem_of_getElem? (i := 123) (by decide +kernel), List.mem_of_getElem? (i := 124) (by decide +kernel)⟩
theorem vw_X6_in : SW yX6_in cX6_in 3 (some .boolean) 3 := ⟨⟨List.mem_of_getElem? (i := 5) (by decide +kernel), List.mem_of_getElem? (i := 128) (by decide +kernel), by decide, by decide +kernel⟩, List.mem_of_getElem? (i := 127) (by decide +kernel)⟩
theorem vw_X6_notes : VW yX6_notes cX6_notes 2 none 0 := ⟨⟨List.mem_of_getElem? (i := 5) (by decide +kernel), List.mem_of_getElem? (i := 132) (by decide +kernel), by decide, by decide +kernel⟩, List.mem_of_getElem? (i := 130) (by decide +kernel), List.mem_of_getElem? (i := 131) (by decide +kernel)⟩
theorem vw_X6_puts : VW yX6_puts cX6_puts 4 none 3 := ⟨⟨List.mem_of_getElem? (i := 5) (by decide +kernel), List.mem_of_getElem? (i := 137) (by decide +kernel), by decide, by decide +kernel⟩, List.mem_of_getElem? (i := 135) (by decide +kernel), List.mem_of_getElem? (i := 136) (by decide +kernel)⟩
theorem vw_X5_setDelays : VW yX5_setDelays cX5_setDelays 5 (some .int) 4 := ⟨⟨List.mem_of_getElem? (i := 2) (by decide +kernel), List.mem_of_getElem? (i := 141) (by decide +kernel), by decide, by decide +kernel⟩, List.mem_of_getElem? (i := 139) (by decide +kernel), List.mem_of_getElem? (i := 140) (by decide +kernel)⟩
theorem vw_X0_has : VW yX0_has cX0_has 2 (some .boolean) 1 := ⟨⟨List.mem_of_getElem? (i := 14) (by decide +kernel), List.mem_of_getElem? (i := 145) (by decide +kernel), by decide, by decide +kernel⟩, List.mem_of_getElem? (i := 143) (by decide +kernel), List.mem_of_getElem? (i := 144) (by decide +kernel)⟩
theorem vw_X6_setDelays : VW yX6_setDelays cX6_setDelays 6 (some .int) 4 := ⟨⟨List.mem_of_getElem? (i := 5) (by decide +kernel), List.mem_of_getElem? (i := 150) (by decide +kernel), by decide, by decide +kernel⟩, List.mem_of_getElem? (i := 148) (by decide +kernel), List.mem_of_getElem? (i := 149) (by decide +kernel)⟩
theorem vw_X6_isRelay : VW yX6_isRelay cX6_isRelay 2 (some .boolean) 1 := ⟨⟨List.mem_of_getElem? (i := 5) (by decide +kernel), List.mem_of_getElem? (i := 154) (by decide +kernel), by decide, by decide +kernel⟩, List.mem_of_getElem? (i := 152) (by decide +kernel), List.mem_of_getElem? (i := 153) (by decide +kernel)⟩
theorem vw_X6_of : VW yX6_of cX6_of 3 (some .int) 2 := ⟨⟨List.mem_of_getElem? (i := 5) (by decide +kernel), List.mem_of_getElem? (i := 158) (by decide +kernel), by decide, by decide +kernel⟩, List.mem_of_getElem? (i := 156) (by decide +kernel), List.mem_of_getElem? (i := 157) (by decide +kernel)⟩
theorem vw_X5_setCondition : VW yX5_setCondition cX5_setCondition 5 (some .int) 4 := ⟨⟨List.mem_of_getElem? (i := 2) (by decide +kernel), List.mem_of_getElem? (i := 162) (by decide +kernel), by decide, by decide +kernel⟩, List.mem_of_getElem? (i := 160) (by decide +kernel), List.mem_of_getElem? (i := 161) (by decide +kernel)⟩
theorem vw_X0_branchesOf : VW yX0_branchesOf cX0_branchesOf 2 (some .int) 1 := ⟨⟨List.mem_of_getElem? (i := 14) (by decide +kernel), List.mem_of_getElem? (i := 166) (by decide +kernel), by decide, by decide +kernel⟩, List.mem_of_getElem? (i := 164) (by decide +kernel), List.mem_of_getElem? (i := 165) (by decide +kernel)⟩
theorem vw_X0_putCondition : VW yX0_putCondition cX0_putCondition 7 (some .int) 4 := ⟨⟨List.mem_of_getElem? (i := 14) (by decide +kernel), List.mem_of_getElem? (i := 170) (by decide +kernel), by decide, by decide +kernel⟩, List.mem_of_getElem? (i := 168) (by decide +kernel), List.mem_of_getElem? (i := 169) (by decide +kernel)⟩
theorem vw_X0_branchAt : VW yX0_branchAt cX0_branchAt 3 (some .int) 2 := ⟨⟨List.mem_of_getElem? (i := 14) (by decide +kernel), List.mem_of_getElem? (i := 175) (by decide +kernel), by decide, by decide +kernel⟩, List.mem_of_getElem? (i := 173) (by decide +kernel), List.mem_of_getElem? (i := 174) (by decide +kernel)⟩
theorem vw_X1_with : SW yX1_with cX1_with 4 (some .int) 3 := ⟨⟨List.mem_of_getElem? (i := 178) (by decide +kernel), List.mem_of_getElem? (i := 179) (by decide +kernel), by decide, by decide +kernel⟩, List.mem_of_getElem? (i := 177) (by decide +kernel)⟩
theorem vw_X1_bit : SW yX1_bit cX1_bit 2 (some .int) 2 := ⟨⟨List.mem_of_getElem? (i := 178) (by decide +kernel), List.mem_of_getElem? (i := 182) (by decide +kernel), by decide, by decide +kernel⟩, List.mem_of_getElem? (i := 181) (by decide +kernel)⟩
theorem vw_X0_putBranch : VW yX0_putBranch cX0_putBranch 4 none 3 := ⟨⟨List.mem_of_getElem? (i := 14) (by decide +kernel), List.mem_of_getElem? (i := 186) (by decide +kernel), by decide, by decide +kernel⟩, List.mem_of_getElem? (i := 184) (by decide +kernel), List.mem_of_getElem? (i := 185) (by decide +kernel)⟩
theorem vw_X0_lookAtCoils : VW yX0_lookAtCoils cX0_lookAtCoils 4 (some .int) 0 := ⟨⟨List.mem_of_getElem? (i := 14) (by decide +kernel), List.mem_of_getElem? (i := 190) (by decide +kernel), by decide, by decide +kernel⟩, List.mem_of_getElem? (i := 188) (by decide +kernel), List.mem_of_getElem? (i := 189) (by decide +kernel)⟩
theorem vw_X0_failing : VW yX0_failing cX0_failing 2 (some .int) 0 := ⟨⟨List.mem_of_getElem? (i := 14) (by decide +kernel), List.mem_of_getElem? (i := 194) (by decide +kernel), by decide, by decide +kernel⟩, List.mem_of_getElem? (i := 192) (by decide +kernel), List.mem_of_getElem? (i := 193) (by decide +kernel)⟩
theorem vw_X0_closedContacts : VW yX0_closedContacts cX0_closedContacts 1 (some .int) 0 := ⟨⟨List.mem_of_getElem? (i := 14) (by decide +kernel), List.mem_of_getElem? (i := 199) (by decide +kernel), by decide, by decide +kernel⟩, List.mem_of_getElem? (i := 197) (by decide +kernel), List.mem_of_getElem? (i := 198) (by decide +kernel)⟩
theorem vw_X0_conducts : VW yX0_conducts cX0_conducts 6 (some .boolean) 2 := ⟨⟨List.mem_of_getElem? (i := 14) (by decide +kernel), List.mem_of_getElem? (i := 203) (by decide +kernel), by decide, by decide +kernel⟩, List.mem_of_getElem? (i := 201) (by decide +kernel), List.mem_of_getElem? (i := 202) (by decide +kernel)⟩
theorem vw_X5_isIn : SW yX5_isIn cX5_isIn 2 (some .boolean) 2 := ⟨⟨List.mem_of_getElem? (i := 2) (by decide +kernel), List.mem_of_getElem? (i := 205) (by decide +kernel), by decide, by decide +kernel⟩, List.mem_of_getElem? (i := 204) (by decide +kernel)⟩
theorem vw_X0_turnCoil : VW yX0_turnCoil cX0_turnCoil 3 none 1 := ⟨⟨List.mem_of_getElem? (i := 14) (by decide +kernel), List.mem_of_getElem? (i := 209) (by decide +kernel), by decide, by decide +kernel⟩, List.mem_of_getElem? (i := 207) (by decide +kernel), List.mem_of_getElem? (i := 208) (by decide +kernel)⟩
theorem vw_X1_howOf : SW yX1_howOf cX1_howOf 2 (some .int) 2 := ⟨⟨List.mem_of_getElem? (i := 178) (by decide +kernel), List.mem_of_getElem? (i := 212) (by decide +kernel), by decide, by decide +kernel⟩, List.mem_of_getElem? (i := 211) (by decide +kernel)⟩
theorem vw_X6_setCondition : VW yX6_setCondition cX6_setCondition 6 (some .int) 4 := ⟨⟨List.mem_of_getElem? (i := 5) (by decide +kernel), List.mem_of_getElem? (i := 216) (by decide +kernel), by decide, by decide +kernel⟩, List.mem_of_getElem? (i := 214) (by decide +kernel), List.mem_of_getElem? (i := 215) (by decide +kernel)⟩
theorem vw_X6_isSubject : VW yX6_isSubject cX6_isSubject 2 (some .boolean) 1 := ⟨⟨List.mem_of_getElem? (i := 5) (by decide +kernel), List.mem_of_getElem? (i := 221) (by decide +kernel), by decide, by decide +kernel⟩, List.mem_of_getElem? (i := 219) (by decide +kernel), List.mem_of_getElem? (i := 220) (by decide +kernel)⟩
theorem vw_X6_opensBranch : VW yX6_opensBranch cX6_opensBranch 3 none 1 := ⟨⟨List.mem_of_getElem? (i := 5) (by decide +kernel), List.mem_of_getElem? (i := 225) (by decide +kernel), by decide, by decide +kernel⟩, List.mem_of_getElem? (i := 223) (by decide +kernel), List.mem_of_getElem? (i := 224) (by decide +kernel)⟩
theorem vw_X6_how : VW yX6_how cX6_how 6 (some .int) 3 := ⟨⟨List.mem_of_getElem? (i := 5) (by decide +kernel), List.mem_of_getElem? (i := 229) (by decide +kernel), by decide, by decide +kernel⟩, List.mem_of_getElem? (i := 227) (by decide +kernel), List.mem_of_getElem? (i := 228) (by decide +kernel)⟩
theorem vw_X6_conditions : VW yX6_conditions cX6_conditions 8 none 4 := ⟨⟨List.mem_of_getElem? (i := 5) (by decide +kernel), List.mem_of_getElem? (i := 233) (by decide +kernel), by decide, by decide +kernel⟩, List.mem_of_getElem? (i := 231) (by decide +kernel), List.mem_of_getElem? (i := 232) (by decide +kernel)⟩
theorem vw_X6_looks : VW yX6_looks cX6_looks 6 (some .int) 0 := ⟨⟨List.mem_of_getElem? (i := 5) (by decide +kernel), List.mem_of_getElem? (i := 237) (by decide +kernel), by decide, by decide +kernel⟩, List.mem_of_getElem? (i := 235) (by decide +kernel), List.mem_of_getElem? (i := 236) (by decide +kernel)⟩
theorem vw_X6_closed : VW yX6_closed cX6_closed 4 (some .int) 0 := ⟨⟨List.mem_of_getElem? (i := 5) (by decide +kernel), List.mem_of_getElem? (i := 241) (by decide +kernel), by decide, by decide +kernel⟩, List.mem_of_getElem? (i := 239) (by decide +kernel), List.mem_of_getElem? (i := 240) (by decide +kernel)⟩
theorem vw_X6_conducts : VW yX6_conducts cX6_conducts 7 (some .boolean) 2 := ⟨⟨List.mem_of_getElem? (i := 5) (by decide +kernel), List.mem_of_getElem? (i := 245) (by decide +kernel), by decide, by decide +kernel⟩, List.mem_of_getElem? (i := 243) (by decide +kernel), List.mem_of_getElem? (i := 244) (by decide +kernel)⟩
theorem vw_X5_removeBranch : VW yX5_removeBranch cX5_removeBranch 3 (some .int) 2 := ⟨⟨List.mem_of_getElem? (i := 2) (by decide +kernel), List.mem_of_getElem? (i := 249) (by decide +kernel), by decide, by decide +kernel⟩, List.mem_of_getElem? (i := 247) (by decide +kernel), List.mem_of_getElem? (i := 248) (by decide +kernel)⟩
theorem vw_X0_dropBranch : VW yX0_dropBranch cX0_dropBranch 5 (some .int) 2 := ⟨⟨List.mem_of_getElem? (i := 14) (by decide +kernel), List.mem_of_getElem? (i := 253) (by decide +kernel), by decide, by decide +kernel⟩, List.mem_of_getElem? (i := 251) (by decide +kernel), List.mem_of_getElem? (i := 252) (by decide +kernel)⟩
theorem vw_X6_removeBranch : VW yX6_removeBranch cX6_removeBranch 4 (some .int) 2 := ⟨⟨List.mem_of_getElem? (i := 5) (by decide +kernel), List.mem_of_getElem? (i := 257) (by decide +kernel), by decide, by decide +kernel⟩, List.mem_of_getElem? (i := 255) (by decide +kernel), List.mem_of_getElem? (i := 256) (by decide +kernel)⟩
theorem vw_X5_appendCharacter : VW yX5_appendCharacter cX5_appendCharacter 2 (some .int) 1 := ⟨⟨List.mem_of_getElem? (i := 2) (by decide +kernel), List.mem_of_getElem? (i := 261) (by decide +kernel), by decide, by decide +kernel⟩, List.mem_of_getElem? (i := 259) (by decide +kernel), List.mem_of_getElem? (i := 260) (by decide +kernel)⟩
theorem vw_X4_append : VW yX4_append cX4_append 2 none 1 := ⟨⟨List.mem_of_getElem? (i := 22) (by decide +kernel), List.mem_of_getElem? (i := 265) (by decide +kernel), by decide, by decide +kernel⟩, List.mem_of_getElem? (i := 263) (by decide +kernel), List.mem_of_getElem? (i := 264) (by decide +kernel)⟩
theorem vw_X6_appendCharacter : VW yX6_appendCharacter cX6_appendCharacter 2 (some .int) 1 := ⟨⟨List.mem_of_getElem? (i := 5) (by decide +kernel), List.mem_of_getElem? (i := 270) (by decide +kernel), by decide, by decide +kernel⟩, List.mem_of_getElem? (i := 268) (by decide +kernel), List.mem_of_getElem? (i := 269) (by decide +kernel)⟩
theorem vw_X5_clearText : VW yX5_clearText cX5_clearText 2 (some .int) 0 := ⟨⟨List.mem_of_getElem? (i := 2) (by decide +kernel), List.mem_of_getElem? (i := 274) (by decide +kernel), by decide, by decide +kernel⟩, List.mem_of_getElem? (i := 272) (by decide +kernel), List.mem_of_getElem? (i := 273) (by decide +kernel)⟩
theorem vw_X6_clearText : VW yX6_clearText cX6_clearText 2 (some .int) 0 := ⟨⟨List.mem_of_getElem? (i := 5) (by decide +kernel), List.mem_of_getElem? (i := 278) (by decide +kernel), by decide, by decide +kernel⟩, List.mem_of_getElem? (i := 276) (by decide +kernel), List.mem_of_getElem? (i := 277) (by decide +kernel)⟩
theorem vw_X5_load : VW yX5_load cX5_load 3 (some .int) 1 := ⟨⟨List.mem_of_getElem? (i := 2) (by decide +kernel), List.mem_of_getElem? (i := 282) (by decide +kernel), by decide, by decide +kernel⟩, List.mem_of_getElem? (i := 280) (by decide +kernel), List.mem_of_getElem? (i := 281) (by decide +kernel)⟩
theorem vw_X2_read : VW yX2_read cX2_read 5 (some .int) 2 := ⟨⟨List.mem_of_getElem? (i := 26) (by decide +kernel), List.mem_of_getElem? (i := 286) (by decide +kernel), by decide, by decide +kernel⟩, List.mem_of_getElem? (i := 284) (by decide +kernel), List.mem_of_getElem? (i := 285) (by decide +kernel)⟩
theorem vw_X4_characterAt : VW yX4_characterAt cX4_characterAt 2 (some .char) 1 := ⟨⟨List.mem_of_getElem? (i := 22) (by decide +kernel), List.mem_of_getElem? (i := 293) (by decide +kernel), by decide, by decide +kernel⟩, List.mem_of_getElem? (i := 291) (by decide +kernel), List.mem_of_getElem? (i := 292) (by decide +kernel)⟩
theorem vw_X2_take : VW yX2_take cX2_take 2 (some .boolean) 1 := ⟨⟨List.mem_of_getElem? (i := 26) (by decide +kernel), List.mem_of_getElem? (i := 297) (by decide +kernel), by decide, by decide +kernel⟩, List.mem_of_getElem? (i := 295) (by decide +kernel), List.mem_of_getElem? (i := 296) (by decide +kernel)⟩
theorem vw_X2_goTo : VW yX2_goTo cX2_goTo 2 (some .boolean) 1 := ⟨⟨List.mem_of_getElem? (i := 26) (by decide +kernel), List.mem_of_getElem? (i := 301) (by decide +kernel), by decide, by decide +kernel⟩, List.mem_of_getElem? (i := 299) (by decide +kernel), List.mem_of_getElem? (i := 300) (by decide +kernel)⟩
theorem vw_X2_beginBranch : VW yX2_beginBranch cX2_beginBranch 2 (some .boolean) 1 := ⟨⟨List.mem_of_getElem? (i := 26) (by decide +kernel), List.mem_of_getElem? (i := 305) (by decide +kernel), by decide, by decide +kernel⟩, List.mem_of_getElem? (i := 303) (by decide +kernel), List.mem_of_getElem? (i := 304) (by decide +kernel)⟩
theorem vw_X2_beginCondition : VW yX2_beginCondition cX2_beginCondition 2 (some .boolean) 1 := ⟨⟨List.mem_of_getElem? (i := 26) (by decide +kernel), List.mem_of_getElem? (i := 309) (by decide +kernel), by decide, by decide +kernel⟩, List.mem_of_getElem? (i := 307) (by decide +kernel), List.mem_of_getElem? (i := 308) (by decide +kernel)⟩
theorem vw_X2_takeLetter : VW yX2_takeLetter cX2_takeLetter 5 (some .boolean) 2 := ⟨⟨List.mem_of_getElem? (i := 26) (by decide +kernel), List.mem_of_getElem? (i := 313) (by decide +kernel), by decide, by decide +kernel⟩, List.mem_of_getElem? (i := 311) (by decide +kernel), List.mem_of_getElem? (i := 312) (by decide +kernel)⟩
theorem vw_X2_subjectOf : VW yX2_subjectOf cX2_subjectOf 2 (some .int) 1 := ⟨⟨List.mem_of_getElem? (i := 26) (by decide +kernel), List.mem_of_getElem? (i := 317) (by decide +kernel), by decide, by decide +kernel⟩, List.mem_of_getElem? (i := 315) (by decide +kernel), List.mem_of_getElem? (i := 316) (by decide +kernel)⟩
theorem vw_X0_putCircuit : VW yX0_putCircuit cX0_putCircuit 5 none 3 := ⟨⟨List.mem_of_getElem? (i := 14) (by decide +kernel), List.mem_of_getElem? (i := 323) (by decide +kernel), by decide, by decide +kernel⟩, List.mem_of_getElem? (i := 321) (by decide +kernel), List.mem_of_getElem? (i := 322) (by decide +kernel)⟩
theorem vw_X6_load : VW yX6_load cX6_load 3 (some .int) 1 := ⟨⟨List.mem_of_getElem? (i := 5) (by decide +kernel), List.mem_of_getElem? (i := 327) (by decide +kernel), by decide, by decide +kernel⟩, List.mem_of_getElem? (i := 325) (by decide +kernel), List.mem_of_getElem? (i := 326) (by decide +kernel)⟩
theorem vw_X6_keeps : VW yX6_keeps cX6_keeps 2 none 0 := ⟨⟨List.mem_of_getElem? (i := 5) (by decide +kernel), List.mem_of_getElem? (i := 332) (by decide +kernel), by decide, by decide +kernel⟩, List.mem_of_getElem? (i := 330) (by decide +kernel), List.mem_of_getElem? (i := 331) (by decide +kernel)⟩
theorem vw_X6_reads : VW yX6_reads cX6_reads 3 (some .boolean) 1 := ⟨⟨List.mem_of_getElem? (i := 5) (by decide +kernel), List.mem_of_getElem? (i := 336) (by decide +kernel), by decide, by decide +kernel⟩, List.mem_of_getElem? (i := 334) (by decide +kernel), List.mem_of_getElem? (i := 335) (by decide +kernel)⟩
theorem vw_X6_here : VW yX6_here cX6_here 1 (some .int) 0 := ⟨⟨List.mem_of_getElem? (i := 5) (by decide +kernel), List.mem_of_getElem? (i := 340) (by decide +kernel), by decide, by decide +kernel⟩, List.mem_of_getElem? (i := 338) (by decide +kernel), List.mem_of_getElem? (i := 339) (by decide +kernel)⟩
theorem vw_X6_readsBranch : VW yX6_readsBranch cX6_readsBranch 5 (some .boolean) 1 := ⟨⟨List.mem_of_getElem? (i := 5) (by decide +kernel), List.mem_of_getElem? (i := 344) (by decide +kernel), by decide, by decide +kernel⟩, List.mem_of_getElem? (i := 342) (by decide +kernel), List.mem_of_getElem? (i := 343) (by decide +kernel)⟩
theorem vw_X6_isEnd : VW yX6_isEnd cX6_isEnd 1 (some .boolean) 0 := ⟨⟨List.mem_of_getElem? (i := 5) (by decide +kernel), List.mem_of_getElem? (i := 348) (by decide +kernel), by decide, by decide +kernel⟩, List.mem_of_getElem? (i := 346) (by decide +kernel), List.mem_of_getElem? (i := 347) (by decide +kernel)⟩
theorem vw_X6_readsCondition : VW yX6_readsCondition cX6_readsCondition 5 (some .boolean) 2 := ⟨⟨List.mem_of_getElem? (i := 5) (by decide +kernel), List.mem_of_getElem? (i := 352) (by decide +kernel), by decide, by decide +kernel⟩, List.mem_of_getElem? (i := 350) (by decide +kernel), List.mem_of_getElem? (i := 351) (by decide +kernel)⟩
theorem vw_X6_subject : VW yX6_subject cX6_subject 2 (some .int) 1 := ⟨⟨List.mem_of_getElem? (i := 5) (by decide +kernel), List.mem_of_getElem? (i := 356) (by decide +kernel), by decide, by decide +kernel⟩, List.mem_of_getElem? (i := 354) (by decide +kernel), List.mem_of_getElem? (i := 355) (by decide +kernel)⟩
theorem vw_X6_exchanges : VW yX6_exchanges cX6_exchanges 3 none 0 := ⟨⟨List.mem_of_getElem? (i := 5) (by decide +kernel), List.mem_of_getElem? (i := 360) (by decide +kernel), by decide, by decide +kernel⟩, List.mem_of_getElem? (i := 358) (by decide +kernel), List.mem_of_getElem? (i := 359) (by decide +kernel)⟩
theorem vw_X5_press : VW yX5_press cX5_press 3 (some .int) 2 := ⟨⟨List.mem_of_getElem? (i := 2) (by decide +kernel), List.mem_of_getElem? (i := 364) (by decide +kernel), by decide, by decide +kernel⟩, List.mem_of_getElem? (i := 362) (by decide +kernel), List.mem_of_getElem? (i := 363) (by decide +kernel)⟩
theorem vw_X5_isKey : SW yX5_isKey cX5_isKey 1 (some .boolean) 1 := ⟨⟨List.mem_of_getElem? (i := 2) (by decide +kernel), List.mem_of_getElem? (i := 367) (by decide +kernel), by decide, by decide +kernel⟩, List.mem_of_getElem? (i := 366) (by decide +kernel)⟩
theorem vw_X0_turnKey : VW yX0_turnKey cX0_turnKey 2 (some .int) 1 := ⟨⟨List.mem_of_getElem? (i := 14) (by decide +kernel), List.mem_of_getElem? (i := 372) (by decide +kernel), by decide, by decide +kernel⟩, List.mem_of_getElem? (i := 370) (by decide +kernel), List.mem_of_getElem? (i := 371) (by decide +kernel)⟩
theorem vw_X6_press : VW yX6_press cX6_press 3 (some .int) 2 := ⟨⟨List.mem_of_getElem? (i := 5) (by decide +kernel), List.mem_of_getElem? (i := 376) (by decide +kernel), by decide, by decide +kernel⟩, List.mem_of_getElem? (i := 374) (by decide +kernel), List.mem_of_getElem? (i := 375) (by decide +kernel)⟩
theorem vw_X5_setFault : VW yX5_setFault cX5_setFault 4 (some .int) 2 := ⟨⟨List.mem_of_getElem? (i := 2) (by decide +kernel), List.mem_of_getElem? (i := 380) (by decide +kernel), by decide, by decide +kernel⟩, List.mem_of_getElem? (i := 378) (by decide +kernel), List.mem_of_getElem? (i := 379) (by decide +kernel)⟩
theorem vw_X0_faultOf : VW yX0_faultOf cX0_faultOf 2 (some .int) 1 := ⟨⟨List.mem_of_getElem? (i := 14) (by decide +kernel), List.mem_of_getElem? (i := 384) (by decide +kernel), by decide, by decide +kernel⟩, List.mem_of_getElem? (i := 382) (by decide +kernel), List.mem_of_getElem? (i := 383) (by decide +kernel)⟩
theorem vw_X0_putFault : VW yX0_putFault cX0_putFault 4 none 2 := ⟨⟨List.mem_of_getElem? (i := 14) (by decide +kernel), List.mem_of_getElem? (i := 388) (by decide +kernel), by decide, by decide +kernel⟩, List.mem_of_getElem? (i := 386) (by decide +kernel), List.mem_of_getElem? (i := 387) (by decide +kernel)⟩
theorem vw_X6_setFault : VW yX6_setFault cX6_setFault 4 (some .int) 2 := ⟨⟨List.mem_of_getElem? (i := 5) (by decide +kernel), List.mem_of_getElem? (i := 392) (by decide +kernel), by decide, by decide +kernel⟩, List.mem_of_getElem? (i := 390) (by decide +kernel), List.mem_of_getElem? (i := 391) (by decide +kernel)⟩
theorem vw_X5_stick : VW yX5_stick cX5_stick 4 (some .int) 2 := ⟨⟨List.mem_of_getElem? (i := 2) (by decide +kernel), List.mem_of_getElem? (i := 396) (by decide +kernel), by decide, by decide +kernel⟩, List.mem_of_getElem? (i := 394) (by decide +kernel), List.mem_of_getElem? (i := 395) (by decide +kernel)⟩
theorem vw_X5_bitOf : SW yX5_bitOf cX5_bitOf 2 (some .int) 2 := ⟨⟨List.mem_of_getElem? (i := 2) (by decide +kernel), List.mem_of_getElem? (i := 399) (by decide +kernel), by decide, by decide +kernel⟩, List.mem_of_getElem? (i := 398) (by decide +kernel)⟩
theorem vw_X6_stick : VW yX6_stick cX6_stick 4 (some .int) 2 := ⟨⟨List.mem_of_getElem? (i := 5) (by decide +kernel), List.mem_of_getElem? (i := 403) (by decide +kernel), by decide, by decide +kernel⟩, List.mem_of_getElem? (i := 401) (by decide +kernel), List.mem_of_getElem? (i := 402) (by decide +kernel)⟩
theorem vw_X5_step : VW yX5_step cX5_step 3 (some .int) 0 := ⟨⟨List.mem_of_getElem? (i := 2) (by decide +kernel), List.mem_of_getElem? (i := 407) (by decide +kernel), by decide, by decide +kernel⟩, List.mem_of_getElem? (i := 405) (by decide +kernel), List.mem_of_getElem? (i := 406) (by decide +kernel)⟩
theorem vw_X0_nextSlot : VW yX0_nextSlot cX0_nextSlot 8 (some .int) 1 := ⟨⟨List.mem_of_getElem? (i := 14) (by decide +kernel), List.mem_of_getElem? (i := 411) (by decide +kernel), by decide, by decide +kernel⟩, List.mem_of_getElem? (i := 409) (by decide +kernel), List.mem_of_getElem? (i := 410) (by decide +kernel)⟩
theorem vw_X0_kindOf : VW yX0_kindOf cX0_kindOf 2 (some .int) 1 := ⟨⟨List.mem_of_getElem? (i := 14) (by decide +kernel), List.mem_of_getElem? (i := 415) (by decide +kernel), by decide, by decide +kernel⟩, List.mem_of_getElem? (i := 413) (by decide +kernel), List.mem_of_getElem? (i := 414) (by decide +kernel)⟩
theorem vw_X0_isBounceEnd : SW yX0_isBounceEnd cX0_isBounceEnd 1 (some .boolean) 1 := ⟨⟨List.mem_of_getElem? (i := 14) (by decide +kernel), List.mem_of_getElem? (i := 418) (by decide +kernel), by decide, by decide +kernel⟩, List.mem_of_getElem? (i := 417) (by decide +kernel)⟩
theorem vw_X0_relayOf : SW yX0_relayOf cX0_relayOf 1 (some .int) 1 := ⟨⟨List.mem_of_getElem? (i := 14) (by decide +kernel), List.mem_of_getElem? (i := 421) (by decide +kernel), by decide, by decide +kernel⟩, List.mem_of_getElem? (i := 420) (by decide +kernel)⟩
theorem vw_X0_happen : VW yX0_happen cX0_happen 3 none 1 := ⟨⟨List.mem_of_getElem? (i := 14) (by decide +kernel), List.mem_of_getElem? (i := 425) (by decide +kernel), by decide, by decide +kernel⟩, List.mem_of_getElem? (i := 423) (by decide +kernel), List.mem_of_getElem? (i := 424) (by decide +kernel)⟩
theorem vw_X0_moveArmature : VW yX0_moveArmature cX0_moveArmature 3 none 1 := ⟨⟨List.mem_of_getElem? (i := 14) (by decide +kernel), List.mem_of_getElem? (i := 429) (by decide +kernel), by decide, by decide +kernel⟩, List.mem_of_getElem? (i := 427) (by decide +kernel), List.mem_of_getElem? (i := 428) (by decide +kernel)⟩
theorem vw_X6_step : VW yX6_step cX6_step 2 (some .int) 0 := ⟨⟨List.mem_of_getElem? (i := 5) (by decide +kernel), List.mem_of_getElem? (i := 434) (by decide +kernel), by decide, by decide +kernel⟩, List.mem_of_getElem? (i := 432) (by decide +kernel), List.mem_of_getElem? (i := 433) (by decide +kernel)⟩
theorem vw_X6_next : VW yX6_next cX6_next 4 (some .int) 1 := ⟨⟨List.mem_of_getElem? (i := 5) (by decide +kernel), List.mem_of_getElem? (i := 438) (by decide +kernel), by decide, by decide +kernel⟩, List.mem_of_getElem? (i := 436) (by decide +kernel), List.mem_of_getElem? (i := 437) (by decide +kernel)⟩
theorem vw_X6_waits : VW yX6_waits cX6_waits 3 (some .boolean) 1 := ⟨⟨List.mem_of_getElem? (i := 5) (by decide +kernel), List.mem_of_getElem? (i := 442) (by decide +kernel), by decide, by decide +kernel⟩, List.mem_of_getElem? (i := 440) (by decide +kernel), List.mem_of_getElem? (i := 441) (by decide +kernel)⟩
theorem vw_X6_isAhead : VW yX6_isAhead cX6_isAhead 4 (some .boolean) 3 := ⟨⟨List.mem_of_getElem? (i := 5) (by decide +kernel), List.mem_of_getElem? (i := 446) (by decide +kernel), by decide, by decide +kernel⟩, List.mem_of_getElem? (i := 444) (by decide +kernel), List.mem_of_getElem? (i := 445) (by decide +kernel)⟩
theorem vw_X6_timeOf : VW yX6_timeOf cX6_timeOf 2 (some .int) 1 := ⟨⟨List.mem_of_getElem? (i := 5) (by decide +kernel), List.mem_of_getElem? (i := 450) (by decide +kernel), by decide, by decide +kernel⟩, List.mem_of_getElem? (i := 448) (by decide +kernel), List.mem_of_getElem? (i := 449) (by decide +kernel)⟩
theorem vw_X6_happens : VW yX6_happens cX6_happens 4 none 1 := ⟨⟨List.mem_of_getElem? (i := 5) (by decide +kernel), List.mem_of_getElem? (i := 454) (by decide +kernel), by decide, by decide +kernel⟩, List.mem_of_getElem? (i := 452) (by decide +kernel), List.mem_of_getElem? (i := 453) (by decide +kernel)⟩
theorem vw_X5_settle : VW yX5_settle cX5_settle 2 (some .int) 1 := ⟨⟨List.mem_of_getElem? (i := 2) (by decide +kernel), List.mem_of_getElem? (i := 458) (by decide +kernel), by decide, by decide +kernel⟩, List.mem_of_getElem? (i := 456) (by decide +kernel), List.mem_of_getElem? (i := 457) (by decide +kernel)⟩
theorem vw_X0_run : VW yX0_run cX0_run 6 (some .int) 3 := ⟨⟨List.mem_of_getElem? (i := 14) (by decide +kernel), List.mem_of_getElem? (i := 463) (by decide +kernel), by decide, by decide +kernel⟩, List.mem_of_getElem? (i := 461) (by decide +kernel), List.mem_of_getElem? (i := 462) (by decide +kernel)⟩
theorem vw_X6_settle : VW yX6_settle cX6_settle 2 (some .int) 1 := ⟨⟨List.mem_of_getElem? (i := 5) (by decide +kernel), List.mem_of_getElem? (i := 469) (by decide +kernel), by decide, by decide +kernel⟩, List.mem_of_getElem? (i := 467) (by decide +kernel), List.mem_of_getElem? (i := 468) (by decide +kernel)⟩
theorem vw_X6_settles : VW yX6_settles cX6_settles 5 (some .int) 2 := ⟨⟨List.mem_of_getElem? (i := 5) (by decide +kernel), List.mem_of_getElem? (i := 473) (by decide +kernel), by decide, by decide +kernel⟩, List.mem_of_getElem? (i := 471) (by decide +kernel), List.mem_of_getElem? (i := 472) (by decide +kernel)⟩
theorem vw_X5_pass : VW yX5_pass cX5_pass 4 (some .int) 1 := ⟨⟨List.mem_of_getElem? (i := 2) (by decide +kernel), List.mem_of_getElem? (i := 477) (by decide +kernel), by decide, by decide +kernel⟩, List.mem_of_getElem? (i := 475) (by decide +kernel), List.mem_of_getElem? (i := 476) (by decide +kernel)⟩
theorem vw_X6_pass : VW yX6_pass cX6_pass 5 (some .int) 1 := ⟨⟨List.mem_of_getElem? (i := 5) (by decide +kernel), List.mem_of_getElem? (i := 483) (by decide +kernel), by decide, by decide +kernel⟩, List.mem_of_getElem? (i := 481) (by decide +kernel), List.mem_of_getElem? (i := 482) (by decide +kernel)⟩
theorem vw_X5_count : VW yX5_count cX5_count 2 (some .int) 1 := ⟨⟨List.mem_of_getElem? (i := 2) (by decide +kernel), List.mem_of_getElem? (i := 488) (by decide +kernel), by decide, by decide +kernel⟩, List.mem_of_getElem? (i := 486) (by decide +kernel), List.mem_of_getElem? (i := 487) (by decide +kernel)⟩
theorem vw_X0_waiting : VW yX0_waiting cX0_waiting 3 (some .int) 0 := ⟨⟨List.mem_of_getElem? (i := 14) (by decide +kernel), List.mem_of_getElem? (i := 492) (by decide +kernel), by decide, by decide +kernel⟩, List.mem_of_getElem? (i := 490) (by decide +kernel), List.mem_of_getElem? (i := 491) (by decide +kernel)⟩
theorem vw_X6_count : VW yX6_count cX6_count 4 (some .int) 1 := ⟨⟨List.mem_of_getElem? (i := 5) (by decide +kernel), List.mem_of_getElem? (i := 497) (by decide +kernel), by decide, by decide +kernel⟩, List.mem_of_getElem? (i := 495) (by decide +kernel), List.mem_of_getElem? (i := 496) (by decide +kernel)⟩
theorem vw_X6_set : VW yX6_set cX6_set 4 (some .int) 1 := ⟨⟨List.mem_of_getElem? (i := 5) (by decide +kernel), List.mem_of_getElem? (i := 501) (by decide +kernel), by decide, by decide +kernel⟩, List.mem_of_getElem? (i := 499) (by decide +kernel), List.mem_of_getElem? (i := 500) (by decide +kernel)⟩
theorem vw_X5_relay : VW yX5_relay cX5_relay 3 (some .int) 2 := ⟨⟨List.mem_of_getElem? (i := 2) (by decide +kernel), List.mem_of_getElem? (i := 505) (by decide +kernel), by decide, by decide +kernel⟩, List.mem_of_getElem? (i := 503) (by decide +kernel), List.mem_of_getElem? (i := 504) (by decide +kernel)⟩
theorem vw_X0_concerns : VW yX0_concerns cX0_concerns 5 (some .boolean) 2 := ⟨⟨List.mem_of_getElem? (i := 14) (by decide +kernel), List.mem_of_getElem? (i := 510) (by decide +kernel), by decide, by decide +kernel⟩, List.mem_of_getElem? (i := 508) (by decide +kernel), List.mem_of_getElem? (i := 509) (by decide +kernel)⟩
theorem vw_X6_relay : VW yX6_relay cX6_relay 3 (some .int) 2 := ⟨⟨List.mem_of_getElem? (i := 5) (by decide +kernel), List.mem_of_getElem? (i := 516) (by decide +kernel), by decide, by decide +kernel⟩, List.mem_of_getElem? (i := 514) (by decide +kernel), List.mem_of_getElem? (i := 515) (by decide +kernel)⟩
theorem vw_X6_ofItself : VW yX6_ofItself cX6_ofItself 4 (some .int) 1 := ⟨⟨List.mem_of_getElem? (i := 5) (by decide +kernel), List.mem_of_getElem? (i := 520) (by decide +kernel), by decide, by decide +kernel⟩, List.mem_of_getElem? (i := 518) (by decide +kernel), List.mem_of_getElem? (i := 519) (by decide +kernel)⟩
theorem vw_X5_condition : VW yX5_condition cX5_condition 4 (some .int) 3 := ⟨⟨List.mem_of_getElem? (i := 2) (by decide +kernel), List.mem_of_getElem? (i := 524) (by decide +kernel), by decide, by decide +kernel⟩, List.mem_of_getElem? (i := 522) (by decide +kernel), List.mem_of_getElem? (i := 523) (by decide +kernel)⟩
theorem vw_X6_condition : VW yX6_condition cX6_condition 4 (some .int) 3 := ⟨⟨List.mem_of_getElem? (i := 5) (by decide +kernel), List.mem_of_getElem? (i := 530) (by decide +kernel), by decide, by decide +kernel⟩, List.mem_of_getElem? (i := 528) (by decide +kernel), List.mem_of_getElem? (i := 529) (by decide +kernel)⟩
theorem vw_X5_event : VW yX5_event cX5_event 4 (some .int) 2 := ⟨⟨List.mem_of_getElem? (i := 2) (by decide +kernel), List.mem_of_getElem? (i := 534) (by decide +kernel), by decide, by decide +kernel⟩, List.mem_of_getElem? (i := 532) (by decide +kernel), List.mem_of_getElem? (i := 533) (by decide +kernel)⟩
theorem vw_X0_slotAt : VW yX0_slotAt cX0_slotAt 3 (some .int) 1 := ⟨⟨List.mem_of_getElem? (i := 14) (by decide +kernel), List.mem_of_getElem? (i := 538) (by decide +kernel), by decide, by decide +kernel⟩, List.mem_of_getElem? (i := 536) (by decide +kernel), List.mem_of_getElem? (i := 537) (by decide +kernel)⟩
theorem vw_X0_eventsBefore : VW yX0_eventsBefore cX0_eventsBefore 5 (some .int) 1 := ⟨⟨List.mem_of_getElem? (i := 14) (by decide +kernel), List.mem_of_getElem? (i := 542) (by decide +kernel), by decide, by decide +kernel⟩, List.mem_of_getElem? (i := 540) (by decide +kernel), List.mem_of_getElem? (i := 541) (by decide +kernel)⟩
theorem vw_X6_event : VW yX6_event cX6_event 6 (some .int) 2 := ⟨⟨List.mem_of_getElem? (i := 5) (by decide +kernel), List.mem_of_getElem? (i := 546) (by decide +kernel), by decide, by decide +kernel⟩, List.mem_of_getElem? (i := 544) (by decide +kernel), List.mem_of_getElem? (i := 545) (by decide +kernel)⟩
theorem vw_X5_outcome : VW yX5_outcome cX5_outcome 3 (some .int) 2 := ⟨⟨List.mem_of_getElem? (i := 2) (by decide +kernel), List.mem_of_getElem? (i := 550) (by decide +kernel), by decide, by decide +kernel⟩, List.mem_of_getElem? (i := 548) (by decide +kernel), List.mem_of_getElem? (i := 549) (by decide +kernel)⟩
theorem vw_X5_endingOf : VW yX5_endingOf cX5_endingOf 4 (some .int) 3 := ⟨⟨List.mem_of_getElem? (i := 2) (by decide +kernel), List.mem_of_getElem? (i := 554) (by decide +kernel), by decide, by decide +kernel⟩, List.mem_of_getElem? (i := 552) (by decide +kernel), List.mem_of_getElem? (i := 553) (by decide +kernel)⟩
theorem vw_X0_isQuiet : VW yX0_isQuiet cX0_isQuiet 1 (some .boolean) 0 := ⟨⟨List.mem_of_getElem? (i := 14) (by decide +kernel), List.mem_of_getElem? (i := 558) (by decide +kernel), by decide, by decide +kernel⟩, List.mem_of_getElem? (i := 556) (by decide +kernel), List.mem_of_getElem? (i := 557) (by decide +kernel)⟩
theorem vw_X6_outcome : VW yX6_outcome cX6_outcome 4 (some .int) 2 := ⟨⟨List.mem_of_getElem? (i := 5) (by decide +kernel), List.mem_of_getElem? (i := 562) (by decide +kernel), by decide, by decide +kernel⟩, List.mem_of_getElem? (i := 560) (by decide +kernel), List.mem_of_getElem? (i := 561) (by decide +kernel)⟩
theorem vw_X6_ends : VW yX6_ends cX6_ends 4 (some .int) 2 := ⟨⟨List.mem_of_getElem? (i := 5) (by decide +kernel), List.mem_of_getElem? (i := 566) (by decide +kernel), by decide, by decide +kernel⟩, List.mem_of_getElem? (i := 564) (by decide +kernel), List.mem_of_getElem? (i := 565) (by decide +kernel)⟩
theorem vw_X6_restores : VW yX6_restores cX6_restores 2 none 0 := ⟨⟨List.mem_of_getElem? (i := 5) (by decide +kernel), List.mem_of_getElem? (i := 570) (by decide +kernel), by decide, by decide +kernel⟩, List.mem_of_getElem? (i := 568) (by decide +kernel), List.mem_of_getElem? (i := 569) (by decide +kernel)⟩
theorem vw_X5_isRace : VW yX5_isRace cX5_isRace 1 (some .int) 0 := ⟨⟨List.mem_of_getElem? (i := 2) (by decide +kernel), List.mem_of_getElem? (i := 574) (by decide +kernel), by decide, by decide +kernel⟩, List.mem_of_getElem? (i := 572) (by decide +kernel), List.mem_of_getElem? (i := 573) (by decide +kernel)⟩
theorem vw_X5_raceIn : VW yX5_raceIn cX5_raceIn 3 (some .int) 1 := ⟨⟨List.mem_of_getElem? (i := 2) (by decide +kernel), List.mem_of_getElem? (i := 578) (by decide +kernel), by decide, by decide +kernel⟩, List.mem_of_getElem? (i := 576) (by decide +kernel), List.mem_of_getElem? (i := 577) (by decide +kernel)⟩
theorem vw_X6_isRace : VW yX6_isRace cX6_isRace 1 (some .int) 0 := ⟨⟨List.mem_of_getElem? (i := 5) (by decide +kernel), List.mem_of_getElem? (i := 582) (by decide +kernel), by decide, by decide +kernel⟩, List.mem_of_getElem? (i := 580) (by decide +kernel), List.mem_of_getElem? (i := 581) (by decide +kernel)⟩
theorem vw_X6_races : VW yX6_races cX6_races 4 (some .int) 0 := ⟨⟨List.mem_of_getElem? (i := 5) (by decide +kernel), List.mem_of_getElem? (i := 586) (by decide +kernel), by decide, by decide +kernel⟩, List.mem_of_getElem? (i := 584) (by decide +kernel), List.mem_of_getElem? (i := 585) (by decide +kernel)⟩
theorem vw_X5_raceBy : VW yX5_raceBy cX5_raceBy 2 (some .int) 1 := ⟨⟨List.mem_of_getElem? (i := 2) (by decide +kernel), List.mem_of_getElem? (i := 590) (by decide +kernel), by decide, by decide +kernel⟩, List.mem_of_getElem? (i := 588) (by decide +kernel), List.mem_of_getElem? (i := 589) (by decide +kernel)⟩
theorem vw_X6_raceBy : VW yX6_raceBy cX6_raceBy 3 (some .int) 1 := ⟨⟨List.mem_of_getElem? (i := 5) (by decide +kernel), List.mem_of_getElem? (i := 594) (by decide +kernel), by decide, by decide +kernel⟩, List.mem_of_getElem? (i := 592) (by decide +kernel), List.mem_of_getElem? (i := 593) (by decide +kernel)⟩
theorem vw_X5_hazards : VW yX5_hazards cX5_hazards 4 (some .int) 1 := ⟨⟨List.mem_of_getElem? (i := 2) (by decide +kernel), List.mem_of_getElem? (i := 598) (by decide +kernel), by decide, by decide +kernel⟩, List.mem_of_getElem? (i := 596) (by decide +kernel), List.mem_of_getElem? (i := 597) (by decide +kernel)⟩
theorem vw_X6_hazards : VW yX6_hazards cX6_hazards 6 (some .int) 1 := ⟨⟨List.mem_of_getElem? (i := 5) (by decide +kernel), List.mem_of_getElem? (i := 602) (by decide +kernel), by decide, by decide +kernel⟩, List.mem_of_getElem? (i := 600) (by decide +kernel), List.mem_of_getElem? (i := 601) (by decide +kernel)⟩
theorem vw_X5_stableStates : VW yX5_stableStates cX5_stableStates 4 (some .int) 0 := ⟨⟨List.mem_of_getElem? (i := 2) (by decide +kernel), List.mem_of_getElem? (i := 606) (by decide +kernel), by decide, by decide +kernel⟩, List.mem_of_getElem? (i := 604) (by decide +kernel), List.mem_of_getElem? (i := 605) (by decide +kernel)⟩
theorem vw_X0_isStable : VW yX0_isStable cX0_isStable 3 (some .boolean) 0 := ⟨⟨List.mem_of_getElem? (i := 14) (by decide +kernel), List.mem_of_getElem? (i := 610) (by decide +kernel), by decide, by decide +kernel⟩, List.mem_of_getElem? (i := 608) (by decide +kernel), List.mem_of_getElem? (i := 609) (by decide +kernel)⟩
theorem vw_X6_stableStates : VW yX6_stableStates cX6_stableStates 3 (some .int) 0 := ⟨⟨List.mem_of_getElem? (i := 5) (by decide +kernel), List.mem_of_getElem? (i := 614) (by decide +kernel), by decide, by decide +kernel⟩, List.mem_of_getElem? (i := 612) (by decide +kernel), List.mem_of_getElem? (i := 613) (by decide +kernel)⟩
theorem vw_X6_isStable : VW yX6_isStable cX6_isStable 6 (some .boolean) 1 := ⟨⟨List.mem_of_getElem? (i := 5) (by decide +kernel), List.mem_of_getElem? (i := 618) (by decide +kernel), by decide, by decide +kernel⟩, List.mem_of_getElem? (i := 616) (by decide +kernel), List.mem_of_getElem? (i := 617) (by decide +kernel)⟩
theorem vw_X5_explain : VW yX5_explain cX5_explain 5 (some .int) 1 := ⟨⟨List.mem_of_getElem? (i := 2) (by decide +kernel), List.mem_of_getElem? (i := 622) (by decide +kernel), by decide, by decide +kernel⟩, List.mem_of_getElem? (i := 620) (by decide +kernel), List.mem_of_getElem? (i := 621) (by decide +kernel)⟩
theorem vw_X6_explain : VW yX6_explain cX6_explain 4 (some .int) 1 := ⟨⟨List.mem_of_getElem? (i := 5) (by decide +kernel), List.mem_of_getElem? (i := 626) (by decide +kernel), by decide, by decide +kernel⟩, List.mem_of_getElem? (i := 624) (by decide +kernel), List.mem_of_getElem? (i := 625) (by decide +kernel)⟩
theorem vw_X5_undo : VW yX5_undo cX5_undo 1 (some .int) 0 := ⟨⟨List.mem_of_getElem? (i := 2) (by decide +kernel), List.mem_of_getElem? (i := 630) (by decide +kernel), by decide, by decide +kernel⟩, List.mem_of_getElem? (i := 628) (by decide +kernel), List.mem_of_getElem? (i := 629) (by decide +kernel)⟩
theorem vw_X3_restore : VW yX3_restore cX3_restore 3 (some .boolean) 1 := ⟨⟨List.mem_of_getElem? (i := 18) (by decide +kernel), List.mem_of_getElem? (i := 634) (by decide +kernel), by decide, by decide +kernel⟩, List.mem_of_getElem? (i := 632) (by decide +kernel), List.mem_of_getElem? (i := 633) (by decide +kernel)⟩
theorem vw_X6_undo : VW yX6_undo cX6_undo 2 (some .int) 0 := ⟨⟨List.mem_of_getElem? (i := 5) (by decide +kernel), List.mem_of_getElem? (i := 638) (by decide +kernel), by decide, by decide +kernel⟩, List.mem_of_getElem? (i := 636) (by decide +kernel), List.mem_of_getElem? (i := 637) (by decide +kernel)⟩
end
section
theorem bp_m10 : (Int8.ofInt (-10)).toInt32 = (-10) := by decide +kernel
theorem bp_m9 : (Int8.ofInt (-9)).toInt32 = (-9) := by decide +kernel
theorem bp_m3 : (Int8.ofInt (-3)).toInt32 = (-3) := by decide +kernel
theorem bp_m2 : (Int8.ofInt (-2)).toInt32 = (-2) := by decide +kernel
theorem bp_6 : (Int8.ofInt (6)).toInt32 = nI 6 := by decide +kernel
theorem bp_7 : (Int8.ofInt (7)).toInt32 = nI 7 := by decide +kernel
theorem bp_8 : (Int8.ofInt (8)).toInt32 = nI 8 := by decide +kernel
theorem bp_9 : (Int8.ofInt (9)).toInt32 = nI 9 := by decide +kernel
theorem bp_10 : (Int8.ofInt (10)).toInt32 = nI 10 := by decide +kernel
theorem bp_11 : (Int8.ofInt (11)).toInt32 = nI 11 := by decide +kernel
theorem bp_12 : (Int8.ofInt (12)).toInt32 = nI 12 := by decide +kernel
theorem bp_13 : (Int8.ofInt (13)).toInt32 = nI 13 := by decide +kernel
theorem bp_15 : (Int8.ofInt (15)).toInt32 = nI 15 := by decide +kernel
theorem bp_16 : (Int8.ofInt (16)).toInt32 = nI 16 := by decide +kernel
theorem bp_20 : (Int8.ofInt (20)).toInt32 = nI 20 := by decide +kernel
theorem bp_25 : (Int8.ofInt (25)).toInt32 = nI 25 := by decide +kernel
theorem bp_31 : (Int8.ofInt (31)).toInt32 = nI 31 := by decide +kernel
theorem bp_32 : (Int8.ofInt (32)).toInt32 = nI 32 := by decide +kernel
theorem bp_43 : (Int8.ofInt (43)).toInt32 = nI 43 := by decide +kernel
theorem bp_47 : (Int8.ofInt (47)).toInt32 = nI 47 := by decide +kernel
theorem bp_48 : (Int8.ofInt (48)).toInt32 = nI 48 := by decide +kernel
theorem bp_49 : (Int8.ofInt (49)).toInt32 = nI 49 := by decide +kernel
theorem bp_60 : (Int8.ofInt (60)).toInt32 = nI 60 := by decide +kernel
theorem bp_65 : (Int8.ofInt (65)).toInt32 = nI 65 := by decide +kernel
theorem bp_72 : (Int8.ofInt (72)).toInt32 = nI 72 := by decide +kernel
theorem bp_97 : (Int8.ofInt (97)).toInt32 = nI 97 := by decide +kernel
theorem bp_104 : (Int8.ofInt (104)).toInt32 = nI 104 := by decide +kernel
theorem ic_m1 : Int32.ofInt (-1) = (-1) := by decide +kernel
theorem ic_0 : Int32.ofInt (0) = nI 0 := by decide +kernel
theorem ic_1 : Int32.ofInt (1) = nI 1 := by decide +kernel
theorem ic_2 : Int32.ofInt (2) = nI 2 := by decide +kernel
theorem ic_3 : Int32.ofInt (3) = nI 3 := by decide +kernel
theorem ic_4 : Int32.ofInt (4) = nI 4 := by decide +kernel
theorem ic_5 : Int32.ofInt (5) = nI 5 := by decide +kernel
theorem ii_1 : Int32.ofInt 1 = nI 1 := by decide +kernel
theorem ii_5 : Int32.ofInt 5 = nI 5 := by decide +kernel
theorem sp_200 : (Int16.ofInt (200)).toInt32 = nI 200 := by decide +kernel
theorem sp_201 : (Int16.ofInt (201)).toInt32 = nI 201 := by decide +kernel
theorem sp_203 : (Int16.ofInt (203)).toInt32 = nI 203 := by decide +kernel
theorem sp_255 : (Int16.ofInt (255)).toInt32 = nI 255 := by decide +kernel
theorem sp_256 : (Int16.ofInt (256)).toInt32 = nI 256 := by decide +kernel
theorem sp_1000 : (Int16.ofInt (1000)).toInt32 = nI 1000 := by decide +kernel
theorem sp_1015 : (Int16.ofInt (1015)).toInt32 = nI 1015 := by decide +kernel
theorem sp_1218 : (Int16.ofInt (1218)).toInt32 = nI 1218 := by decide +kernel
end
section
/-! Numbers as naturals: aZ a is the int nI a -/
abbrev aZ (a : Nat) : AV := aI (nI a)
abbrev zA (N : Nat) (f : Nat → Nat) : AC := cArr 0 N (fun j => nI (f j))
def upN (f : Nat → Nat) (k x : Nat) : Nat → Nat := fun j => if j = k then x else f j
theorem upN_self (f : Nat → Nat) (k x : Nat) : upN f k x k = x := by simp [upN]
theorem upN_ne (f : Nat → Nat) (k x : Nat) {j : Nat} (h : j ≠ k) : upN f k x j = f j := by simp [upN, h]
theorem upd_nI (f : Nat → Nat) (k x : Nat) : upd (fun j => nI (f j)) k (nI x) = fun j => nI (upN f k x j) := by
  funext j
  unfold upd upN
  split <;> rfl
theorem nI_tn (a : Nat) : (nI a).toBitVec.toNat = a % 4294967296 := by
  show (BitVec.ofNat 32 a).toNat = _
  rw [BitVec.toNat_ofNat]
theorem nI_ext {x y : Int32} (h : x.toBitVec.toNat = y.toBitVec.toNat) : x = y := Int32.toBitVec_inj.mp (BitVec.eq_of_toNat_eq h)
theorem nI_inj {a b : Nat} (ha : a < 4294967296) (hb : b < 4294967296) : nI a = nI b ↔ a = b := by
  constructor
  · intro h
    have h1 : (nI a).toBitVec.toNat = (nI b).toBitVec.toNat := by rw [h]
    rw [nI_tn, nI_tn, Nat.mod_eq_of_lt ha, Nat.mod_eq_of_lt hb] at h1
    exact h1
  · rintro rfl
    rfl
theorem nI_z {a : Nat} (ha : a < 4294967296) : nI a = 0 ↔ a = 0 := by
  rw [← nI_0]
  exact nI_inj ha (by decide)
theorem nI_mul (a b : Nat) : nI a * nI b = nI (a * b) := (Int32.ofNat_mul a b).symm
theorem nI_sub {a b : Nat} (h : b ≤ a) : nI a - nI b = nI (a - b) := by
  have e : nI a = nI (a - b) + nI b := by rw [nI_add, Nat.sub_add_cancel h]
  rw [e, Int32.add_sub_cancel]
theorem nI_and (a b : Nat) : nI a &&& nI b = nI (a &&& b) := by
  apply nI_ext
  rw [Int32.toBitVec_and, BitVec.toNat_and, nI_tn, nI_tn, nI_tn]
  apply Nat.eq_of_testBit_eq
  intro i
  rw [show 4294967296 = 2 ^ 32 from rfl, Nat.testBit_and, Nat.testBit_mod_two_pow, Nat.testBit_mod_two_pow, Nat.testBit_mod_two_pow, Nat.testBit_and]
  cases decide (i < 32) <;> simp
theorem nI_or (a b : Nat) : nI a ||| nI b = nI (a ||| b) := by
  apply nI_ext
  rw [Int32.toBitVec_or, BitVec.toNat_or, nI_tn, nI_tn, nI_tn]
  apply Nat.eq_of_testBit_eq
  intro i
  rw [show 4294967296 = 2 ^ 32 from rfl, Nat.testBit_or, Nat.testBit_mod_two_pow, Nat.testBit_mod_two_pow, Nat.testBit_mod_two_pow, Nat.testBit_or]
  cases decide (i < 32) <;> simp
theorem nI_xor (a b : Nat) : nI a ^^^ nI b = nI (a ^^^ b) := by
  apply nI_ext
  rw [Int32.toBitVec_xor, BitVec.toNat_xor, nI_tn, nI_tn, nI_tn]
  apply Nat.eq_of_testBit_eq
  intro i
  rw [show 4294967296 = 2 ^ 32 from rfl, Nat.testBit_xor, Nat.testBit_mod_two_pow, Nat.testBit_mod_two_pow, Nat.testBit_mod_two_pow, Nat.testBit_xor]
  cases decide (i < 32) <;> simp
theorem sh_l : ∀ k, k < 32 → ((nI k &&& 31).toBitVec.smod 32).toNat = k := by decide +kernel
theorem sh_u : ∀ k, k < 32 → ((nI k).toUInt32 &&& Int32.toUInt32 31).toNat % 32 = k := by decide +kernel
theorem nI_shl (a : Nat) {k : Nat} (hk : k < 32) : nI a <<< (nI k &&& 31) = nI (a <<< k) := by
  apply nI_ext
  rw [Int32.toBitVec_shiftLeft, BitVec.shiftLeft_eq', BitVec.toNat_shiftLeft, sh_l k hk, nI_tn, nI_tn]
  show _ % 2 ^ 32 = _ % 2 ^ 32
  rw [Nat.shiftLeft_eq, Nat.shiftLeft_eq, show 4294967296 = 2 ^ 32 from rfl, Nat.mod_mul_mod]
theorem nI_ushr {a k : Nat} (ha : a < 4294967296) (hk : k < 32) : ((nI a).toUInt32 >>> ((nI k).toUInt32 &&& Int32.toUInt32 31)).toInt32 = nI (a >>> k) := by
  apply nI_ext
  have h1 : ((nI a).toUInt32 >>> ((nI k).toUInt32 &&& Int32.toUInt32 31)).toNat = a >>> k := by
    rw [UInt32.toNat_shiftRight, sh_u k hk]
    show (nI a).toBitVec.toNat >>> k = _
    rw [nI_tn, Nat.mod_eq_of_lt ha]
  show ((nI a).toUInt32 >>> ((nI k).toUInt32 &&& Int32.toUInt32 31)).toNat = _
  rw [h1, nI_tn, Nat.mod_eq_of_lt]
  exact Nat.lt_of_le_of_lt (Nat.shiftRight_le a k) ha
theorem nI_sshr {a k : Nat} (ha : a < 2147483648) (hk : k < 32) : nI a >>> (nI k &&& 31) = nI (a >>> k) := by
  apply nI_ext
  rw [Int32.toBitVec_shiftRight, BitVec.sshiftRight_eq', BitVec.toNat_sshiftRight_of_msb_false, sh_l k hk, nI_tn, nI_tn, Nat.mod_eq_of_lt (by omega), Nat.mod_eq_of_lt]
  · exact Nat.lt_of_le_of_lt (Nat.shiftRight_le a k) (by omega)
  · rw [BitVec.msb_eq_false_iff_two_mul_lt, nI_tn, Nat.mod_eq_of_lt (by omega)]
    omega
theorem nI_div {a b : Nat} (ha : a < 2147483648) (hb : b < 2147483648) : nI a / nI b = nI (a / b) := by
  apply Int32.toInt_inj.mp
  have hq : a / b ≤ a := Nat.div_le_self a b
  rw [Int32.toInt_div_of_ne_left, nI_toInt ha, nI_toInt hb, nI_toInt (by omega)]
  · rw [Int.tdiv_eq_ediv_of_nonneg (by omega)]
    rfl
  · intro h
    have h2 : (nI a).toInt = Int32.minValue.toInt := by rw [h]
    rw [nI_toInt ha] at h2
    have h3 : Int32.minValue.toInt = -2147483648 := by decide
    omega
theorem nI_rem {a b : Nat} (ha : a < 2147483648) (hb : b < 2147483648) : nI a - nI a / nI b * nI b = nI (a % b) := by
  rw [nI_div ha hb, nI_mul, nI_sub (Nat.div_mul_le_self a b)]
  congr 1
  have := Nat.div_add_mod a b
  rw [Nat.mul_comm] at this
  omega
theorem nI_i2c {a : Nat} (h : a < 65536) : ((nI a).toUInt32 % 65536).toInt32 = nI a := by
  apply nI_ext
  show ((nI a).toUInt32 % 65536).toNat = _
  rw [UInt32.toNat_mod, show (65536 : UInt32).toNat = 65536 from rfl]
  show (nI a).toBitVec.toNat % 65536 = _
  rw [nI_tn, Nat.mod_eq_of_lt (a := a) (by omega), Nat.mod_eq_of_lt h]
theorem nar_b (p : Bool) : narrow .boolean (.int (nI p.toNat)) = .int (nI p.toNat) := by cases p <;> rfl
/-- what a method that makes nothing leaves -/
def Nz (n : Nat) (Q : Option AV → (Nat → AC) → Prop) : Option AV → Nat → (Nat → AC) → Prop := fun r n' w' => n' = n ∧ Q r w'
def Rs (r : Option AV) (w : Nat → AC) : Option AV → (Nat → AC) → Prop := fun r' w' => r' = r ∧ w' = w
abbrev Sq (l : Launch) (z : MethodName) (cz : ByteArray) (mz : Nat) (rz : Option FieldType) (d : Nat) (as : List AV) (n : Nat) (w : Nat → AC) (Q : Option AV → (Nat → AC) → Prop) : Prop := Sp l z cz mz rz d 0 0 as n w (Nz n Q)
/-- all cells outside k .. k + m stay -/
def Fr (k m : Nat) (w w' : Nat → AC) : Prop := ∀ j, (j < k ∨ k + m ≤ j) → w' j = w j
theorem Fr.rf {k m : Nat} {w : Nat → AC} : Fr k m w w := fun _ _ => rfl
theorem Fr.tr {k m : Nat} {w w1 w2 : Nat → AC} (h : Fr k m w w1) (g : Fr k m w1 w2) : Fr k m w w2 := fun j hj => (g j hj).trans (h j hj)
theorem Fr.up {k m i : Nat} {w : Nat → AC} {c : AC} (h : k ≤ i) (h2 : i < k + m) : Fr k m w (upw w i c) := fun j hj => upw_ne _ _ _ (by omega)
theorem Fr.wide {k m k' m' : Nat} {w w' : Nat → AC} (h : Fr k m w w') (h1 : k' ≤ k) (h2 : k + m ≤ k' + m') : Fr k' m' w w' := fun j hj => h j (by omega)
section
variable {Γ : Gm} {l : Launch} {y : MethodName} {cc : ByteArray} {mL d mc ms : Nat} {pc n : Nat} {L st : List AV} {cs : Nat × Nat} {w : Nat → AC}
theorem qz_iadd (hΓ : Ok Γ l y cc mL d mc ms) {a b : Nat} (hd : decode cc pc = .ok (.iadd, 1)) (k : Γ (pc + 1) L (aZ (a + b) :: st) cs n w) : Γ pc L (aZ b :: aZ a :: st) cs n w := qa_iadd hΓ hd (by rw [nI_add]; exact k)
theorem qz_imul (hΓ : Ok Γ l y cc mL d mc ms) {a b : Nat} (hd : decode cc pc = .ok (.imul, 1)) (k : Γ (pc + 1) L (aZ (a * b) :: st) cs n w) : Γ pc L (aZ b :: aZ a :: st) cs n w := qa_imul hΓ hd (by rw [nI_mul]; exact k)
theorem qz_isub (hΓ : Ok Γ l y cc mL d mc ms) {a b : Nat} (hd : decode cc pc = .ok (.isub, 1)) (h : b ≤ a) (k : Γ (pc + 1) L (aZ (a - b) :: st) cs n w) : Γ pc L (aZ b :: aZ a :: st) cs n w := qa_isub hΓ hd (by rw [nI_sub h]; exact k)
theorem qz_iand (hΓ : Ok Γ l y cc mL d mc ms) {a b : Nat} (hd : decode cc pc = .ok (.iand, 1)) (k : Γ (pc + 1) L (aZ (a &&& b) :: st) cs n w) : Γ pc L (aZ b :: aZ a :: st) cs n w := qa_iand hΓ hd (by rw [nI_and]; exact k)
theorem qz_ior (hΓ : Ok Γ l y cc mL d mc ms) {a b : Nat} (hd : decode cc pc = .ok (.ior, 1)) (k : Γ (pc + 1) L (aZ (a ||| b) :: st) cs n w) : Γ pc L (aZ b :: aZ a :: st) cs n w := qa_ior hΓ hd (by rw [nI_or]; exact k)
theorem qz_ixor (hΓ : Ok Γ l y cc mL d mc ms) {a b : Nat} (hd : decode cc pc = .ok (.ixor, 1)) (k : Γ (pc + 1) L (aZ (a ^^^ b) :: st) cs n w) : Γ pc L (aZ b :: aZ a :: st) cs n w := qa_ixor hΓ hd (by rw [nI_xor]; exact k)
theorem qz_ishl (hΓ : Ok Γ l y cc mL d mc ms) {a b : Nat} (hd : decode cc pc = .ok (.ishl, 1)) (h : b < 32) (k : Γ (pc + 1) L (aZ (a <<< b) :: st) cs n w) : Γ pc L (aZ b :: aZ a :: st) cs n w := qa_ishl hΓ hd (by rw [nI_shl a h]; exact k)
theorem qz_ishr (hΓ : Ok Γ l y cc mL d mc ms) {a b : Nat} (hd : decode cc pc = .ok (.ishr, 1)) (ha : a < 2147483648) (h : b < 32) (k : Γ (pc + 1) L (aZ (a >>> b) :: st) cs n w) : Γ pc L (aZ b :: aZ a :: st) cs n w := qa_ishr hΓ hd (by rw [nI_sshr ha h]; exact k)
theorem qz_iushr (hΓ : Ok Γ l y cc mL d mc ms) {a b : Nat} (hd : decode cc pc = .ok (.iushr, 1)) (ha : a < 4294967296) (h : b < 32) (k : Γ (pc + 1) L (aZ (a >>> b) :: st) cs n w) : Γ pc L (aZ b :: aZ a :: st) cs n w := qa_iushr hΓ hd (nI_ushr ha h) k
theorem qz_idiv (hΓ : Ok Γ l y cc mL d mc ms) {a b : Nat} (hd : decode cc pc = .ok (.idiv, 1)) (ha : a < 2147483648) (hb : b < 2147483648) (h0 : 0 < b) (k : Γ (pc + 1) L (aZ (a / b) :: st) cs n w) : Γ pc L (aZ b :: aZ a :: st) cs n w := qa_idiv hΓ hd (nI_ne0 h0 hb) (by rw [nI_div ha hb]; exact k)
theorem qz_irem (hΓ : Ok Γ l y cc mL d mc ms) {a b : Nat} (hd : decode cc pc = .ok (.irem, 1)) (ha : a < 2147483648) (hb : b < 2147483648) (h0 : 0 < b) (k : Γ (pc + 1) L (aZ (a % b) :: st) cs n w) : Γ pc L (aZ b :: aZ a :: st) cs n w := qa_irem hΓ hd (nI_ne0 h0 hb) (by rw [nI_rem ha hb]; exact k)
theorem qz_i2c (hΓ : Ok Γ l y cc mL d mc ms) {a : Nat} (hd : decode cc pc = .ok (.i2c, 1)) (ha : a < 65536) (k : Γ (pc + 1) L (aZ a :: st) cs n w) : Γ pc L (aZ a :: st) cs n w := qa_i2c hΓ hd (nI_i2c ha) k
theorem qz_iinc (hΓ : Ok Γ l y cc mL d mc ms) {j a k0 : Nat} {b : Int} (hd : decode cc pc = .ok (.iinc j b, 3)) (hb : Int32.ofInt b = nI k0) (hl : lg L j = aZ a) (hn : j < mL) (k : Γ (pc + 3) (L.set j (aZ (a + k0))) st cs n w) : Γ pc L st cs n w := qa_iinc hΓ hd hl (by rw [hb, nI_add]) hn k
theorem qz_icmp_lt (hΓ : Ok Γ l y cc mL d mc ms) {a b : Nat} {off : Int} {tgt : Nat} (hd : decode cc pc = .ok (.if_icmp .lt off, 3)) (ht : (pc : Int) + off = (tgt : Int)) (ha : a < 2147483648) (hb : b < 2147483648) (kt : a < b → Γ tgt L st cs n w) (kf : b ≤ a → Γ (pc + 3) L st cs n w) : Γ pc L (aZ b :: aZ a :: st) cs n w := qa_icmp_lt hΓ hd ht (fun h => kt ((nI_ltI ha hb).mp h)) (fun h => kf (by have h2 := mt (nI_ltI ha hb).mpr h; omega))
theorem qz_icmp_ge (hΓ : Ok Γ l y cc mL d mc ms) {a b : Nat} {off : Int} {tgt : Nat} (hd : decode cc pc = .ok (.if_icmp .ge off, 3)) (ht : (pc : Int) + off = (tgt : Int)) (ha : a < 2147483648) (hb : b < 2147483648) (kt : b ≤ a → Γ tgt L st cs n w) (kf : a < b → Γ (pc + 3) L st cs n w) : Γ pc L (aZ b :: aZ a :: st) cs n w := qa_icmp_ge hΓ hd ht (fun h => kt ((nI_leI hb ha).mp h)) (fun h => kf (by have h2 := mt (nI_leI hb ha).mpr h; omega))
theorem qz_icmp_gt (hΓ : Ok Γ l y cc mL d mc ms) {a b : Nat} {off : Int} {tgt : Nat} (hd : decode cc pc = .ok (.if_icmp .gt off, 3)) (ht : (pc : Int) + off = (tgt : Int)) (ha : a < 2147483648) (hb : b < 2147483648) (kt : b < a → Γ tgt L st cs n w) (kf : a ≤ b → Γ (pc + 3) L st cs n w) : Γ pc L (aZ b :: aZ a :: st) cs n w := qa_icmp_gt hΓ hd ht (fun h => kt ((nI_ltI hb ha).mp h)) (fun h => kf (by have h2 := mt (nI_ltI hb ha).mpr h; omega))
theorem qz_icmp_le (hΓ : Ok Γ l y cc mL d mc ms) {a b : Nat} {off : Int} {tgt : Nat} (hd : decode cc pc = .ok (.if_icmp .le off, 3)) (ht : (pc : Int) + off = (tgt : Int)) (ha : a < 2147483648) (hb : b < 2147483648) (kt : a ≤ b → Γ tgt L st cs n w) (kf : b < a → Γ (pc + 3) L st cs n w) : Γ pc L (aZ b :: aZ a :: st) cs n w := qa_icmp_le hΓ hd ht (fun h => kt ((nI_leI ha hb).mp h)) (fun h => kf (by have h2 := mt (nI_leI ha hb).mpr h; omega))
theorem qz_icmp_eq (hΓ : Ok Γ l y cc mL d mc ms) {a b : Nat} {off : Int} {tgt : Nat} (hd : decode cc pc = .ok (.if_icmp .eq off, 3)) (ht : (pc : Int) + off = (tgt : Int)) (ha : a < 4294967296) (hb : b < 4294967296) (kt : a = b → Γ tgt L st cs n w) (kf : ¬ a = b → Γ (pc + 3) L st cs n w) : Γ pc L (aZ b :: aZ a :: st) cs n w := qa_icmp_eq hΓ hd ht (fun h => kt ((nI_inj ha hb).mp h)) (fun h => kf (fun e => h (by rw [e])))
theorem qz_if_eq (hΓ : Ok Γ l y cc mL d mc ms) {a : Nat} {off : Int} {tgt : Nat} (hd : decode cc pc = .ok (.ifCond .eq off, 3)) (ht : (pc : Int) + off = (tgt : Int)) (ha : a < 4294967296) (kt : a = 0 → Γ tgt L st cs n w) (kf : ¬ a = 0 → Γ (pc + 3) L st cs n w) : Γ pc L (aZ a :: st) cs n w := qa_if_eq hΓ hd ht (fun h => kt ((nI_z ha).mp h)) (fun h => kf (fun e => h (by rw [e]; rfl)))
theorem qz_icmp_ne (hΓ : Ok Γ l y cc mL d mc ms) {a b : Nat} {off : Int} {tgt : Nat} (hd : decode cc pc = .ok (.if_icmp .ne off, 3)) (ht : (pc : Int) + off = (tgt : Int)) (ha : a < 4294967296) (hb : b < 4294967296) (kt : ¬ a = b → Γ tgt L st cs n w) (kf : a = b → Γ (pc + 3) L st cs n w) : Γ pc L (aZ b :: aZ a :: st) cs n w := qa_icmp_ne hΓ hd ht (fun h => kt (fun e => h (by rw [e]))) (fun h => kf ((nI_inj ha hb).mp h))
theorem qz_if_ne (hΓ : Ok Γ l y cc mL d mc ms) {a : Nat} {off : Int} {tgt : Nat} (hd : decode cc pc = .ok (.ifCond .ne off, 3)) (ht : (pc : Int) + off = (tgt : Int)) (ha : a < 4294967296) (kt : ¬ a = 0 → Γ tgt L st cs n w) (kf : a = 0 → Γ (pc + 3) L st cs n w) : Γ pc L (aZ a :: st) cs n w := qa_if_ne hΓ hd ht (fun h => kt (fun e => h (by rw [e]; rfl))) (fun h => kf ((nI_z ha).mp h))
theorem qb_if_eq (hΓ : Ok Γ l y cc mL d mc ms) {p : Bool} {off : Int} {tgt : Nat} (hd : decode cc pc = .ok (.ifCond .eq off, 3)) (ht : (pc : Int) + off = (tgt : Int)) (kt : p = false → Γ tgt L st cs n w) (kf : p = true → Γ (pc + 3) L st cs n w) : Γ pc L (aZ p.toNat :: st) cs n w := qz_if_eq hΓ hd ht (by cases p <;> decide) (fun h => kt (by cases p <;> first | rfl | exact absurd rfl h | cases h)) (fun h => kf (by cases p <;> first | rfl | exact absurd rfl h | cases h))
theorem qb_if_ne (hΓ : Ok Γ l y cc mL d mc ms) {p : Bool} {off : Int} {tgt : Nat} (hd : decode cc pc = .ok (.ifCond .ne off, 3)) (ht : (pc : Int) + off = (tgt : Int)) (kt : p = true → Γ tgt L st cs n w) (kf : p = false → Γ (pc + 3) L st cs n w) : Γ pc L (aZ p.toNat :: st) cs n w := qz_if_ne hΓ hd ht (by cases p <;> decide) (fun h => kt (by cases p <;> first | rfl | exact absurd rfl h | cases h)) (fun h => kf (by cases p <;> first | rfl | exact absurd rfl h | cases h))
theorem qz_if_lt (hΓ : Ok Γ l y cc mL d mc ms) {a : Nat} {off : Int} {tgt : Nat} (hd : decode cc pc = .ok (.ifCond .lt off, 3)) (ht : (pc : Int) + off = (tgt : Int)) (ha : a < 2147483648) (kf : Γ (pc + 3) L st cs n w) : Γ pc L (aZ a :: st) cs n w := qa_if_lt hΓ hd ht (fun h => absurd h (nI_pos ha)) (fun _ => kf)
theorem qz_if_ge (hΓ : Ok Γ l y cc mL d mc ms) {a : Nat} {off : Int} {tgt : Nat} (hd : decode cc pc = .ok (.ifCond .ge off, 3)) (ht : (pc : Int) + off = (tgt : Int)) (ha : a < 2147483648) (kt : Γ tgt L st cs n w) : Γ pc L (aZ a :: st) cs n w := qa_if_ge hΓ hd ht (fun _ => kt) (fun h => absurd (nI_pos' ha) h)
theorem qz_if_le (hΓ : Ok Γ l y cc mL d mc ms) {a : Nat} {off : Int} {tgt : Nat} (hd : decode cc pc = .ok (.ifCond .le off, 3)) (ht : (pc : Int) + off = (tgt : Int)) (ha : a < 2147483648) (kt : a = 0 → Γ tgt L st cs n w) (kf : 0 < a → Γ (pc + 3) L st cs n w) : Γ pc L (aZ a :: st) cs n w := qa_if_le hΓ hd ht (fun h => kt (by rcases Nat.eq_zero_or_pos a with q | q; exact q; exact absurd h (nI_nle q ha))) (fun h => kf (by rcases Nat.eq_zero_or_pos a with q | q; subst q; exact absurd (Int32.le_refl _) h; exact q))
theorem qz_iald (hΓ : Ok Γ l y cc mL d mc ms) {k0 N j : Nat} {f : Nat → Nat} (hd : decode cc pc = .ok (.iaload, 1)) (hk : k0 < n) (hw : w k0 = zA N f) (hj : j < N) (hN : N < 2147483648) (kk : Γ (pc + 1) L (aZ (f j) :: st) cs n w) : Γ pc L (aZ j :: aR k0 :: st) cs n w := qa_iald hΓ hd hk hw (vp_in_nI hj hN) (by rw [nI_clamp (by omega)]; exact kk)
theorem qz_iast (hΓ : Ok Γ l y cc mL d mc ms) {k0 N j x : Nat} {f : Nat → Nat} (hd : decode cc pc = .ok (.iastore, 1)) (hk : k0 < n) (hw : w k0 = zA N f) (hj : j < N) (hN : N < 2147483648) (kk : Γ (pc + 1) L st cs n (upw w k0 (zA N (upN f j x)))) : Γ pc L (aZ x :: aZ j :: aR k0 :: st) cs n w := qa_iast hΓ hd hk hw (vp_in_nI hj hN) (by rw [nI_clamp (by omega), upd_nI]; exact kk)
theorem qr_i {Q : Option AV → (Nat → AC) → Prop} (hR : Rt Γ cc (some .int) 0 0 (Nz n Q)) (hd : decode cc pc = .ok (.ireturn, 1)) {x : Int32} (hq : Q (some (aI x)) w) : Γ pc L [aI x] (0, 0) n w := hR.1 pc L x (0, 0) n w hd ⟨.int, rfl, rfl⟩ (Nat.le_refl _) (Nat.le_refl _) ⟨rfl, hq⟩
theorem qr_b {Q : Option AV → (Nat → AC) → Prop} (hR : Rt Γ cc (some .boolean) 0 0 (Nz n Q)) (hd : decode cc pc = .ok (.ireturn, 1)) {p : Bool} (hq : Q (some (aZ p.toNat)) w) : Γ pc L [aZ p.toNat] (0, 0) n w := hR.1 pc L _ (0, 0) n w hd ⟨.boolean, rfl, nar_b p⟩ (Nat.le_refl _) (Nat.le_refl _) ⟨rfl, hq⟩
theorem qr_v {Q : Option AV → (Nat → AC) → Prop} (hR : Rt Γ cc none 0 0 (Nz n Q)) (hd : decode cc pc = .ok (.return_, 1)) (hq : Q none w) : Γ pc L [] (0, 0) n w := hR.2.1 pc L (0, 0) n w hd rfl (Nat.le_refl _) (Nat.le_refl _) ⟨rfl, hq⟩
theorem qr_a {C : String} {Q : Option AV → (Nat → AC) → Prop} (hR : Rt Γ cc (some (.object C)) 0 0 (Nz n Q)) (hd : decode cc pc = .ok (.areturn, 1)) {v : Option Nat} (hq : Q (some (some (.inr v))) w) : Γ pc L [some (.inr v)] (0, 0) n w := hR.2.2 pc L v (0, 0) n w hd ⟨C, rfl⟩ (Nat.le_refl _) (Nat.le_refl _) ⟨rfl, hq⟩
variable {idx mz np d' k0 : Nat} {z : MethodName} {cz : ByteArray} {rz : Option FieldType} {as st0 : List AV} {Q : Option AV → (Nat → AC) → Prop} {r : Option AV} {v : AV} {w' : Nat → AC}
theorem qc_V (hΓ : Ok Γ l y cc mL d 0 0) (hd : decode cc pc = .ok (.invokevirtual idx, 3)) (hlk : Cond.methodLink y.cls idx z ∈ wsL_law) (hz : VW z cz mz rz np) (hdd : d' + 1 ≤ d) (hS : Sq l z cz mz rz d' (aR k0 :: as) n w Q) (hnp : as.length = np) {ci : Nat} {fs : List AV} {T : u_T} {N : Nat} (hk : k0 < n) (hw : w k0 = cObj ci fs) (hc : vwCl[ci]? = some (z.cls, T, N)) (hst : st0 = as.reverse ++ aR k0 :: st) (hl8 : st.length ≤ 8) (kk : ∀ r w', Q r w' → Γ (pc + 3) L (r.toList ++ st) (0, 0) n w') : Γ pc L st0 (0, 0) n w := qa_callV hΓ hd hlk hz hS hdd hnp hk hw hc hst hl8 ⟨Nat.le_refl _, Nat.le_refl _⟩ (fun _ _ _ h => h.1) (fun r w' h => kk r w' h.2)
theorem qc_V1 (hΓ : Ok Γ l y cc mL d 0 0) (hd : decode cc pc = .ok (.invokevirtual idx, 3)) (hlk : Cond.methodLink y.cls idx z ∈ wsL_law) (hz : VW z cz mz rz np) (hdd : d' + 1 ≤ d) (hS : Sq l z cz mz rz d' (aR k0 :: as) n w (Rs (some v) w')) (hnp : as.length = np) {ci : Nat} {fs : List AV} {T : u_T} {N : Nat} (hk : k0 < n) (hw : w k0 = cObj ci fs) (hc : vwCl[ci]? = some (z.cls, T, N)) (hst : st0 = as.reverse ++ aR k0 :: st) (hl8 : st.length ≤ 8) (kk : Γ (pc + 3) L (v :: st) (0, 0) n w') : Γ pc L st0 (0, 0) n w := qc_V hΓ hd hlk hz hdd hS hnp hk hw hc hst hl8 (fun r u h => by obtain ⟨rfl, rfl⟩ := h; exact kk)
theorem qc_V0 (hΓ : Ok Γ l y cc mL d 0 0) (hd : decode cc pc = .ok (.invokevirtual idx, 3)) (hlk : Cond.methodLink y.cls idx z ∈ wsL_law) (hz : VW z cz mz rz np) (hdd : d' + 1 ≤ d) (hS : Sq l z cz mz rz d' (aR k0 :: as) n w (Rs none w')) (hnp : as.length = np) {ci : Nat} {fs : List AV} {T : u_T} {N : Nat} (hk : k0 < n) (hw : w k0 = cObj ci fs) (hc : vwCl[ci]? = some (z.cls, T, N)) (hst : st0 = as.reverse ++ aR k0 :: st) (hl8 : st.length ≤ 8) (kk : Γ (pc + 3) L st (0, 0) n w') : Γ pc L st0 (0, 0) n w := qc_V hΓ hd hlk hz hdd hS hnp hk hw hc hst hl8 (fun r u h => by obtain ⟨rfl, rfl⟩ := h; exact kk)
theorem qc_S (hΓ : Ok Γ l y cc mL d 0 0) (hd : decode cc pc = .ok (.invokestatic idx, 3)) (hlk : Cond.methodLink y.cls idx z ∈ wsL_law) (hz : SW z cz mz rz np) (hdd : d' + 1 ≤ d) (hS : Sq l z cz mz rz d' as n w Q) (hnp : as.length = np) (hst : st0 = as.reverse ++ st) (hl8 : st.length ≤ 8) (kk : ∀ r w', Q r w' → Γ (pc + 3) L (r.toList ++ st) (0, 0) n w') : Γ pc L st0 (0, 0) n w := qa_callS hΓ hd hlk hz hS hdd hnp hst hl8 ⟨Nat.le_refl _, Nat.le_refl _⟩ (fun _ _ _ h => h.1) (fun r w' h => kk r w' h.2)
theorem qc_S1 (hΓ : Ok Γ l y cc mL d 0 0) (hd : decode cc pc = .ok (.invokestatic idx, 3)) (hlk : Cond.methodLink y.cls idx z ∈ wsL_law) (hz : SW z cz mz rz np) (hdd : d' + 1 ≤ d) (hS : Sq l z cz mz rz d' as n w (Rs (some v) w')) (hnp : as.length = np) (hst : st0 = as.reverse ++ st) (hl8 : st.length ≤ 8) (kk : Γ (pc + 3) L (v :: st) (0, 0) n w') : Γ pc L st0 (0, 0) n w := qc_S hΓ hd hlk hz hdd hS hnp hst hl8 (fun r u h => by obtain ⟨rfl, rfl⟩ := h; exact kk)
theorem qc_S0 (hΓ : Ok Γ l y cc mL d 0 0) (hd : decode cc pc = .ok (.invokestatic idx, 3)) (hlk : Cond.methodLink y.cls idx z ∈ wsL_law) (hz : SW z cz mz rz np) (hdd : d' + 1 ≤ d) (hS : Sq l z cz mz rz d' as n w (Rs none w')) (hnp : as.length = np) (hst : st0 = as.reverse ++ st) (hl8 : st.length ≤ 8) (kk : Γ (pc + 3) L st (0, 0) n w') : Γ pc L st0 (0, 0) n w := qc_S hΓ hd hlk hz hdd hS hnp hst hl8 (fun r u h => by obtain ⟨rfl, rfl⟩ := h; exact kk)
theorem qc_N (hΓ : Ok Γ l y cc mL d 0 0) (hd : decode cc pc = .ok (.invokestatic idx, 3)) (hlk : (y.cls, idx, z) ∈ nestG) (hz : SW z cz mz rz np) (hdd : d' + 1 ≤ d) (hS : Sq l z cz mz rz d' as n w Q) (hnp : as.length = np) (hst : st0 = as.reverse ++ st) (hl8 : st.length ≤ 8) (kk : ∀ r w', Q r w' → Γ (pc + 3) L (r.toList ++ st) (0, 0) n w') : Γ pc L st0 (0, 0) n w := qa_callN hΓ hd hlk hz hS hdd hnp hst hl8 ⟨Nat.le_refl _, Nat.le_refl _⟩ (fun _ _ _ h => h.1) (fun r w' h => kk r w' h.2)
theorem qc_N1 (hΓ : Ok Γ l y cc mL d 0 0) (hd : decode cc pc = .ok (.invokestatic idx, 3)) (hlk : (y.cls, idx, z) ∈ nestG) (hz : SW z cz mz rz np) (hdd : d' + 1 ≤ d) (hS : Sq l z cz mz rz d' as n w (Rs (some v) w')) (hnp : as.length = np) (hst : st0 = as.reverse ++ st) (hl8 : st.length ≤ 8) (kk : Γ (pc + 3) L (v :: st) (0, 0) n w') : Γ pc L st0 (0, 0) n w := qc_N hΓ hd hlk hz hdd hS hnp hst hl8 (fun r u h => by obtain ⟨rfl, rfl⟩ := h; exact kk)
theorem qc_N0 (hΓ : Ok Γ l y cc mL d 0 0) (hd : decode cc pc = .ok (.invokestatic idx, 3)) (hlk : (y.cls, idx, z) ∈ nestG) (hz : SW z cz mz rz np) (hdd : d' + 1 ≤ d) (hS : Sq l z cz mz rz d' as n w (Rs none w')) (hnp : as.length = np) (hst : st0 = as.reverse ++ st) (hl8 : st.length ≤ 8) (kk : Γ (pc + 3) L st (0, 0) n w') : Γ pc L st0 (0, 0) n w := qc_N hΓ hd hlk hz hdd hS hnp hst hl8 (fun r u h => by obtain ⟨rfl, rfl⟩ := h; exact kk)
end
end
section
/-! The worlds' parts: a bank at k (its object and six rows), the model, and the rest -/
abbrev Bk : Type := Nat → Nat → Nat
def bset (b : Bk) (i j x : Nat) : Bk := fun i' => if i' = i then upN (b i) j x else b i'
theorem bset_ne (b : Bk) {i i' : Nat} (j x : Nat) (h : i' ≠ i) : bset b i j x i' = b i' := by simp [bset, h]
theorem bset_eq (b : Bk) (i j x : Nat) : bset b i j x i = upN (b i) j x := by simp [bset]
abbrev bkObj (k : Nat) (b : Bk) : AC := cObj 0 [aR (k + 1), aR (k + 2), aR (k + 3), aR (k + 4), aR (k + 5), aR (k + 6), aZ (b 6 0), aZ (b 6 1), aZ (b 6 2), aZ (b 6 3), aZ (b 6 4), aZ (b 6 5), aZ (b 6 6), aZ (b 6 7), aZ (b 6 8)]
def bkL (i : Nat) : Nat := if i < 4 then 8 else if i = 4 then 48 else 16
def BkAt (n : Nat) (w : Nat → AC) (k : Nat) (b : Bk) : Prop := k + 7 ≤ n ∧ w k = bkObj k b ∧ ∀ i, i < 6 → w (k + 1 + i) = zA (bkL i) (b i)
section
variable {n k : Nat} {w w' : Nat → AC} {b : Bk}
theorem BkAt.lt (h : BkAt n w k b) : k < n := by have := h.1; omega
theorem BkAt.o (h : BkAt n w k b) : w k = bkObj k b := h.2.1
theorem BkAt.lti (h : BkAt n w k b) {i : Nat} (hi : i < 7) : k + i < n := by have := h.1; omega
theorem BkAt.a0 (h : BkAt n w k b) : w (k + 1) = zA 8 (b 0) := h.2.2 0 (by decide)
theorem BkAt.a1 (h : BkAt n w k b) : w (k + 2) = zA 8 (b 1) := h.2.2 1 (by decide)
theorem BkAt.a2 (h : BkAt n w k b) : w (k + 3) = zA 8 (b 2) := h.2.2 2 (by decide)
theorem BkAt.a3 (h : BkAt n w k b) : w (k + 4) = zA 8 (b 3) := h.2.2 3 (by decide)
theorem BkAt.a4 (h : BkAt n w k b) : w (k + 5) = zA 48 (b 4) := h.2.2 4 (by decide)
theorem BkAt.a5 (h : BkAt n w k b) : w (k + 6) = zA 16 (b 5) := h.2.2 5 (by decide)
theorem BkAt.ofFr (h : BkAt n w k b) {j m : Nat} (hF : Fr j m w w') (hd : k + 7 ≤ j ∨ j + m ≤ k) : BkAt n w' k b := by
  refine ⟨h.1, (hF k (by omega)).trans h.2.1, fun i hi => (hF (k + 1 + i) (by omega)).trans (h.2.2 i hi)⟩
theorem BkAt.setA (h : BkAt n w k b) (i j x : Nat) (hi : i < 6) : BkAt n (upw w (k + 1 + i) (zA (bkL i) (upN (b i) j x))) k (bset b i j x) ∧ Fr k 7 w (upw w (k + 1 + i) (zA (bkL i) (upN (b i) j x))) := by
  refine ⟨⟨h.1, ?_, fun i' hi' => ?_⟩, Fr.up (by omega) (by omega)⟩
  · rw [upw_ne _ _ _ (by omega), h.2.1]
    have e : bset b i j x 6 = b 6 := bset_ne _ _ _ (by omega)
    unfold bkObj
    rw [e]
  · by_cases e : i' = i
    · subst e
      rw [upw_self, bset_eq]
    · rw [upw_ne _ _ _ (by omega), h.2.2 i' hi', bset_ne _ _ _ e]
theorem BkAt.setO (h : BkAt n w k b) (b' : Bk) (hb : ∀ i, i < 6 → b' i = b i) : BkAt n (upw w k (bkObj k b')) k b' ∧ Fr k 7 w (upw w k (bkObj k b')) := by
  refine ⟨⟨h.1, upw_self _ _ _, fun i hi => ?_⟩, Fr.up (by omega) (by omega)⟩
  rw [upw_ne _ _ _ (by omega), h.2.2 i hi, hb i hi]
theorem bset6 (b : Bk) (j x : Nat) : ∀ i, i < 6 → bset b 6 j x i = b i := fun i hi => bset_ne _ _ _ (by omega)
end
/-- writing a number of a bank -/
theorem bk_set (k : Nat) (b : Bk) (i x : Nat) (hi : i < 9) : cObj 0 (([aR (k + 1), aR (k + 2), aR (k + 3), aR (k + 4), aR (k + 5), aR (k + 6), aZ (b 6 0), aZ (b 6 1), aZ (b 6 2), aZ (b 6 3), aZ (b 6 4), aZ (b 6 5), aZ (b 6 6), aZ (b 6 7), aZ (b 6 8)] : List AV).set (i + 6) (aZ x)) = bkObj k (bset b 6 i x) := by
  unfold bkObj
  rw [bset_eq]
  rcases (show i = 0 ∨ i = 1 ∨ i = 2 ∨ i = 3 ∨ i = 4 ∨ i = 5 ∨ i = 6 ∨ i = 7 ∨ i = 8 by omega) with rfl | rfl | rfl | rfl | rfl | rfl | rfl | rfl | rfl <;> rfl
theorem qB_put {Γ : Gm} {l : Launch} {y : MethodName} {cc : ByteArray} {mL d mc ms pc n k idx x : Nat} {L st : List AV} {cs : Nat × Nat} {w : Nat → AC} {b : Bk} (hΓ : Ok Γ l y cc mL d mc ms) (i : Nat) (hd : decode cc pc = .ok (.putfield idx, 3)) (hf : FLK y.cls idx 0 (i + 6) false .int) (hi : i < 9) (hB : BkAt n w k b) (kk : ∀ w', BkAt n w' k (bset b 6 i x) → Fr k 7 w w' → Γ (pc + 3) L st cs n w') : Γ pc L (aZ x :: aR k :: st) cs n w := by
  refine qa_puti hΓ hd hf hB.lt hB.o (by simp; omega) ?_
  rw [bk_set k b i x hi]
  obtain ⟨h1, h2⟩ := hB.setO (bset b 6 i x) (bset6 b i x)
  exact kk _ h1 h2
/-- the model at k: s, past, kept, held, text; pasts, typed, changes, at -/
def byI (c : Nat) : Int32 := (nI c).toInt8.toInt32
abbrev mdObj (k : Nat) (M : Bk) : AC := cObj 5 [aR (k + 1), aR (k + 2), aZ (M 5 0), aR (k + 3), aR (k + 4), aR (k + 5), aZ (M 5 1), aZ (M 5 2), aZ (M 5 3)]
def mdL (i : Nat) : Nat := if i = 1 then 1218 else 203
def MdAt (n : Nat) (w : Nat → AC) (k : Nat) (M : Bk) : Prop := k + 6 ≤ n ∧ w k = mdObj k M ∧ w (k + 1) = zA 203 (M 0) ∧ w (k + 2) = zA 1218 (M 1) ∧ w (k + 3) = zA 203 (M 2) ∧ w (k + 4) = zA 203 (M 3) ∧ w (k + 5) = cArr 1 60 (fun j => byI (M 4 j)) ∧ ∀ i, i < 4 → ∀ j, mdL i ≤ j → M i j = 0
section
variable {n k : Nat} {w w' : Nat → AC} {M : Bk}
theorem MdAt.lt (h : MdAt n w k M) : k < n := by have := h.1; omega
theorem MdAt.o (h : MdAt n w k M) : w k = mdObj k M := h.2.1
theorem MdAt.lti (h : MdAt n w k M) {i : Nat} (hi : i < 6) : k + i < n := by have := h.1; omega
theorem MdAt.a0 (h : MdAt n w k M) : w (k + 1) = zA 203 (M 0) := h.2.2.1
theorem MdAt.a1 (h : MdAt n w k M) : w (k + 2) = zA 1218 (M 1) := h.2.2.2.1
theorem MdAt.a2 (h : MdAt n w k M) : w (k + 3) = zA 203 (M 2) := h.2.2.2.2.1
theorem MdAt.a3 (h : MdAt n w k M) : w (k + 4) = zA 203 (M 3) := h.2.2.2.2.2.1
theorem MdAt.a4 (h : MdAt n w k M) : w (k + 5) = cArr 1 60 (fun j => byI (M 4 j)) := h.2.2.2.2.2.2.1
theorem MdAt.nf (h : MdAt n w k M) {i : Nat} (hi : i < 4) {j : Nat} (hj : mdL i ≤ j) : M i j = 0 := h.2.2.2.2.2.2.2 i hi j hj
theorem MdAt.ofFr (h : MdAt n w k M) {j m : Nat} (hF : Fr j m w w') (hd : k + 6 ≤ j ∨ j + m ≤ k) : MdAt n w' k M :=
  ⟨h.1, (hF k (by omega)).trans h.o, (hF _ (by omega)).trans h.a0, (hF _ (by omega)).trans h.a1, (hF _ (by omega)).trans h.a2, (hF _ (by omega)).trans h.a3, (hF _ (by omega)).trans h.a4, fun i hi j hj => h.nf hi hj⟩
/-- one row of the model is written -/
theorem MdAt.setA (h : MdAt n w k M) (i j x : Nat) (hi : i < 4) {N : Nat} (hN : N = mdL i) (hj : j < N) : MdAt n (upw w (k + 1 + i) (zA N (upN (M i) j x))) k (bset M i j x) ∧ Fr k 6 w (upw w (k + 1 + i) (zA N (upN (M i) j x))) := by
  subst hN
  refine ⟨⟨h.1, ?_, ?_, ?_, ?_, ?_, ?_, fun i' hi' j' hj' => ?_⟩, Fr.up (by omega) (by omega)⟩
  · rw [upw_ne _ _ _ (by omega), h.o]
    unfold mdObj
    rw [bset_ne _ _ _ (show (5 : Nat) ≠ i by omega)]
  · rcases (show i = 0 ∨ i ≠ 0 by omega) with rfl | e
    · rw [upw_self, bset_eq]; rfl
    · rw [upw_ne _ _ _ (by omega), h.a0, bset_ne _ _ _ (by omega)]
  · rcases (show i = 1 ∨ i ≠ 1 by omega) with rfl | e
    · rw [upw_self, bset_eq]; rfl
    · rw [upw_ne _ _ _ (by omega), h.a1, bset_ne _ _ _ (by omega)]
  · rcases (show i = 2 ∨ i ≠ 2 by omega) with rfl | e
    · rw [upw_self, bset_eq]; rfl
    · rw [upw_ne _ _ _ (by omega), h.a2, bset_ne _ _ _ (by omega)]
  · rcases (show i = 3 ∨ i ≠ 3 by omega) with rfl | e
    · rw [upw_self, bset_eq]; rfl
    · rw [upw_ne _ _ _ (by omega), h.a3, bset_ne _ _ _ (by omega)]
  · rw [upw_ne _ _ _ (by omega), h.a4, bset_ne _ _ _ (by omega)]
  · by_cases e : i' = i
    · subst e
      rw [bset_eq, upN_ne _ _ _ (by omega)]
      exact h.nf hi' hj'
    · rw [bset_ne _ _ _ e]
      exact h.nf hi' hj'
theorem MdAt.setO (h : MdAt n w k M) (M' : Bk) (hb : ∀ i, i < 5 → M' i = M i) : MdAt n (upw w k (mdObj k M')) k M' ∧ Fr k 6 w (upw w k (mdObj k M')) := by
  refine ⟨⟨h.1, upw_self _ _ _, ?_, ?_, ?_, ?_, ?_, fun i hi j hj => by rw [hb i (by omega)]; exact h.nf hi hj⟩, Fr.up (by omega) (by omega)⟩
  · rw [upw_ne _ _ _ (by omega), h.a0, hb 0 (by decide)]
  · rw [upw_ne _ _ _ (by omega), h.a1, hb 1 (by decide)]
  · rw [upw_ne _ _ _ (by omega), h.a2, hb 2 (by decide)]
  · rw [upw_ne _ _ _ (by omega), h.a3, hb 3 (by decide)]
  · rw [upw_ne _ _ _ (by omega), h.a4, hb 4 (by decide)]
theorem bset5 (b : Bk) (j x : Nat) : ∀ i, i < 5 → bset b 5 j x i = b i := fun i hi => bset_ne _ _ _ (by omega)
end
def mdF (i : Nat) : Nat := if i = 0 then 2 else i + 5
theorem md_set (k : Nat) (M : Bk) (i x : Nat) (hi : i < 4) : cObj 5 (([aR (k + 1), aR (k + 2), aZ (M 5 0), aR (k + 3), aR (k + 4), aR (k + 5), aZ (M 5 1), aZ (M 5 2), aZ (M 5 3)] : List AV).set (mdF i) (aZ x)) = mdObj k (bset M 5 i x) := by
  unfold mdObj
  rw [bset_eq]
  rcases (show i = 0 ∨ i = 1 ∨ i = 2 ∨ i = 3 by omega) with rfl | rfl | rfl | rfl <;> rfl
theorem qM_put {Γ : Gm} {l : Launch} {y : MethodName} {cc : ByteArray} {mL d mc ms pc n k idx x : Nat} {L st : List AV} {cs : Nat × Nat} {w : Nat → AC} {M : Bk} (hΓ : Ok Γ l y cc mL d mc ms) (i : Nat) (hd : decode cc pc = .ok (.putfield idx, 3)) (hf : FLK y.cls idx 5 (mdF i) false .int) (hi : i < 4) (hM : MdAt n w k M) (kk : ∀ w', MdAt n w' k (bset M 5 i x) → Fr k 6 w w' → Γ (pc + 3) L st cs n w') : Γ pc L (aZ x :: aR k :: st) cs n w := by
  refine qa_puti hΓ hd hf hM.lt hM.o (by unfold mdF; simp; split <;> omega) ?_
  rw [md_set k M i x hi]
  obtain ⟨h1, h2⟩ := hM.setO (bset M 5 i x) (bset5 M i x)
  exact kk _ h1 h2
theorem qM_ast {Γ : Gm} {l : Launch} {y : MethodName} {cc : ByteArray} {mL d mc ms pc n k j x N k0 : Nat} {L st : List AV} {cs : Nat × Nat} {w : Nat → AC} {M : Bk} (hΓ : Ok Γ l y cc mL d mc ms) (i : Nat) (hi : i < 4) (hk0 : k0 = k + 1 + i) (hN : N = mdL i) (hd : decode cc pc = .ok (.iastore, 1)) (hM : MdAt n w k M) (hj : j < N) (kk : ∀ w', MdAt n w' k (bset M i j x) → Fr k 6 w w' → Γ (pc + 1) L st cs n w') : Γ pc L (aZ x :: aZ j :: aR k0 :: st) cs n w := by
  subst hk0
  have hw : w (k + 1 + i) = zA N (M i) := by
    subst hN
    rcases (show i = 0 ∨ i = 1 ∨ i = 2 ∨ i = 3 by omega) with rfl | rfl | rfl | rfl
    · exact hM.a0
    · exact hM.a1
    · exact hM.a2
    · exact hM.a3
  have hNb : N < 2147483648 := by rw [hN]; unfold mdL; split <;> omega
  refine qz_iast hΓ hd (by have := hM.1; omega) hw hj hNb ?_
  obtain ⟨h1, h2⟩ := hM.setA i j x hi hN hj
  exact kk _ h1 h2
def rset (M : Bk) (a : Nat) (f : Nat → Nat) : Bk := fun a' => if a' = a then f else M a'
theorem rset_eq (M : Bk) (a : Nat) (f : Nat → Nat) : rset M a f a = f := by simp [rset]
theorem rset_ne (M : Bk) {a a' : Nat} (f : Nat → Nat) (h : a' ≠ a) : rset M a f a' = M a' := by simp [rset, h]
/-- the model's numbers are read row by row: equal rows, equal model -/
theorem MdAt.of_rows {n k : Nat} {w : Nat → AC} {M M' : Bk} (h : MdAt n w k M) (e : ∀ a, a < 6 → M' a = M a) : MdAt n w k M' := by
  obtain ⟨h0, h1, h2, h3, h4, h5, h6, h7⟩ := h
  refine ⟨h0, ?_, ?_, ?_, ?_, ?_, ?_, fun i hi j hj => ?_⟩
  · rw [h1]; unfold mdObj; rw [e 5 (by decide)]
  · rw [h2, e 0 (by decide)]
  · rw [h3, e 1 (by decide)]
  · rw [h4, e 2 (by decide)]
  · rw [h5, e 3 (by decide)]
  · rw [h6, e 4 (by decide)]
  · rw [e i (by omega)]; exact h7 i hi j hj
end
section
/-- contracts that leave a world: an answer, and what holds of the world -/
def Qn (P : (Nat → AC) → Prop) : Option AV → (Nat → AC) → Prop := fun r w' => r = none ∧ P w'
def Qv (v : AV) (P : (Nat → AC) → Prop) : Option AV → (Nat → AC) → Prop := fun r w' => r = some v ∧ P w'
def PM (n k : Nat) (M : Bk) (w : Nat → AC) : (Nat → AC) → Prop := fun w' => MdAt n w' k M ∧ Fr k 6 w w'
def PB (n k : Nat) (b : Bk) (w : Nat → AC) : (Nat → AC) → Prop := fun w' => BkAt n w' k b ∧ Fr k 7 w w'
section
variable {Γ : Gm} {l : Launch} {y : MethodName} {cc : ByteArray} {mL d : Nat} {pc n : Nat} {L st : List AV} {w : Nat → AC}
variable {idx mz np d' k0 : Nat} {z : MethodName} {cz : ByteArray} {rz : Option FieldType} {as st0 : List AV} {Pw : (Nat → AC) → Prop} {v : AV}
theorem qc_V1q (hΓ : Ok Γ l y cc mL d 0 0) (hd : decode cc pc = .ok (.invokevirtual idx, 3)) (hlk : Cond.methodLink y.cls idx z ∈ wsL_law) (hz : VW z cz mz rz np) (hdd : d' + 1 ≤ d) (hS : Sq l z cz mz rz d' (aR k0 :: as) n w (Qv v Pw)) (hnp : as.length = np) {ci : Nat} {fs : List AV} {T : u_T} {N : Nat} (hk : k0 < n) (hw : w k0 = cObj ci fs) (hc : vwCl[ci]? = some (z.cls, T, N)) (hst : st0 = as.reverse ++ aR k0 :: st) (hl8 : st.length ≤ 8) (kk : ∀ w', Pw w' → Γ (pc + 3) L (v :: st) (0, 0) n w') : Γ pc L st0 (0, 0) n w := qc_V hΓ hd hlk hz hdd hS hnp hk hw hc hst hl8 (fun r u h => by obtain ⟨rfl, h⟩ := h; exact kk u h)
theorem qc_V0q (hΓ : Ok Γ l y cc mL d 0 0) (hd : decode cc pc = .ok (.invokevirtual idx, 3)) (hlk : Cond.methodLink y.cls idx z ∈ wsL_law) (hz : VW z cz mz rz np) (hdd : d' + 1 ≤ d) (hS : Sq l z cz mz rz d' (aR k0 :: as) n w (Qn Pw)) (hnp : as.length = np) {ci : Nat} {fs : List AV} {T : u_T} {N : Nat} (hk : k0 < n) (hw : w k0 = cObj ci fs) (hc : vwCl[ci]? = some (z.cls, T, N)) (hst : st0 = as.reverse ++ aR k0 :: st) (hl8 : st.length ≤ 8) (kk : ∀ w', Pw w' → Γ (pc + 3) L st (0, 0) n w') : Γ pc L st0 (0, 0) n w := qc_V hΓ hd hlk hz hdd hS hnp hk hw hc hst hl8 (fun r u h => by obtain ⟨rfl, h⟩ := h; exact kk u h)
theorem qc_S1q (hΓ : Ok Γ l y cc mL d 0 0) (hd : decode cc pc = .ok (.invokestatic idx, 3)) (hlk : Cond.methodLink y.cls idx z ∈ wsL_law) (hz : SW z cz mz rz np) (hdd : d' + 1 ≤ d) (hS : Sq l z cz mz rz d' as n w (Qv v Pw)) (hnp : as.length = np) (hst : st0 = as.reverse ++ st) (hl8 : st.length ≤ 8) (kk : ∀ w', Pw w' → Γ (pc + 3) L (v :: st) (0, 0) n w') : Γ pc L st0 (0, 0) n w := qc_S hΓ hd hlk hz hdd hS hnp hst hl8 (fun r u h => by obtain ⟨rfl, h⟩ := h; exact kk u h)
theorem qc_S0q (hΓ : Ok Γ l y cc mL d 0 0) (hd : decode cc pc = .ok (.invokestatic idx, 3)) (hlk : Cond.methodLink y.cls idx z ∈ wsL_law) (hz : SW z cz mz rz np) (hdd : d' + 1 ≤ d) (hS : Sq l z cz mz rz d' as n w (Qn Pw)) (hnp : as.length = np) (hst : st0 = as.reverse ++ st) (hl8 : st.length ≤ 8) (kk : ∀ w', Pw w' → Γ (pc + 3) L st (0, 0) n w') : Γ pc L st0 (0, 0) n w := qc_S hΓ hd hlk hz hdd hS hnp hst hl8 (fun r u h => by obtain ⟨rfl, h⟩ := h; exact kk u h)
theorem qc_N1q (hΓ : Ok Γ l y cc mL d 0 0) (hd : decode cc pc = .ok (.invokestatic idx, 3)) (hlk : (y.cls, idx, z) ∈ nestG) (hz : SW z cz mz rz np) (hdd : d' + 1 ≤ d) (hS : Sq l z cz mz rz d' as n w (Qv v Pw)) (hnp : as.length = np) (hst : st0 = as.reverse ++ st) (hl8 : st.length ≤ 8) (kk : ∀ w', Pw w' → Γ (pc + 3) L (v :: st) (0, 0) n w') : Γ pc L st0 (0, 0) n w := qc_N hΓ hd hlk hz hdd hS hnp hst hl8 (fun r u h => by obtain ⟨rfl, h⟩ := h; exact kk u h)
theorem qc_N0q (hΓ : Ok Γ l y cc mL d 0 0) (hd : decode cc pc = .ok (.invokestatic idx, 3)) (hlk : (y.cls, idx, z) ∈ nestG) (hz : SW z cz mz rz np) (hdd : d' + 1 ≤ d) (hS : Sq l z cz mz rz d' as n w (Qn Pw)) (hnp : as.length = np) (hst : st0 = as.reverse ++ st) (hl8 : st.length ≤ 8) (kk : ∀ w', Pw w' → Γ (pc + 3) L st (0, 0) n w') : Γ pc L st0 (0, 0) n w := qc_N hΓ hd hlk hz hdd hS hnp hst hl8 (fun r u h => by obtain ⟨rfl, h⟩ := h; exact kk u h)
end
end
section
/-! Leaves: the static methods of RelayBank, Branch, Bank; Math.floorMod; the model's in, of, puts -/
theorem bt1 (a j : Nat) : (a >>> j) &&& 1 = (a.testBit j).toNat := by
  rw [Nat.toNat_testBit, Nat.and_one_is_mod, Nat.shiftRight_eq_div_pow]
set_option maxRecDepth 100000 in
set_option maxHeartbeats 4000000 in
theorem c_X5_isWithin (l : Launch) (d : Nat) {n : Nat} {w : Nat → AC} (v a b : Int32) : Sq l yX5_isWithin cX5_isWithin 3 (some .boolean) d [aI v, aI a, aI b] n w (Rs (some (aZ (decide (a ≤ v ∧ v ≤ b)).toNat)) w) := by
  refine Sp.of (plainFor_of_name (by decide)) (Nat.le_of_ble_eq_true rfl) (fun Γ hΓ hR => ?_)
  show Γ 0 [aI v, aI a, aI b] [] (0, 0) n w
  refine qa_iload_n hΓ dX5_isWithin_0 rfl ?_
  refine qa_iload_n hΓ dX5_isWithin_1 rfl ?_
  refine qa_icmp_gt (tgt := 14) hΓ dX5_isWithin_2 (by decide) (fun h_2 => ?_) (fun h_2 => ?_)
  · refine qa_iconst (v := nI 0) hΓ dX5_isWithin_14 ic_0 ?_
    exact qr_b (p := false) hR dX5_isWithin_15 ⟨congrArg (fun p : Bool => some (aZ p.toNat)) ((decide_eq_false (fun q => by first | exact absurd h_2 (Int32.not_lt.mpr q.1) | exact absurd h_7 (Int32.not_lt.mpr q.2))).symm), rfl⟩
  · refine qa_iload_n hΓ dX5_isWithin_5 rfl ?_
    refine qa_iload_n hΓ dX5_isWithin_6 rfl ?_
    refine qa_icmp_gt (tgt := 14) hΓ dX5_isWithin_7 (by decide) (fun h_7 => ?_) (fun h_7 => ?_)
    · refine qa_iconst (v := nI 0) hΓ dX5_isWithin_14 ic_0 ?_
      exact qr_b (p := false) hR dX5_isWithin_15 ⟨congrArg (fun p : Bool => some (aZ p.toNat)) ((decide_eq_false (fun q => by first | exact absurd h_2 (Int32.not_lt.mpr q.1) | exact absurd h_7 (Int32.not_lt.mpr q.2))).symm), rfl⟩
    · refine qa_iconst (v := nI 1) hΓ dX5_isWithin_10 ic_1 ?_
      refine qa_goto (tgt := 15) hΓ dX5_isWithin_11 (by decide) ?_
      exact qr_b (p := true) hR dX5_isWithin_15 ⟨congrArg (fun p : Bool => some (aZ p.toNat)) ((decide_eq_true ⟨Int32.not_lt.mp h_2, Int32.not_lt.mp h_7⟩).symm), rfl⟩

set_option maxRecDepth 100000 in
set_option maxHeartbeats 4000000 in
theorem c_X6_in (l : Launch) (d : Nat) {n : Nat} {w : Nat → AC} (v a b : Int32) : Sq l yX6_in cX6_in 3 (some .boolean) d [aI v, aI a, aI b] n w (Rs (some (aZ (decide (a ≤ v ∧ v ≤ b)).toNat)) w) := by
  refine Sp.of (plainFor_of_name (by decide)) (Nat.le_of_ble_eq_true rfl) (fun Γ hΓ hR => ?_)
  show Γ 0 [aI v, aI a, aI b] [] (0, 0) n w
  refine qa_iload_n hΓ dX6_in_0 rfl ?_
  refine qa_iload_n hΓ dX6_in_1 rfl ?_
  refine qa_icmp_lt (tgt := 14) hΓ dX6_in_2 (by decide) (fun h_2 => ?_) (fun h_2 => ?_)
  · refine qa_iconst (v := nI 0) hΓ dX6_in_14 ic_0 ?_
    exact qr_b (p := false) hR dX6_in_15 ⟨congrArg (fun p : Bool => some (aZ p.toNat)) ((decide_eq_false (fun q => by first | exact absurd h_2 (Int32.not_lt.mpr q.1) | exact absurd h_7 (Int32.not_lt.mpr q.2))).symm), rfl⟩
  · refine qa_iload_n hΓ dX6_in_5 rfl ?_
    refine qa_iload_n hΓ dX6_in_6 rfl ?_
    refine qa_icmp_gt (tgt := 14) hΓ dX6_in_7 (by decide) (fun h_7 => ?_) (fun h_7 => ?_)
    · refine qa_iconst (v := nI 0) hΓ dX6_in_14 ic_0 ?_
      exact qr_b (p := false) hR dX6_in_15 ⟨congrArg (fun p : Bool => some (aZ p.toNat)) ((decide_eq_false (fun q => by first | exact absurd h_2 (Int32.not_lt.mpr q.1) | exact absurd h_7 (Int32.not_lt.mpr q.2))).symm), rfl⟩
    · refine qa_iconst (v := nI 1) hΓ dX6_in_10 ic_1 ?_
      refine qa_goto (tgt := 15) hΓ dX6_in_11 (by decide) ?_
      exact qr_b (p := true) hR dX6_in_15 ⟨congrArg (fun p : Bool => some (aZ p.toNat)) ((decide_eq_true ⟨Int32.not_lt.mp h_2, Int32.not_lt.mp h_7⟩).symm), rfl⟩

set_option maxRecDepth 100000 in
set_option maxHeartbeats 4000000 in
theorem c_X5_bitOf (l : Launch) (d : Nat) {n : Nat} {w : Nat → AC} (a j : Nat) (ha : a < 4294967296) (hj : j < 32) : Sq l yX5_bitOf cX5_bitOf 2 (some .int) d [aZ a, aZ j] n w (Rs (some (aZ (a.testBit j).toNat)) w) := by
  refine Sp.of (plainFor_of_name (by decide)) (Nat.le_of_ble_eq_true rfl) (fun Γ hΓ hR => ?_)
  show Γ 0 [aZ a, aZ j] [] (0, 0) n w
  refine qa_iload_n hΓ dX5_bitOf_0 rfl ?_
  refine qa_iload_n hΓ dX5_bitOf_1 rfl ?_
  refine qz_iushr hΓ dX5_bitOf_2 (by omega) (by omega) ?_
  refine qa_iconst (v := nI 1) hΓ dX5_bitOf_3 ic_1 ?_
  refine qz_iand hΓ dX5_bitOf_4 ?_
  exact qr_i hR dX5_bitOf_5 ⟨by rw [bt1], rfl⟩

set_option maxRecDepth 100000 in
set_option maxHeartbeats 4000000 in
theorem c_X5_isIn (l : Launch) (d : Nat) {n : Nat} {w : Nat → AC} (a j : Nat) (ha : a < 4294967296) (hj : j < 32) : Sq l yX5_isIn cX5_isIn 2 (some .boolean) d [aZ a, aZ j] n w (Rs (some (aZ (a.testBit j).toNat)) w) := by
  refine Sp.of (plainFor_of_name (by decide)) (Nat.le_of_ble_eq_true rfl) (fun Γ hΓ hR => ?_)
  show Γ 0 [aZ a, aZ j] [] (0, 0) n w
  refine qa_iload_n hΓ dX5_isIn_0 rfl ?_
  refine qa_iload_n hΓ dX5_isIn_1 rfl ?_
  refine qz_iushr hΓ dX5_isIn_2 (by omega) (by omega) ?_
  refine qa_iconst (v := nI 1) hΓ dX5_isIn_3 ic_1 ?_
  refine qz_iand hΓ dX5_isIn_4 ?_
  refine qa_iconst (v := nI 1) hΓ dX5_isIn_5 ic_1 ?_
  refine qz_icmp_ne (tgt := 13) hΓ dX5_isIn_6 (by decide) (Nat.lt_of_le_of_lt (Nat.and_le_right) (by decide)) (by decide) (fun h_6 => ?_) (fun h_6 => ?_)
  · refine qa_iconst (v := nI 0) hΓ dX5_isIn_13 ic_0 ?_
    exact qr_b (p := false) hR dX5_isIn_14 ⟨congrArg (fun p : Bool => some (aZ p.toNat)) (by cases q : a.testBit j <;> rw [bt1, q] at h_6 <;> first | rfl | exact absurd rfl h_6 | cases h_6), rfl⟩
  · refine qa_iconst (v := nI 1) hΓ dX5_isIn_9 ic_1 ?_
    refine qa_goto (tgt := 14) hΓ dX5_isIn_10 (by decide) ?_
    exact qr_b (p := true) hR dX5_isIn_14 ⟨congrArg (fun p : Bool => some (aZ p.toNat)) (by cases q : a.testBit j <;> rw [bt1, q] at h_6 <;> first | rfl | exact absurd rfl h_6 | cases h_6), rfl⟩

set_option maxRecDepth 100000 in
set_option maxHeartbeats 4000000 in
theorem c_X5_at (l : Launch) (d : Nat) {n : Nat} {w : Nat → AC} {k0 N : Nat} {f : Nat → Nat} (hk : k0 < n) (hw : w k0 = zA N f) (j : Nat) (hj : j < N) (hN : N < 2147483648) : Sq l yX5_at cX5_at 2 (some .int) d [aR k0, aZ j] n w (Rs (some (aZ (f j))) w) := by
  refine Sp.of (plainFor_of_name (by decide)) (Nat.le_of_ble_eq_true rfl) (fun Γ hΓ hR => ?_)
  show Γ 0 [aR k0, aZ j] [] (0, 0) n w
  refine qa_iconst (v := nI 0) hΓ dX5_at_0 ic_0 ?_
  refine qa_iload_n hΓ dX5_at_1 rfl ?_
  refine qz_icmp_gt (tgt := 17) hΓ dX5_at_2 (by decide) (by decide) (by omega) (fun h_2 => absurd h_2 (by omega)) (fun h_2 => ?_)
  refine qa_iload_n hΓ dX5_at_5 rfl ?_
  refine qa_aload_n hΓ dX5_at_6 rfl ?_
  refine qa_alen hΓ dX5_at_7 hk hw (by decide) rfl ?_
  refine qz_icmp_ge (tgt := 17) hΓ dX5_at_8 (by decide) (by omega) (by omega) (fun h_8 => absurd h_8 (by omega)) (fun h_8 => ?_)
  refine qa_aload_n hΓ dX5_at_11 rfl ?_
  refine qa_iload_n hΓ dX5_at_12 rfl ?_
  refine qz_iald hΓ dX5_at_13 hk hw hj hN ?_
  refine qa_goto (tgt := 18) hΓ dX5_at_14 (by decide) ?_
  exact qr_i hR dX5_at_18 ⟨rfl, rfl⟩

set_option maxRecDepth 100000 in
set_option maxHeartbeats 4000000 in
theorem c_X5_put (l : Launch) (d : Nat) {n : Nat} {w : Nat → AC} {k0 N : Nat} {f : Nat → Nat} (hk : k0 < n) (hw : w k0 = zA N f) (j x : Nat) (hj : j < N) (hN : N < 2147483648) : Sq l yX5_put cX5_put 3 none d [aR k0, aZ j, aZ x] n w (Rs none (upw w k0 (zA N (upN f j x)))) := by
  refine Sp.of (plainFor_of_name (by decide)) (Nat.le_of_ble_eq_true rfl) (fun Γ hΓ hR => ?_)
  show Γ 0 [aR k0, aZ j, aZ x] [] (0, 0) n w
  refine qa_iconst (v := nI 0) hΓ dX5_put_0 ic_0 ?_
  refine qa_iload_n hΓ dX5_put_1 rfl ?_
  refine qz_icmp_gt (tgt := 15) hΓ dX5_put_2 (by decide) (by decide) (by omega) (fun h_2 => absurd h_2 (by omega)) (fun h_2 => ?_)
  refine qa_iload_n hΓ dX5_put_5 rfl ?_
  refine qa_aload_n hΓ dX5_put_6 rfl ?_
  refine qa_alen hΓ dX5_put_7 hk hw (by decide) rfl ?_
  refine qz_icmp_ge (tgt := 15) hΓ dX5_put_8 (by decide) (by omega) (by omega) (fun h_8 => absurd h_8 (by omega)) (fun h_8 => ?_)
  refine qa_aload_n hΓ dX5_put_11 rfl ?_
  refine qa_iload_n hΓ dX5_put_12 rfl ?_
  refine qa_iload_n hΓ dX5_put_13 rfl ?_
  refine qz_iast hΓ dX5_put_14 hk hw hj hN ?_
  exact qr_v hR dX5_put_15 (⟨rfl, rfl⟩)

set_option maxRecDepth 100000 in
set_option maxHeartbeats 4000000 in
theorem c_X5_isKey (l : Launch) (d : Nat) (hd : 1 ≤ d) {n : Nat} {w : Nat → AC} (v : Int32) : Sq l yX5_isKey cX5_isKey 1 (some .boolean) d [aI v] n w (Rs (some (aZ (decide (nI 0 ≤ v ∧ v ≤ nI 7)).toNat)) w) := by
  refine Sp.of (plainFor_of_name (by decide)) (Nat.le_of_ble_eq_true rfl) (fun Γ hΓ hR => ?_)
  show Γ 0 [aI v] [] (0, 0) n w
  refine qa_iload_n hΓ dX5_isKey_0 rfl ?_
  refine qa_iconst (v := nI 0) hΓ dX5_isKey_1 ic_0 ?_
  refine qa_bipush (v := nI 7) hΓ dX5_isKey_2 bp_7 ?_
  refine qc_S1 hΓ dX5_isKey_4 lk_X5_71 vw_X5_isWithin (by omega) (c_X5_isWithin l (d - 1) _ _ _) rfl rfl (Nat.le_of_ble_eq_true rfl) ?_
  exact qr_b hR dX5_isKey_7 ⟨rfl, rfl⟩

set_option maxRecDepth 100000 in
set_option maxHeartbeats 4000000 in
theorem c_X5_areDelays (l : Launch) (d : Nat) (hd : 1 ≤ d) {n : Nat} {w : Nat → AC} (u v x : Int32) : Sq l yX5_areDelays cX5_areDelays 3 (some .boolean) d [aI u, aI v, aI x] n w (Rs (some (aZ (decide ((nI 1 ≤ u ∧ u ≤ nI 20) ∧ (nI 1 ≤ v ∧ v ≤ nI 20) ∧ (nI 0 ≤ x ∧ x ≤ nI 5))).toNat)) w) := by
  refine Sp.of (plainFor_of_name (by decide)) (Nat.le_of_ble_eq_true rfl) (fun Γ hΓ hR => ?_)
  show Γ 0 [aI u, aI v, aI x] [] (0, 0) n w
  refine qa_iload_n hΓ dX5_areDelays_0 rfl ?_
  refine qa_iconst (v := nI 1) hΓ dX5_areDelays_1 ic_1 ?_
  refine qa_bipush (v := nI 20) hΓ dX5_areDelays_2 bp_20 ?_
  refine qc_S1 hΓ dX5_areDelays_4 lk_X5_71 vw_X5_isWithin (by omega) (c_X5_isWithin l (d - 1) _ _ _) rfl rfl (Nat.le_of_ble_eq_true rfl) ?_
  refine qb_if_eq (tgt := 33) hΓ dX5_areDelays_7 (by decide) (fun h_7 => ?_) (fun h_7 => ?_)
  · refine qa_iconst (v := nI 0) hΓ dX5_areDelays_33 ic_0 ?_
    exact qr_b (p := false) hR dX5_areDelays_34 ⟨congrArg (fun p : Bool => some (aZ p.toNat)) (decide_eq_false (fun q => by first | exact of_decide_eq_false h_7 q.1 | exact of_decide_eq_false h_17 q.2.1 | exact of_decide_eq_false h_26 q.2.2)).symm, rfl⟩
  · refine qa_iload_n hΓ dX5_areDelays_10 rfl ?_
    refine qa_iconst (v := nI 1) hΓ dX5_areDelays_11 ic_1 ?_
    refine qa_bipush (v := nI 20) hΓ dX5_areDelays_12 bp_20 ?_
    refine qc_S1 hΓ dX5_areDelays_14 lk_X5_71 vw_X5_isWithin (by omega) (c_X5_isWithin l (d - 1) _ _ _) rfl rfl (Nat.le_of_ble_eq_true rfl) ?_
    refine qb_if_eq (tgt := 33) hΓ dX5_areDelays_17 (by decide) (fun h_17 => ?_) (fun h_17 => ?_)
    · refine qa_iconst (v := nI 0) hΓ dX5_areDelays_33 ic_0 ?_
      exact qr_b (p := false) hR dX5_areDelays_34 ⟨congrArg (fun p : Bool => some (aZ p.toNat)) (decide_eq_false (fun q => by first | exact of_decide_eq_false h_7 q.1 | exact of_decide_eq_false h_17 q.2.1 | exact of_decide_eq_false h_26 q.2.2)).symm, rfl⟩
    · refine qa_iload_n hΓ dX5_areDelays_20 rfl ?_
      refine qa_iconst (v := nI 0) hΓ dX5_areDelays_21 ic_0 ?_
      refine qa_iconst (v := nI 5) hΓ dX5_areDelays_22 ic_5 ?_
      refine qc_S1 hΓ dX5_areDelays_23 lk_X5_71 vw_X5_isWithin (by omega) (c_X5_isWithin l (d - 1) _ _ _) rfl rfl (Nat.le_of_ble_eq_true rfl) ?_
      refine qb_if_eq (tgt := 33) hΓ dX5_areDelays_26 (by decide) (fun h_26 => ?_) (fun h_26 => ?_)
      · refine qa_iconst (v := nI 0) hΓ dX5_areDelays_33 ic_0 ?_
        exact qr_b (p := false) hR dX5_areDelays_34 ⟨congrArg (fun p : Bool => some (aZ p.toNat)) (decide_eq_false (fun q => by first | exact of_decide_eq_false h_7 q.1 | exact of_decide_eq_false h_17 q.2.1 | exact of_decide_eq_false h_26 q.2.2)).symm, rfl⟩
      · refine qa_iconst (v := nI 1) hΓ dX5_areDelays_29 ic_1 ?_
        refine qa_goto (tgt := 34) hΓ dX5_areDelays_30 (by decide) ?_
        exact qr_b (p := true) hR dX5_areDelays_34 ⟨congrArg (fun p : Bool => some (aZ p.toNat)) (decide_eq_true ⟨of_decide_eq_true h_7, of_decide_eq_true h_17, of_decide_eq_true h_26⟩).symm, rfl⟩

set_option maxRecDepth 100000 in
set_option maxHeartbeats 4000000 in
theorem c_X0_relayOf (l : Launch) (d : Nat) {n : Nat} {w : Nat → AC} (a : Nat) (ha : a < 2147483648) : Sq l yX0_relayOf cX0_relayOf 1 (some .int) d [aZ a] n w (Rs (some (aZ (a / 2))) w) := by
  refine Sp.of (plainFor_of_name (by decide)) (Nat.le_of_ble_eq_true rfl) (fun Γ hΓ hR => ?_)
  show Γ 0 [aZ a] [] (0, 0) n w
  refine qa_iload_n hΓ dX0_relayOf_0 rfl ?_
  refine qa_iconst (v := nI 1) hΓ dX0_relayOf_1 ic_1 ?_
  refine qz_ishr hΓ dX0_relayOf_2 (by omega) (by omega) ?_
  exact qr_i hR dX0_relayOf_3 ⟨by rw [Nat.shiftRight_eq_div_pow], rfl⟩

set_option maxRecDepth 100000 in
set_option maxHeartbeats 4000000 in
theorem c_X0_isBounceEnd (l : Launch) (d : Nat) {n : Nat} {w : Nat → AC} (a : Nat) : Sq l yX0_isBounceEnd cX0_isBounceEnd 1 (some .boolean) d [aZ a] n w (Rs (some (aZ (decide (a % 2 = 1)).toNat)) w) := by
  refine Sp.of (plainFor_of_name (by decide)) (Nat.le_of_ble_eq_true rfl) (fun Γ hΓ hR => ?_)
  show Γ 0 [aZ a] [] (0, 0) n w
  refine qa_iload_n hΓ dX0_isBounceEnd_0 rfl ?_
  refine qa_iconst (v := nI 1) hΓ dX0_isBounceEnd_1 ic_1 ?_
  refine qz_iand hΓ dX0_isBounceEnd_2 ?_
  refine qa_iconst (v := nI 1) hΓ dX0_isBounceEnd_3 ic_1 ?_
  refine qz_icmp_ne (tgt := 11) hΓ dX0_isBounceEnd_4 (by decide) (Nat.lt_of_le_of_lt (Nat.and_le_right) (by decide)) (by decide) (fun h_4 => ?_) (fun h_4 => ?_)
  · refine qa_iconst (v := nI 0) hΓ dX0_isBounceEnd_11 ic_0 ?_
    exact qr_b (p := false) hR dX0_isBounceEnd_12 ⟨congrArg (fun p : Bool => some (aZ p.toNat)) (by rw [Nat.and_one_is_mod] at h_4; simp; omega), rfl⟩
  · refine qa_iconst (v := nI 1) hΓ dX0_isBounceEnd_7 ic_1 ?_
    refine qa_goto (tgt := 12) hΓ dX0_isBounceEnd_8 (by decide) ?_
    exact qr_b (p := true) hR dX0_isBounceEnd_12 ⟨congrArg (fun p : Bool => some (aZ p.toNat)) (by rw [Nat.and_one_is_mod] at h_4; simp; omega), rfl⟩

set_option maxRecDepth 100000 in
set_option maxHeartbeats 4000000 in
theorem c_J9_floorMod_7cf53 (l : Launch) (d : Nat) {n : Nat} {w : Nat → AC} (a b : Nat) (ha : a < 2147483648) (hb : b < 2147483648) (h0 : 0 < b) : Sq l yJ9_floorMod_7cf53 cJ9_floorMod_7cf53 3 (some .int) d [aZ a, aZ b] n w (Rs (some (aZ (a % b))) w) := by
  refine Sp.of (by decide +kernel) (Nat.le_of_ble_eq_true rfl) (fun Γ hΓ hR => ?_)
  show Γ 0 [aZ a, aZ b, none] [] (0, 0) n w
  refine qa_iload_n hΓ dJ9_floorMod_7cf53_0 rfl ?_
  refine qa_iload_n hΓ dJ9_floorMod_7cf53_1 rfl ?_
  refine qz_irem hΓ dJ9_floorMod_7cf53_2 ha hb h0 ?_
  refine qa_istore_n hΓ dJ9_floorMod_7cf53_3 (by decide) ?_
  refine qa_iload_n hΓ dJ9_floorMod_7cf53_4 rfl ?_
  refine qa_iload_n hΓ dJ9_floorMod_7cf53_5 rfl ?_
  refine qz_ixor hΓ dJ9_floorMod_7cf53_6 ?_
  refine qz_if_ge (tgt := 18) hΓ dJ9_floorMod_7cf53_7 (by decide) (Nat.xor_lt_two_pow (n := 31) ha hb) ?_
  refine qa_iload_n hΓ dJ9_floorMod_7cf53_18 rfl ?_
  exact qr_i hR dJ9_floorMod_7cf53_19 ⟨rfl, rfl⟩
end
section
/-! What the model does, as functions of its row s: keys, relays, time, then 25 numbers a relay -/
def vv (s : Nat → Nat) (r x : Nat) : Nat := s (3 + 25 * r + x)
abbrev ix (r x : Nat) : Nat := 3 + 25 * r + x
theorem vv_up (s : Nat → Nat) (r x y r' x' : Nat) (hx : x < 25) (hx' : x' < 25) : vv (upN s (ix r x) y) r' x' = if r' = r ∧ x' = x then y else vv s r' x' := by
  unfold vv upN ix
  by_cases h : r' = r ∧ x' = x
  · obtain ⟨rfl, rfl⟩ := h
    simp
  · rw [if_neg h, if_neg (by omega)]
theorem vv_same (s : Nat → Nat) (r x y : Nat) : vv (upN s (ix r x) y) r x = y := by
  unfold vv
  exact upN_self _ _ _
theorem vv_oth (s : Nat → Nat) (r x y r' x' : Nat) (hx : x < 25) (hx' : x' < 25) (h : r' ≠ r ∨ x' ≠ x) : vv (upN s (ix r x) y) r' x' = vv s r' x' := by
  rw [vv_up _ _ _ _ _ _ hx hx', if_neg (by omega)]
theorem hd_up (s : Nat → Nat) (r x y : Nat) {j : Nat} (hj : j < 3) : upN s (ix r x) y j = s j := upN_ne _ _ _ (by unfold ix; omega)
theorem vv_hd (s : Nat → Nat) (j y r x : Nat) (hj : j < 3) : vv (upN s j y) r x = vv s r x := upN_ne _ _ _ (by omega)
def mk (p : Nat → Bool) : Nat → Nat
  | 0 => 0
  | n + 1 => mk p n ||| (if p n then 1 <<< n else 0)
theorem mk_bit (p : Nat → Bool) : ∀ n i, (mk p n).testBit i = (decide (i < n) && p i)
  | 0, i => by simp [mk]
  | n + 1, i => by
    show (mk p n ||| (if p n then 1 <<< n else 0)).testBit i = _
    rw [Nat.testBit_or, mk_bit p n i]
    by_cases h : i = n
    · subst h
      cases hp : p i <;> simp
    · have h1 : (if p n then 1 <<< n else 0).testBit i = false := by
        cases p n
        · simp
        · simp only [if_true, Nat.one_shiftLeft]
          rw [Nat.testBit_two_pow]
          simp
          omega
      rw [h1, Bool.or_false]
      have h2 : decide (i < n + 1) = decide (i < n) := by
        apply decide_eq_decide.mpr
        omega
      rw [h2]
theorem mk_lt (p : Nat → Bool) (n : Nat) : mk p n < 2 ^ n := by
  apply Nat.lt_pow_two_of_testBit
  intro i hi
  rw [mk_bit]
  simp
  omega
theorem mk_congr {p q : Nat → Bool} : ∀ {n : Nat}, (∀ i, i < n → p i = q i) → mk p n = mk q n
  | 0, _ => rfl
  | n + 1, h => by
    show mk p n ||| _ = mk q n ||| _
    rw [mk_congr (fun i hi => h i (by omega)), h n (by omega)]
theorem two8 {n : Nat} (h : n ≤ 8) : 2 ^ n ≤ 256 := Nat.pow_le_pow_right (by decide) h
theorem mk_256 (p : Nat → Bool) {n : Nat} (h : n ≤ 8) : mk p n < 256 := Nat.lt_of_lt_of_le (mk_lt p n) (two8 h)
def clB (s : Nat → Nat) (r : Nat) : Bool := decide (vv s r 6 = 2) || (decide (vv s r 6 = 0) && (decide (vv s r 3 = 1) && decide (vv s r 5 = 0)))
def onS (s : Nat → Nat) : Nat := s 0 ||| (mk (clB s) (s 1)) <<< 8
def brB (s : Nat → Nat) (r on b : Nat) : Bool := decide (vv s r (13 + 2 * b) &&& on = vv s r (13 + 2 * b)) && decide (vv s r (13 + 2 * b + 1) &&& on = 0)
def cdB (s : Nat → Nat) (r on : Nat) : Nat → Bool
  | 0 => false
  | b + 1 => cdB s r on b || brB s r on b
def cnd (s : Nat → Nat) (r on : Nat) : Bool := cdB s r on (vv s r 12)
def lkT (is : Nat) (t : Nat → Nat) (r : Nat) : Nat → Nat :=
  upN (upN (upN t (ix r 4) is) (ix r 8) (if vv t r 3 ≠ is then 2 - is else if vv t r 8 = 1 + is then 0 else vv t r 8)) (ix r 9) (if vv t r 3 ≠ is then t 2 + vv t r (if is = 1 then 0 else 1) else vv t r 9)
def lk (on : Nat) (t : Nat → Nat) : Nat → Nat × (Nat → Nat)
  | 0 => (0, t)
  | r + 1 => if (cnd (lk on t r).2 r on).toNat = vv (lk on t r).2 r 4 then lk on t r else ((lk on t r).1 + 1, lkT (cnd (lk on t r).2 r on).toNat (lk on t r).2 r)
def lks (s : Nat → Nat) : Nat × (Nat → Nat) := lk (onS s) s (s 1)
def tmO (s : Nat → Nat) (e : Nat) : Nat := if e % 4 = 2 then vv s (e / 4) 11 else vv s (e / 4) 9
def wtB (s : Nat → Nat) (e : Nat) : Bool := if e % 4 = 2 then decide (vv s (e / 4) 10 = 1) else decide (e % 4 < 2) && decide (vv s (e / 4) 8 = e % 4 + 1)
def ahB (s : Nat → Nat) (a b : Nat) (rev : Bool) : Bool := if tmO s a = tmO s b then (if a / 4 = b / 4 then decide (a < b) else if rev then decide (b < a) else decide (a < b)) else decide (tmO s a < tmO s b)
def ahO (s : Nat → Nat) (e : Nat) (rev : Bool) : Option Nat → Bool
  | none => true
  | some q => ahB s e q rev
def nxt (s : Nat → Nat) (rev : Bool) : Nat → Option Nat
  | 0 => none
  | e + 1 => if wtB s e && ahO s e rev (nxt s rev e) then some e else nxt s rev e
def nx (s : Nat → Nat) (rev : Bool) : Option Nat := nxt s rev (4 * s 1)
def nI9 : Option Nat → Int32
  | none => -9
  | some e => nI e
def hp1 (s : Nat → Nat) (e : Nat) : Nat → Nat :=
  if e % 4 = 2 then upN (upN (upN s 2 (tmO s e)) (ix (e / 4) 10) 0) (ix (e / 4) 5) 0
  else if vv s (e / 4) 7 = 0 then
    (if 0 < vv s (e / 4) 2 then upN (upN (upN (upN (upN (upN s 2 (tmO s e)) (ix (e / 4) 8) 0) (ix (e / 4) 3) (1 - e % 4)) (ix (e / 4) 5) 1) (ix (e / 4) 10) 1) (ix (e / 4) 11) (tmO s e + vv s (e / 4) 2)
    else upN (upN (upN s 2 (tmO s e)) (ix (e / 4) 8) 0) (ix (e / 4) 3) (1 - e % 4))
  else upN (upN s 2 (tmO s e)) (ix (e / 4) 8) 0
def hap (s : Nat → Nat) (e : Nat) : Nat → Nat := (lks (hp1 s e)).2
def stl (s : Nat → Nat) (rev : Bool) : Nat → Nat × (Nat → Nat)
  | 0 => (0, s)
  | m + 1 => match nx s rev with
    | none => (0, s)
    | some e => ((stl (hap s e) rev m).1 + 1, (stl (hap s e) rev m).2)
def stB (s : Nat → Nat) (x : Nat) (r : Nat) : Bool := decide (vv s r x ≠ 0)
def ndE (s : Nat → Nat) (rev : Bool) (m : Nat) : Nat := mk (stB (stl s rev m).2 3) ((stl s rev m).2 1) + (if nx (stl s rev m).2 rev = none then 256 else 0)
/-- how large the numbers may be, with the time at most B -/
def bdF (B : Nat) (x : Nat) : Nat := if x < 2 then 20 else if x = 2 then 5 else if x = 9 ∨ x = 11 then B + 20 else if x = 6 ∨ x = 8 then 2 else if x < 12 then 1 else if x = 12 then 6 else 65535
def Wt (s : Nat → Nat) (B : Nat) : Prop := s 0 < 256 ∧ s 1 ≤ 8 ∧ s 2 ≤ B ∧ ∀ r, r < s 1 → ∀ x, x < 25 → vv s r x ≤ bdF B x
theorem Wt.up {s : Nat → Nat} {B r x y : Nat} (h : Wt s B) (hx : x < 25) (hy : y ≤ bdF B x) : Wt (upN s (ix r x) y) B := by
  obtain ⟨h0, h1, h2, h3⟩ := h
  refine ⟨by rw [hd_up _ _ _ _ (by decide)]; exact h0, by rw [hd_up _ _ _ _ (by decide)]; exact h1, by rw [hd_up _ _ _ _ (by decide)]; exact h2, fun r' hr' x' hx' => ?_⟩
  rw [hd_up _ _ _ _ (by decide)] at hr'
  rw [vv_up _ _ _ _ _ _ hx hx']
  by_cases e : r' = r ∧ x' = x
  · rw [if_pos e, e.2]
    exact hy
  · rw [if_neg e]
    exact h3 r' hr' x' hx'
theorem bdF_mono {B C : Nat} (h : B ≤ C) (x : Nat) : bdF B x ≤ bdF C x := by
  unfold bdF
  repeat' split
  all_goals omega
theorem Wt.mono {s : Nat → Nat} {B C : Nat} (h : Wt s B) (hBC : B ≤ C) : Wt s C := ⟨h.1, h.2.1, Nat.le_trans h.2.2.1 hBC, fun r hr x hx => Nat.le_trans (h.2.2.2 r hr x hx) (bdF_mono hBC x)⟩
theorem Wt.time {s : Nat → Nat} {B t : Nat} (h : Wt s B) (ht : t ≤ B) : Wt (upN s 2 t) B := by
  refine ⟨by rw [upN_ne _ _ _ (by decide)]; exact h.1, by rw [upN_ne _ _ _ (by decide)]; exact h.2.1, by rw [upN_self]; exact ht, fun r hr x hx => ?_⟩
  rw [upN_ne _ _ _ (by decide)] at hr
  rw [vv_hd _ _ _ _ _ (by decide)]
  exact h.2.2.2 r hr x hx
theorem Wt.b {s : Nat → Nat} {B r x : Nat} (h : Wt s B) (hr : r < s 1) (hx : x < 25) : vv s r x ≤ B + 65555 := by
  refine Nat.le_trans (h.2.2.2 r hr x hx) ?_
  unfold bdF
  repeat' split
  all_goals omega
theorem on_lt {s : Nat → Nat} {B : Nat} (h : Wt s B) : onS s < 65536 := by
  unfold onS
  apply Nat.or_lt_two_pow (n := 16)
  · exact Nat.lt_of_lt_of_le h.1 (by decide)
  · rw [Nat.shiftLeft_eq]
    have := mk_256 (clB s) h.2.1
    omega
theorem lkT_hd (is : Nat) (t : Nat → Nat) (r : Nat) {j : Nat} (hj : j < 3) : lkT is t r j = t j := by
  unfold lkT
  rw [hd_up _ _ _ _ hj, hd_up _ _ _ _ hj, hd_up _ _ _ _ hj]
theorem lkT_oth (is : Nat) (t : Nat → Nat) (r : Nat) {r' x : Nat} (hx : x < 25) (h : r' ≠ r ∨ (x ≠ 4 ∧ x ≠ 8 ∧ x ≠ 9)) : vv (lkT is t r) r' x = vv t r' x := by
  unfold lkT
  rw [vv_oth _ _ _ _ _ _ (by decide) hx (by omega), vv_oth _ _ _ _ _ _ (by decide) hx (by omega), vv_oth _ _ _ _ _ _ (by decide) hx (by omega)]
theorem lk_hd (on : Nat) (t : Nat → Nat) {j : Nat} (hj : j < 3) : ∀ m, (lk on t m).2 j = t j
  | 0 => rfl
  | m + 1 => by
    unfold lk
    split
    · exact lk_hd on t hj m
    · show lkT _ _ _ j = _
      rw [lkT_hd _ _ _ hj]
      exact lk_hd on t hj m
theorem lk_ge (on : Nat) (t : Nat → Nat) {r x : Nat} (hx : x < 25) : ∀ m, m ≤ r → vv (lk on t m).2 r x = vv t r x
  | 0, _ => rfl
  | m + 1, h => by
    unfold lk
    split
    · exact lk_ge on t hx m (by omega)
    · show vv (lkT _ _ _) r x = _
      rw [lkT_oth _ _ _ hx (Or.inl (by omega))]
      exact lk_ge on t hx m (by omega)
theorem lk_oth (on : Nat) (t : Nat → Nat) {r x : Nat} (hx : x < 25) (h : x ≠ 4 ∧ x ≠ 8 ∧ x ≠ 9) : ∀ m, vv (lk on t m).2 r x = vv t r x
  | 0 => rfl
  | m + 1 => by
    unfold lk
    split
    · exact lk_oth on t hx h m
    · show vv (lkT _ _ _) r x = _
      rw [lkT_oth _ _ _ hx (Or.inr h)]
      exact lk_oth on t hx h m
theorem cdB_congr {s t : Nat → Nat} {r on : Nat} : ∀ m, m ≤ 6 → (∀ x, 13 ≤ x → x < 25 → vv s r x = vv t r x) → cdB s r on m = cdB t r on m
  | 0, _, _ => rfl
  | m + 1, hm, h => by
    show (cdB s r on m || brB s r on m) = (cdB t r on m || brB t r on m)
    rw [cdB_congr m (by omega) h]
    unfold brB
    rw [h (13 + 2 * m) (by omega) (by omega), h (13 + 2 * m + 1) (by omega) (by omega)]
theorem cnd_congr {s t : Nat → Nat} {r on : Nat} (h6 : vv s r 12 ≤ 6) (h : ∀ x, 12 ≤ x → x < 25 → vv s r x = vv t r x) : cnd s r on = cnd t r on := by
  unfold cnd
  rw [← h 12 (by decide) (by decide)]
  exact cdB_congr _ h6 (fun x h1 h2 => h x (by omega) h2)
theorem Bool.toNat_le1 (p : Bool) : p.toNat ≤ 1 := by cases p <;> decide
theorem Wt.lkT {t : Nat → Nat} {B r is : Nat} (h : Wt t B) (his : is ≤ 1) (hr : r < t 1) : Wt (lkT is t r) B := by
  have hb := h.2.2.2 r hr
  unfold Jvm.Pilot.@@N@@.lkT
  refine Wt.up (Wt.up (Wt.up h (by decide) (by simpa [bdF] using his)) (by decide) ?_) (by decide) ?_
  · have h8 := hb 8 (by decide)
    simp only [bdF] at h8 ⊢
    repeat' split
    all_goals (first | omega | simp_all)
  · have h9 := hb 9 (by decide)
    have h0 := hb 0 (by decide)
    have h1 := hb 1 (by decide)
    have h2 := h.2.2.1
    simp [bdF] at h9 h0 h1 ⊢
    repeat' split
    all_goals omega
theorem Wt.lk {s : Nat → Nat} {B : Nat} (on : Nat) (h : Wt s B) : ∀ m, m ≤ s 1 → Wt (lk on s m).2 B
  | 0, _ => h
  | m + 1, hm => by
    have ih := Wt.lk on h m (by omega)
    unfold Jvm.Pilot.@@N@@.lk
    split
    · exact ih
    · exact Wt.lkT ih (Bool.toNat_le1 _) (by rw [lk_hd _ _ (by decide)]; omega)
theorem Wt.lks {s : Nat → Nat} {B : Nat} (h : Wt s B) : Wt (lks s).2 B := Wt.lk _ h _ (Nat.le_refl _)
theorem Wt.tm {s : Nat → Nat} {B e : Nat} (h : Wt s B) (he : e < 4 * s 1) : tmO s e ≤ B + 20 := by
  have hb := h.2.2.2 (e / 4) (by omega)
  unfold tmO
  split
  · have := hb 11 (by decide); simpa [bdF] using this
  · have := hb 9 (by decide); simpa [bdF] using this
theorem Wt.hp1 {s : Nat → Nat} {B e : Nat} (h : Wt s B) (he : e < 4 * s 1) : Wt (hp1 s e) (B + 20) := by
  have hb := (h.mono (Nat.le_add_right B 20)).2.2.2 (e / 4) (by omega)
  have ht := Wt.tm h he
  have h0 : Wt (upN s 2 (tmO s e)) (B + 20) := (h.mono (Nat.le_add_right B 20)).time ht
  have h2 : vv s (e / 4) 2 ≤ 5 := by have := hb 2 (by decide); simpa [bdF] using this
  unfold Jvm.Pilot.@@N@@.hp1
  split
  · exact (h0.up (by decide) (by simp [bdF])).up (by decide) (by simp [bdF])
  · split
    · split
      · refine ((((h0.up (by decide) (by simp [bdF])).up (by decide) ?_).up (by decide) (by simp [bdF])).up (by decide) (by simp [bdF])).up (by decide) ?_
        · simp [bdF]
        · simp [bdF]; omega
      · refine (h0.up (by decide) (by simp [bdF])).up (by decide) ?_
        simp [bdF]
    · exact h0.up (by decide) (by simp [bdF])
theorem Wt.hap {s : Nat → Nat} {B e : Nat} (h : Wt s B) (he : e < 4 * s 1) : Wt (hap s e) (B + 20) := Wt.lks (Wt.hp1 h he)
theorem nxt_lt {s : Nat → Nat} {rev : Bool} : ∀ {m e : Nat}, nxt s rev m = some e → e < m
  | 0, e, h => by cases h
  | m + 1, e, h => by
    unfold nxt at h
    split at h
    · cases h; omega
    · have := nxt_lt h; omega
theorem nx_lt {s : Nat → Nat} {rev : Bool} {e : Nat} (h : nx s rev = some e) : e < 4 * s 1 := nxt_lt h
theorem nxt_wt {s : Nat → Nat} {rev : Bool} : ∀ {m e : Nat}, nxt s rev m = some e → wtB s e = true
  | 0, e, h => by cases h
  | m + 1, e, h => by
    unfold nxt at h
    split at h
    · rename_i q
      cases h
      exact (Bool.and_eq_true_iff.mp q).1
    · exact nxt_wt h
theorem Wt.stl {rev : Bool} : ∀ {m : Nat} {s : Nat → Nat} {B : Nat}, Wt s B → Wt (stl s rev m).2 (B + 20 * m)
  | 0, s, B, h => h
  | m + 1, s, B, h => by
    unfold Jvm.Pilot.@@N@@.stl
    split
    · exact h.mono (by omega)
    · rename_i e he
      have h1 := Wt.stl (rev := rev) (m := m) (Wt.hap h (nx_lt he))
      have e2 : B + 20 + 20 * m = B + 20 * (m + 1) := by omega
      rw [e2] at h1
      exact h1
end
section
/-! The model's small methods -/
def sset (M : Bk) (r x y : Nat) : Bk := bset M 0 (3 + 25 * r + x) y
set_option maxRecDepth 100000 in
set_option maxHeartbeats 4000000 in
theorem c_X6_of (l : Launch) (d : Nat) {n k : Nat} {w : Nat → AC} {M : Bk} (hM : MdAt n w k M) (r x : Nat) (hr : r < 8) (hx : x < 25) : Sq l yX6_of cX6_of 3 (some .int) d [aR k, aZ r, aZ x] n w (Rs (some (aZ (vv (M 0) r x))) w) := by
  refine Sp.of (plainFor_of_name (by decide)) (Nat.le_of_ble_eq_true rfl) (fun Γ hΓ hR => ?_)
  show Γ 0 [aR k, aZ r, aZ x] [] (0, 0) n w
  refine qa_aload_n hΓ dX6_of_0 rfl ?_
  refine qa_get hΓ dX6_of_1 fk_X6_7 hM.lt hM.o rfl ?_
  refine qa_iconst (v := nI 3) hΓ dX6_of_4 ic_3 ?_
  refine qa_bipush (v := nI 25) hΓ dX6_of_5 bp_25 ?_
  refine qa_iload_n hΓ dX6_of_7 rfl ?_
  refine qz_imul hΓ dX6_of_8 ?_
  refine qz_iadd hΓ dX6_of_9 ?_
  refine qa_iload_n hΓ dX6_of_10 rfl ?_
  refine qz_iadd hΓ dX6_of_11 ?_
  refine qz_iald hΓ dX6_of_12 (hM.lti (i := 1) (by decide)) hM.a0 (by omega) (by decide) ?_
  exact qr_i hR dX6_of_13 ⟨rfl, rfl⟩

set_option maxRecDepth 100000 in
set_option maxHeartbeats 4000000 in
theorem c_X6_puts (l : Launch) (d : Nat) {n k : Nat} {w : Nat → AC} {M : Bk} (hM : MdAt n w k M) (r x y : Nat) (hr : r < 8) (hx : x < 25) : Sq l yX6_puts cX6_puts 4 none d [aR k, aZ r, aZ x, aZ y] n w (Qn (PM n k (sset M r x y) w)) := by
  refine Sp.of (plainFor_of_name (by decide)) (Nat.le_of_ble_eq_true rfl) (fun Γ hΓ hR => ?_)
  show Γ 0 [aR k, aZ r, aZ x, aZ y] [] (0, 0) n w
  refine qa_aload_n hΓ dX6_puts_0 rfl ?_
  refine qa_get hΓ dX6_puts_1 fk_X6_7 hM.lt hM.o rfl ?_
  refine qa_iconst (v := nI 3) hΓ dX6_puts_4 ic_3 ?_
  refine qa_bipush (v := nI 25) hΓ dX6_puts_5 bp_25 ?_
  refine qa_iload_n hΓ dX6_puts_7 rfl ?_
  refine qz_imul hΓ dX6_puts_8 ?_
  refine qz_iadd hΓ dX6_puts_9 ?_
  refine qa_iload_n hΓ dX6_puts_10 rfl ?_
  refine qz_iadd hΓ dX6_puts_11 ?_
  refine qa_iload_n hΓ dX6_puts_12 rfl ?_
  refine qM_ast hΓ (N := 203) 0 (by decide) rfl rfl dX6_puts_13 hM (by omega) (fun w hM hF => ?_)
  exact qr_v hR dX6_puts_14 ⟨rfl, hM, hF⟩

set_option maxRecDepth 100000 in
set_option maxHeartbeats 4000000 in
theorem c_X6_isRelay (l : Launch) (d : Nat) (hd : 1 ≤ d) {n k : Nat} {w : Nat → AC} {M : Bk} (hM : MdAt n w k M) (v : Int32) : Sq l yX6_isRelay cX6_isRelay 2 (some .boolean) d [aR k, aI v] n w (Rs (some (aZ (decide (nI 0 ≤ v ∧ v ≤ nI (M 0 1) - nI 1)).toNat)) w) := by
  refine Sp.of (plainFor_of_name (by decide)) (Nat.le_of_ble_eq_true rfl) (fun Γ hΓ hR => ?_)
  show Γ 0 [aR k, aI v] [] (0, 0) n w
  refine qa_iload_n hΓ dX6_isRelay_0 rfl ?_
  refine qa_iconst (v := nI 0) hΓ dX6_isRelay_1 ic_0 ?_
  refine qa_aload_n hΓ dX6_isRelay_2 rfl ?_
  refine qa_get hΓ dX6_isRelay_3 fk_X6_7 hM.lt hM.o rfl ?_
  refine qa_iconst (v := nI 1) hΓ dX6_isRelay_6 ic_1 ?_
  refine qz_iald hΓ dX6_isRelay_7 (hM.lti (i := 1) (by decide)) hM.a0 (by omega) (by decide) ?_
  refine qa_iconst (v := nI 1) hΓ dX6_isRelay_8 ic_1 ?_
  refine qa_isub hΓ dX6_isRelay_9 ?_
  refine qc_S1 hΓ dX6_isRelay_10 lk_X6_33 vw_X6_in (by omega) (c_X6_in l (d - 1) _ _ _) rfl rfl (Nat.le_of_ble_eq_true rfl) ?_
  exact qr_b hR dX6_isRelay_13 ⟨rfl, rfl⟩

set_option maxRecDepth 100000 in
set_option maxHeartbeats 4000000 in
theorem c_X6_keeps (l : Launch) (d : Nat) {n k : Nat} {w : Nat → AC} {M : Bk} (hM0 : MdAt n w k M) : Sq l yX6_keeps cX6_keeps 2 none d [aR k] n w (Qn (PM n k (rset M 2 (M 0)) w)) := by
  refine Sp.of (plainFor_of_name (by decide)) (Nat.le_of_ble_eq_true rfl) (fun Γ hΓ hR => ?_)
  show Γ 0 [aR k, none] [] (0, 0) n w
  have loop : ∀ (m i : Nat) (w1 : Nat → AC) (M1 : Bk), i ≤ 203 → 203 < i + m → MdAt n w1 k M1 → Fr k 6 w w1 → (∀ a, a ≠ 2 → M1 a = M a) → (∀ j, j < i → M1 2 j = M 0 j) → Γ 2 [aR k, aZ i] [] (0, 0) n w1 := by
    intro m
    induction m with
    | zero => intro i w1 M1 h1 h2; exact absurd h2 (by omega)
    | succ m ih =>
      intro i w M1 hi hm hM hF0 he hj
      refine qa_iload_n hΓ dX6_keeps_2 rfl ?_
      refine qa_sipush (v := nI 203) hΓ dX6_keeps_3 sp_203 ?_
      refine qz_icmp_ge (tgt := 27) hΓ dX6_keeps_6 (by decide) (by omega) (by omega) (fun h_6 => ?_) (fun h_6 => ?_)
      · refine qr_v hR dX6_keeps_27 ⟨rfl, hM.of_rows (fun a ha => ?_), hF0⟩
        by_cases e : a = 2
        · subst e
          rw [rset_eq]
          funext j
          rcases Nat.lt_or_ge j 203 with q | q
          · exact (hj j (by omega)).symm
          · rw [hM.nf (by decide) q, hM0.nf (by decide) q]
        · rw [rset_ne _ _ e, he a e]
      · refine qa_aload_n hΓ dX6_keeps_9 rfl ?_
        refine qa_get hΓ dX6_keeps_10 fk_X6_16 hM.lt hM.o rfl ?_
        refine qa_iload_n hΓ dX6_keeps_13 rfl ?_
        refine qa_aload_n hΓ dX6_keeps_14 rfl ?_
        refine qa_get hΓ dX6_keeps_15 fk_X6_7 hM.lt hM.o rfl ?_
        refine qa_iload_n hΓ dX6_keeps_18 rfl ?_
        refine qz_iald hΓ dX6_keeps_19 (hM.lti (i := 1) (by decide)) hM.a0 (by omega) (by decide) ?_
        refine qM_ast hΓ (N := 203) 2 (by decide) rfl rfl dX6_keeps_20 hM (by omega) (fun w hM hF => ?_)
        have hF0 := hF0.tr hF
        refine qz_iinc hΓ dX6_keeps_21 ii_1 rfl (by decide) ?_
        refine qa_goto (tgt := 2) hΓ dX6_keeps_24 (by decide) ?_
        refine ih (i + 1) w _ (by omega) (by omega) hM hF0 (fun a e => ?_) (fun j h => ?_)
        · rw [bset_ne _ _ _ e, he a e]
        · rw [bset_eq]
          by_cases e : j = i
          · subst e
            rw [upN_self, he 0 (by decide)]
          · rw [upN_ne _ _ _ e]
            exact hj j (by omega)
  refine qa_iconst (v := nI 0) hΓ dX6_keeps_0 ic_0 ?_
  refine qa_istore_n hΓ dX6_keeps_1 (by decide) ?_
  exact loop 204 0 w M (by omega) (by omega) hM0 Fr.rf (fun _ _ => rfl) (fun j h => absurd h (by omega))

set_option maxRecDepth 100000 in
set_option maxHeartbeats 4000000 in
theorem c_X6_restores (l : Launch) (d : Nat) {n k : Nat} {w : Nat → AC} {M : Bk} (hM0 : MdAt n w k M) : Sq l yX6_restores cX6_restores 2 none d [aR k] n w (Qn (PM n k (rset M 0 (M 2)) w)) := by
  refine Sp.of (plainFor_of_name (by decide)) (Nat.le_of_ble_eq_true rfl) (fun Γ hΓ hR => ?_)
  show Γ 0 [aR k, none] [] (0, 0) n w
  have loop : ∀ (m i : Nat) (w1 : Nat → AC) (M1 : Bk), i ≤ 203 → 203 < i + m → MdAt n w1 k M1 → Fr k 6 w w1 → (∀ a, a ≠ 0 → M1 a = M a) → (∀ j, j < i → M1 0 j = M 2 j) → Γ 2 [aR k, aZ i] [] (0, 0) n w1 := by
    intro m
    induction m with
    | zero => intro i w1 M1 h1 h2; exact absurd h2 (by omega)
    | succ m ih =>
      intro i w M1 hi hm hM hF0 he hj
      refine qa_iload_n hΓ dX6_restores_2 rfl ?_
      refine qa_sipush (v := nI 203) hΓ dX6_restores_3 sp_203 ?_
      refine qz_icmp_ge (tgt := 27) hΓ dX6_restores_6 (by decide) (by omega) (by omega) (fun h_6 => ?_) (fun h_6 => ?_)
      · refine qr_v hR dX6_restores_27 ⟨rfl, hM.of_rows (fun a ha => ?_), hF0⟩
        by_cases e : a = 0
        · subst e
          rw [rset_eq]
          funext j
          rcases Nat.lt_or_ge j 203 with q | q
          · exact (hj j (by omega)).symm
          · rw [hM.nf (by decide) q, hM0.nf (by decide) q]
        · rw [rset_ne _ _ e, he a e]
      · refine qa_aload_n hΓ dX6_restores_9 rfl ?_
        refine qa_get hΓ dX6_restores_10 fk_X6_7 hM.lt hM.o rfl ?_
        refine qa_iload_n hΓ dX6_restores_13 rfl ?_
        refine qa_aload_n hΓ dX6_restores_14 rfl ?_
        refine qa_get hΓ dX6_restores_15 fk_X6_16 hM.lt hM.o rfl ?_
        refine qa_iload_n hΓ dX6_restores_18 rfl ?_
        refine qz_iald hΓ dX6_restores_19 (hM.lti (i := 3) (by decide)) hM.a2 (by omega) (by decide) ?_
        refine qM_ast hΓ (N := 203) 0 (by decide) rfl rfl dX6_restores_20 hM (by omega) (fun w hM hF => ?_)
        have hF0 := hF0.tr hF
        refine qz_iinc hΓ dX6_restores_21 ii_1 rfl (by decide) ?_
        refine qa_goto (tgt := 2) hΓ dX6_restores_24 (by decide) ?_
        refine ih (i + 1) w _ (by omega) (by omega) hM hF0 (fun a e => ?_) (fun j h => ?_)
        · rw [bset_ne _ _ _ e, he a e]
        · rw [bset_eq]
          by_cases e : j = i
          · subst e
            rw [upN_self, he 2 (by decide)]
          · rw [upN_ne _ _ _ e]
            exact hj j (by omega)
  refine qa_iconst (v := nI 0) hΓ dX6_restores_0 ic_0 ?_
  refine qa_istore_n hΓ dX6_restores_1 (by decide) ?_
  exact loop 204 0 w M (by omega) (by omega) hM0 Fr.rf (fun _ _ => rfl) (fun j h => absurd h (by omega))
end
section
/-! The model: sets, circuits, coils -/
/-- row 0 is s, the number of changes any, the rest as it was -/
def Mup (M : Bk) (s : Nat → Nat) (M' : Bk) : Prop := M' 0 = s ∧ (∀ a, 1 ≤ a → a ≤ 4 → M' a = M a) ∧ M' 5 0 = M 5 0 ∧ M' 5 1 = M 5 1 ∧ M' 5 3 = M 5 3
def PS (n k : Nat) (M : Bk) (s : Nat → Nat) (w : Nat → AC) : (Nat → AC) → Prop := fun w' => ∃ M', MdAt n w' k M' ∧ Mup M s M' ∧ Fr k 6 w w'
theorem Mup.rf (M : Bk) : Mup M (M 0) M := ⟨rfl, fun _ _ _ => rfl, rfl, rfl, rfl⟩
theorem Mup.tr {M M1 M2 : Bk} {s t : Nat → Nat} (h : Mup M s M1) (g : Mup M1 t M2) : Mup M t M2 := ⟨g.1, fun a h1 h2 => (g.2.1 a h1 h2).trans (h.2.1 a h1 h2), g.2.2.1.trans h.2.2.1, g.2.2.2.1.trans h.2.2.2.1, g.2.2.2.2.trans h.2.2.2.2⟩
theorem Mup.put {M M1 : Bk} {s : Nat → Nat} (h : Mup M s M1) (j y : Nat) : Mup M (upN s j y) (bset M1 0 j y) := by
  refine ⟨by rw [bset_eq, h.1], fun a h1 h2 => by rw [bset_ne _ _ _ (by omega)]; exact h.2.1 a h1 h2, ?_, ?_, ?_⟩
  · rw [bset_ne _ _ _ (by decide)]; exact h.2.2.1
  · rw [bset_ne _ _ _ (by decide)]; exact h.2.2.2.1
  · rw [bset_ne _ _ _ (by decide)]; exact h.2.2.2.2
theorem Mup.three {M M1 : Bk} {t t' : Nat → Nat} (h : Mup M t M1) (a x b y c z : Nat) (e : t' = upN (upN (upN (M1 0) a x) b y) c z) : Mup M t' (bset (bset (bset M1 0 a x) 0 b y) 0 c z) := by
  rw [e, h.1]
  exact ((h.put a x).put b y).put c z
theorem Mup.chg {M M1 : Bk} {s : Nat → Nat} (h : Mup M s M1) (y : Nat) : Mup M s (bset M1 5 2 y) := by
  refine ⟨by rw [bset_ne _ _ _ (by decide)]; exact h.1, fun a h1 h2 => by rw [bset_ne _ _ _ (by omega)]; exact h.2.1 a h1 h2, ?_, ?_, ?_⟩
  · rw [bset_eq, upN_ne _ _ _ (by decide)]; exact h.2.2.1
  · rw [bset_eq, upN_ne _ _ _ (by decide)]; exact h.2.2.2.1
  · rw [bset_eq, upN_ne _ _ _ (by decide)]; exact h.2.2.2.2
theorem land_not {a b : Nat} (ha : a < 4294967296) : nI a &&& (nI b ^^^ (-1)) = 0 ↔ a &&& b = a := by
  have e1 : (nI a &&& (nI b ^^^ (-1))).toBitVec = BitVec.ofNat 32 a &&& ~~~ (BitVec.ofNat 32 b) := by
    rw [Int32.toBitVec_and, Int32.toBitVec_xor, show (-1 : Int32).toBitVec = BitVec.allOnes 32 from rfl, BitVec.xor_allOnes]
    rfl
  constructor
  · intro h
    have h1 : BitVec.ofNat 32 a &&& ~~~ (BitVec.ofNat 32 b) = 0#32 := by rw [← e1, h]; rfl
    apply Nat.eq_of_testBit_eq
    intro i
    rw [Nat.testBit_and]
    rcases Nat.lt_or_ge i 32 with q | q
    · have h2 : (BitVec.ofNat 32 a &&& ~~~ (BitVec.ofNat 32 b)).getLsbD i = false := by rw [h1]; simp
      simp only [BitVec.getLsbD_and, BitVec.getLsbD_not, BitVec.getLsbD_ofNat, q, decide_true, Bool.true_and] at h2
      cases ha2 : a.testBit i <;> simp_all
    · have h3 : a.testBit i = false := Nat.testBit_lt_two_pow (Nat.lt_of_lt_of_le ha (show 4294967296 ≤ 2 ^ i from Nat.pow_le_pow_right (n := 2) (by decide) q))
      rw [h3]; rfl
  · intro h
    apply Int32.toBitVec_inj.mp
    rw [e1]
    apply BitVec.eq_of_getLsbD_eq
    intro i hi
    have h2 : (a &&& b).testBit i = a.testBit i := by rw [h]
    rw [Nat.testBit_and] at h2
    simp only [BitVec.getLsbD_and, BitVec.getLsbD_not, BitVec.getLsbD_ofNat, hi, decide_true, Bool.true_and, BitVec.getLsbD_zero]
    cases ha2 : a.testBit i <;> simp_all
set_option maxRecDepth 100000 in
set_option maxHeartbeats 4000000 in
theorem c_X6_set (l : Launch) (d : Nat) (hd : 1 ≤ d) {n k : Nat} {w : Nat → AC} {M : Bk} (hM : MdAt n w k M) (x : Nat) (hx : x < 25) (h8 : M 0 1 ≤ 8) (hb : ∀ r, r < M 0 1 → vv (M 0) r x < 4294967296) : Sq l yX6_set cX6_set 4 (some .int) d [aR k, aZ x] n w (Rs (some (aZ (mk (stB (M 0) x) (M 0 1)))) w) := by
  refine Sp.of (plainFor_of_name (by decide)) (Nat.le_of_ble_eq_true rfl) (fun Γ hΓ hR => ?_)
  show Γ 0 [aR k, aZ x, none, none] [] (0, 0) n w
  have loop : ∀ (m i : Nat), i ≤ M 0 1 → M 0 1 < i + m → Γ 4 [aR k, aZ x, aZ (mk (stB (M 0) x) i), aZ i] [] (0, 0) n w := by
    intro m
    induction m with
    | zero => intro i h1 h2; exact absurd h2 (by omega)
    | succ m ih =>
      intro i hi hm
      refine qa_iload_n hΓ dX6_set_4 rfl ?_
      refine qa_aload_n hΓ dX6_set_5 rfl ?_
      refine qa_get hΓ dX6_set_6 fk_X6_7 hM.lt hM.o rfl ?_
      refine qa_iconst (v := nI 1) hΓ dX6_set_9 ic_1 ?_
      refine qz_iald hΓ dX6_set_10 (hM.lti (i := 1) (by decide)) hM.a0 (by omega) (by decide) ?_
      refine qz_icmp_ge (tgt := 39) hΓ dX6_set_11 (by decide) (by omega) (by omega) (fun h_11 => ?_) (fun h_11 => ?_)
      · refine qa_iload_n hΓ dX6_set_39 rfl ?_
        exact qr_i hR dX6_set_40 ⟨by rw [show i = M 0 1 by omega], rfl⟩
      · have hbi := hb i (by omega)
        refine qa_iload_n hΓ dX6_set_14 rfl ?_
        refine qa_aload_n hΓ dX6_set_15 rfl ?_
        refine qa_iload_n hΓ dX6_set_16 rfl ?_
        refine qa_iload_n hΓ dX6_set_17 rfl ?_
        refine qc_V1 hΓ dX6_set_18 lk_X6_37 vw_X6_of (by omega) (c_X6_of l (d - 1) hM _ _ (by omega) (by omega)) rfl hM.lt hM.o rfl rfl (Nat.le_of_ble_eq_true rfl) ?_
        refine qz_if_eq (tgt := 30) hΓ dX6_set_21 (by decide) (by omega) (fun h_21 => ?_) (fun h_21 => ?_)
        · refine qa_iconst (v := nI 0) hΓ dX6_set_30 ic_0 ?_
          refine qz_ior hΓ dX6_set_31 ?_
          refine qa_istore_n hΓ dX6_set_32 (by decide) ?_
          refine qz_iinc hΓ dX6_set_33 ii_1 rfl (by decide) ?_
          refine qa_goto (tgt := 4) hΓ dX6_set_36 (by decide) ?_
          have e : mk (stB (M 0) x) (i + 1) = mk (stB (M 0) x) i ||| (if stB (M 0) x i then 1 <<< i else 0) := rfl
          simp only [stB, h_21, ne_eq, not_true_eq_false, not_false_eq_true, decide_true, decide_false, if_true, Bool.false_eq_true, if_false] at e
          first | exact e ▸ ih (i + 1) (by omega) (by omega) | exact ih (i + 1) (by omega) (by omega)
        · refine qa_iconst (v := nI 1) hΓ dX6_set_24 ic_1 ?_
          refine qa_iload_n hΓ dX6_set_25 rfl ?_
          refine qz_ishl hΓ dX6_set_26 (by omega) ?_
          refine qa_goto (tgt := 31) hΓ dX6_set_27 (by decide) ?_
          refine qz_ior hΓ dX6_set_31 ?_
          refine qa_istore_n hΓ dX6_set_32 (by decide) ?_
          refine qz_iinc hΓ dX6_set_33 ii_1 rfl (by decide) ?_
          refine qa_goto (tgt := 4) hΓ dX6_set_36 (by decide) ?_
          have e : mk (stB (M 0) x) (i + 1) = mk (stB (M 0) x) i ||| (if stB (M 0) x i then 1 <<< i else 0) := rfl
          simp only [stB, h_21, ne_eq, not_true_eq_false, not_false_eq_true, decide_true, decide_false, if_true, Bool.false_eq_true, if_false] at e
          first | exact e ▸ ih (i + 1) (by omega) (by omega) | exact ih (i + 1) (by omega) (by omega)
  refine qa_iconst (v := nI 0) hΓ dX6_set_0 ic_0 ?_
  refine qa_istore_n hΓ dX6_set_1 (by decide) ?_
  refine qa_iconst (v := nI 0) hΓ dX6_set_2 ic_0 ?_
  refine qa_istore_n hΓ dX6_set_3 (by decide) ?_
  exact loop (M 0 1 + 1) 0 (Nat.zero_le _) (by omega)

set_option maxRecDepth 100000 in
set_option maxHeartbeats 4000000 in
theorem c_X6_closed (l : Launch) (d : Nat) (hd : 1 ≤ d) {n k : Nat} {w : Nat → AC} {M : Bk} (hM : MdAt n w k M) (h8 : M 0 1 ≤ 8) (hb : ∀ r, r < M 0 1 → ∀ x, x < 25 → vv (M 0) r x < 4294967296) : Sq l yX6_closed cX6_closed 4 (some .int) d [aR k] n w (Rs (some (aZ (mk (clB (M 0)) (M 0 1)))) w) := by
  refine Sp.of (plainFor_of_name (by decide)) (Nat.le_of_ble_eq_true rfl) (fun Γ hΓ hR => ?_)
  show Γ 0 [aR k, none, none, none] [] (0, 0) n w
  have loop : ∀ (m i : Nat) (u : AV), i ≤ M 0 1 → M 0 1 < i + m → Γ 4 [aR k, aZ (mk (clB (M 0)) i), aZ i, u] [] (0, 0) n w := by
    intro m
    induction m with
    | zero => intro i u h1 h2; exact absurd h2 (by omega)
    | succ m ih =>
      intro i u hi hm
      refine qa_iload_n hΓ dX6_closed_4 rfl ?_
      refine qa_aload_n hΓ dX6_closed_5 rfl ?_
      refine qa_get hΓ dX6_closed_6 fk_X6_7 hM.lt hM.o rfl ?_
      refine qa_iconst (v := nI 1) hΓ dX6_closed_9 ic_1 ?_
      refine qz_iald hΓ dX6_closed_10 (hM.lti (i := 1) (by decide)) hM.a0 (by omega) (by decide) ?_
      refine qz_icmp_ge (tgt := 80) hΓ dX6_closed_11 (by decide) (by omega) (by omega) (fun h_11 => ?_) (fun h_11 => ?_)
      · refine qa_iload_n hΓ dX6_closed_80 rfl ?_
        exact qr_i hR dX6_closed_81 ⟨by rw [show i = M 0 1 by omega], rfl⟩
      · have hb6 := hb i (by omega) 6 (by decide)
        have hb3 := hb i (by omega) 3 (by decide)
        have hb5 := hb i (by omega) 5 (by decide)
        refine qa_aload_n hΓ dX6_closed_14 rfl ?_
        refine qa_iload_n hΓ dX6_closed_15 rfl ?_
        refine qa_bipush (v := nI 6) hΓ dX6_closed_16 bp_6 ?_
        refine qc_V1 hΓ dX6_closed_18 lk_X6_37 vw_X6_of (by omega) (c_X6_of l (d - 1) hM _ _ (by omega) (by omega)) rfl hM.lt hM.o rfl rfl (Nat.le_of_ble_eq_true rfl) ?_
        refine qa_iconst (v := nI 2) hΓ dX6_closed_21 ic_2 ?_
        refine qz_icmp_eq (tgt := 54) hΓ dX6_closed_22 (by decide) (by omega) (by omega) (fun h_22 => ?_) (fun h_22 => ?_)
        · refine qa_iconst (v := nI 1) hΓ dX6_closed_54 ic_1 ?_
          refine qa_goto (tgt := 59) hΓ dX6_closed_55 (by decide) ?_
          refine qa_istore_n hΓ dX6_closed_59 (by decide) ?_
          refine qa_iload_n hΓ dX6_closed_60 rfl ?_
          refine qa_iload_n hΓ dX6_closed_61 rfl ?_
          refine qz_if_eq (tgt := 71) hΓ dX6_closed_62 (by decide) (by decide) (fun h => absurd h (by decide)) (fun _ => ?_)
          refine qa_iconst (v := nI 1) hΓ dX6_closed_65 ic_1 ?_
          refine qa_iload_n hΓ dX6_closed_66 rfl ?_
          refine qz_ishl hΓ dX6_closed_67 (by omega) ?_
          refine qa_goto (tgt := 72) hΓ dX6_closed_68 (by decide) ?_
          refine qz_ior hΓ dX6_closed_72 ?_
          refine qa_istore_n hΓ dX6_closed_73 (by decide) ?_
          refine qz_iinc hΓ dX6_closed_74 ii_1 rfl (by decide) ?_
          refine qa_goto (tgt := 4) hΓ dX6_closed_77 (by decide) ?_
          have e : mk (clB (M 0)) (i + 1) = mk (clB (M 0)) i ||| (if clB (M 0) i then 1 <<< i else 0) := rfl
          have ec : clB (M 0) i = true := by simp [clB, *]
          rw [ec] at e
          simp only [if_true, Bool.false_eq_true, if_false] at e
          exact e ▸ ih (i + 1) _ (by omega) (by omega)
        · refine qa_aload_n hΓ dX6_closed_25 rfl ?_
          refine qa_iload_n hΓ dX6_closed_26 rfl ?_
          refine qa_bipush (v := nI 6) hΓ dX6_closed_27 bp_6 ?_
          refine qc_V1 hΓ dX6_closed_29 lk_X6_37 vw_X6_of (by omega) (c_X6_of l (d - 1) hM _ _ (by omega) (by omega)) rfl hM.lt hM.o rfl rfl (Nat.le_of_ble_eq_true rfl) ?_
          refine qz_if_ne (tgt := 58) hΓ dX6_closed_32 (by decide) (by omega) (fun h_32 => ?_) (fun h_32 => ?_)
          · refine qa_iconst (v := nI 0) hΓ dX6_closed_58 ic_0 ?_
            refine qa_istore_n hΓ dX6_closed_59 (by decide) ?_
            refine qa_iload_n hΓ dX6_closed_60 rfl ?_
            refine qa_iload_n hΓ dX6_closed_61 rfl ?_
            refine qz_if_eq (tgt := 71) hΓ dX6_closed_62 (by decide) (by decide) (fun _ => ?_) (fun h => absurd h (by decide))
            refine qa_iconst (v := nI 0) hΓ dX6_closed_71 ic_0 ?_
            refine qz_ior hΓ dX6_closed_72 ?_
            refine qa_istore_n hΓ dX6_closed_73 (by decide) ?_
            refine qz_iinc hΓ dX6_closed_74 ii_1 rfl (by decide) ?_
            refine qa_goto (tgt := 4) hΓ dX6_closed_77 (by decide) ?_
            have e : mk (clB (M 0)) (i + 1) = mk (clB (M 0)) i ||| (if clB (M 0) i then 1 <<< i else 0) := rfl
            have ec : clB (M 0) i = false := by simp [clB, *]
            rw [ec] at e
            simp only [if_true, Bool.false_eq_true, if_false] at e
            exact e ▸ ih (i + 1) _ (by omega) (by omega)
          · refine qa_aload_n hΓ dX6_closed_35 rfl ?_
            refine qa_iload_n hΓ dX6_closed_36 rfl ?_
            refine qa_iconst (v := nI 3) hΓ dX6_closed_37 ic_3 ?_
            refine qc_V1 hΓ dX6_closed_38 lk_X6_37 vw_X6_of (by omega) (c_X6_of l (d - 1) hM _ _ (by omega) (by omega)) rfl hM.lt hM.o rfl rfl (Nat.le_of_ble_eq_true rfl) ?_
            refine qa_iconst (v := nI 1) hΓ dX6_closed_41 ic_1 ?_
            refine qz_icmp_ne (tgt := 58) hΓ dX6_closed_42 (by decide) (by omega) (by omega) (fun h_42 => ?_) (fun h_42 => ?_)
            · refine qa_iconst (v := nI 0) hΓ dX6_closed_58 ic_0 ?_
              refine qa_istore_n hΓ dX6_closed_59 (by decide) ?_
              refine qa_iload_n hΓ dX6_closed_60 rfl ?_
              refine qa_iload_n hΓ dX6_closed_61 rfl ?_
              refine qz_if_eq (tgt := 71) hΓ dX6_closed_62 (by decide) (by decide) (fun _ => ?_) (fun h => absurd h (by decide))
              refine qa_iconst (v := nI 0) hΓ dX6_closed_71 ic_0 ?_
              refine qz_ior hΓ dX6_closed_72 ?_
              refine qa_istore_n hΓ dX6_closed_73 (by decide) ?_
              refine qz_iinc hΓ dX6_closed_74 ii_1 rfl (by decide) ?_
              refine qa_goto (tgt := 4) hΓ dX6_closed_77 (by decide) ?_
              have e : mk (clB (M 0)) (i + 1) = mk (clB (M 0)) i ||| (if clB (M 0) i then 1 <<< i else 0) := rfl
              have ec : clB (M 0) i = false := by simp [clB, *]
              rw [ec] at e
              simp only [if_true, Bool.false_eq_true, if_false] at e
              exact e ▸ ih (i + 1) _ (by omega) (by omega)
            · refine qa_aload_n hΓ dX6_closed_45 rfl ?_
              refine qa_iload_n hΓ dX6_closed_46 rfl ?_
              refine qa_iconst (v := nI 5) hΓ dX6_closed_47 ic_5 ?_
              refine qc_V1 hΓ dX6_closed_48 lk_X6_37 vw_X6_of (by omega) (c_X6_of l (d - 1) hM _ _ (by omega) (by omega)) rfl hM.lt hM.o rfl rfl (Nat.le_of_ble_eq_true rfl) ?_
              refine qz_if_ne (tgt := 58) hΓ dX6_closed_51 (by decide) (by omega) (fun h_51 => ?_) (fun h_51 => ?_)
              · refine qa_iconst (v := nI 0) hΓ dX6_closed_58 ic_0 ?_
                refine qa_istore_n hΓ dX6_closed_59 (by decide) ?_
                refine qa_iload_n hΓ dX6_closed_60 rfl ?_
                refine qa_iload_n hΓ dX6_closed_61 rfl ?_
                refine qz_if_eq (tgt := 71) hΓ dX6_closed_62 (by decide) (by decide) (fun _ => ?_) (fun h => absurd h (by decide))
                refine qa_iconst (v := nI 0) hΓ dX6_closed_71 ic_0 ?_
                refine qz_ior hΓ dX6_closed_72 ?_
                refine qa_istore_n hΓ dX6_closed_73 (by decide) ?_
                refine qz_iinc hΓ dX6_closed_74 ii_1 rfl (by decide) ?_
                refine qa_goto (tgt := 4) hΓ dX6_closed_77 (by decide) ?_
                have e : mk (clB (M 0)) (i + 1) = mk (clB (M 0)) i ||| (if clB (M 0) i then 1 <<< i else 0) := rfl
                have ec : clB (M 0) i = false := by simp [clB, *]
                rw [ec] at e
                simp only [if_true, Bool.false_eq_true, if_false] at e
                exact e ▸ ih (i + 1) _ (by omega) (by omega)
              · refine qa_iconst (v := nI 1) hΓ dX6_closed_54 ic_1 ?_
                refine qa_goto (tgt := 59) hΓ dX6_closed_55 (by decide) ?_
                refine qa_istore_n hΓ dX6_closed_59 (by decide) ?_
                refine qa_iload_n hΓ dX6_closed_60 rfl ?_
                refine qa_iload_n hΓ dX6_closed_61 rfl ?_
                refine qz_if_eq (tgt := 71) hΓ dX6_closed_62 (by decide) (by decide) (fun h => absurd h (by decide)) (fun _ => ?_)
                refine qa_iconst (v := nI 1) hΓ dX6_closed_65 ic_1 ?_
                refine qa_iload_n hΓ dX6_closed_66 rfl ?_
                refine qz_ishl hΓ dX6_closed_67 (by omega) ?_
                refine qa_goto (tgt := 72) hΓ dX6_closed_68 (by decide) ?_
                refine qz_ior hΓ dX6_closed_72 ?_
                refine qa_istore_n hΓ dX6_closed_73 (by decide) ?_
                refine qz_iinc hΓ dX6_closed_74 ii_1 rfl (by decide) ?_
                refine qa_goto (tgt := 4) hΓ dX6_closed_77 (by decide) ?_
                have e : mk (clB (M 0)) (i + 1) = mk (clB (M 0)) i ||| (if clB (M 0) i then 1 <<< i else 0) := rfl
                have ec : clB (M 0) i = true := by simp [clB, *]
                rw [ec] at e
                simp only [if_true, Bool.false_eq_true, if_false] at e
                exact e ▸ ih (i + 1) _ (by omega) (by omega)
  refine qa_iconst (v := nI 0) hΓ dX6_closed_0 ic_0 ?_
  refine qa_istore_n hΓ dX6_closed_1 (by decide) ?_
  refine qa_iconst (v := nI 0) hΓ dX6_closed_2 ic_0 ?_
  refine qa_istore_n hΓ dX6_closed_3 (by decide) ?_
  exact loop (M 0 1 + 1) 0 _ (Nat.zero_le _) (by omega)

set_option maxRecDepth 100000 in
set_option maxHeartbeats 4000000 in
theorem c_X6_conducts (l : Launch) (d : Nat) (hd : 1 ≤ d) {n k : Nat} {w : Nat → AC} {M : Bk} (hM : MdAt n w k M) (r on : Nat) (hr : r < 8) (hm6 : vv (M 0) r 12 ≤ 6) (hb : ∀ x, x < 25 → vv (M 0) r x < 4294967296) : Sq l yX6_conducts cX6_conducts 7 (some .boolean) d [aR k, aZ r, aZ on] n w (Rs (some (aZ (cnd (M 0) r on).toNat)) w) := by
  refine Sp.of (plainFor_of_name (by decide)) (Nat.le_of_ble_eq_true rfl) (fun Γ hΓ hR => ?_)
  show Γ 0 [aR k, aZ r, aZ on, none, none, none, none] [] (0, 0) n w
  have loop : ∀ (m i : Nat) (u v : AV), i ≤ vv (M 0) r 12 → vv (M 0) r 12 < i + m → Γ 5 [aR k, aZ r, aZ on, aZ (cdB (M 0) r on i).toNat, aZ i, u, v] [] (0, 0) n w := by
    intro m
    induction m with
    | zero => intro i u v h1 h2; exact absurd h2 (by omega)
    | succ m ih =>
      intro i u v hi hm
      refine qa_iload hΓ dX6_conducts_5 rfl ?_
      have hb12 := hb 12 (by decide)
      refine qa_aload_n hΓ dX6_conducts_7 rfl ?_
      refine qa_iload_n hΓ dX6_conducts_8 rfl ?_
      refine qa_bipush (v := nI 12) hΓ dX6_conducts_9 bp_12 ?_
      refine qc_V1 hΓ dX6_conducts_11 lk_X6_37 vw_X6_of (by omega) (c_X6_of l (d - 1) hM _ _ (by omega) (by omega)) rfl hM.lt hM.o rfl rfl (Nat.le_of_ble_eq_true rfl) ?_
      refine qz_icmp_ge (tgt := 79) hΓ dX6_conducts_14 (by decide) (by omega) (by omega) (fun h_14 => ?_) (fun h_14 => ?_)
      · refine qa_iload_n hΓ dX6_conducts_79 rfl ?_
        exact qr_b hR dX6_conducts_80 ⟨by rw [show i = vv (M 0) r 12 by omega]; rfl, rfl⟩
      · have hbp := hb (13 + 2 * i) (by omega)
        have hbi := hb (13 + 2 * i + 1) (by omega)
        refine qa_aload_n hΓ dX6_conducts_17 rfl ?_
        refine qa_iload_n hΓ dX6_conducts_18 rfl ?_
        refine qa_bipush (v := nI 13) hΓ dX6_conducts_19 bp_13 ?_
        refine qa_iconst (v := nI 2) hΓ dX6_conducts_21 ic_2 ?_
        refine qa_iload hΓ dX6_conducts_22 rfl ?_
        refine qz_imul hΓ dX6_conducts_24 ?_
        refine qz_iadd hΓ dX6_conducts_25 ?_
        refine qc_V1 hΓ dX6_conducts_26 lk_X6_37 vw_X6_of (by omega) (c_X6_of l (d - 1) hM _ _ (by omega) (by omega)) rfl hM.lt hM.o rfl rfl (Nat.le_of_ble_eq_true rfl) ?_
        refine qa_istore hΓ dX6_conducts_29 (by decide) ?_
        refine qa_aload_n hΓ dX6_conducts_31 rfl ?_
        refine qa_iload_n hΓ dX6_conducts_32 rfl ?_
        refine qa_bipush (v := nI 13) hΓ dX6_conducts_33 bp_13 ?_
        refine qa_iconst (v := nI 2) hΓ dX6_conducts_35 ic_2 ?_
        refine qa_iload hΓ dX6_conducts_36 rfl ?_
        refine qz_imul hΓ dX6_conducts_38 ?_
        refine qz_iadd hΓ dX6_conducts_39 ?_
        refine qa_iconst (v := nI 1) hΓ dX6_conducts_40 ic_1 ?_
        refine qz_iadd hΓ dX6_conducts_41 ?_
        refine qc_V1 hΓ dX6_conducts_42 lk_X6_37 vw_X6_of (by omega) (c_X6_of l (d - 1) hM _ _ (by omega) (by omega)) rfl hM.lt hM.o rfl rfl (Nat.le_of_ble_eq_true rfl) ?_
        refine qa_istore hΓ dX6_conducts_45 (by decide) ?_
        refine qa_iload_n hΓ dX6_conducts_47 rfl ?_
        refine qb_if_ne (tgt := 67) hΓ dX6_conducts_48 (by decide) (fun h_48 => ?_) (fun h_48 => ?_)
        · refine qa_iconst (v := nI 1) hΓ dX6_conducts_67 ic_1 ?_
          refine qa_goto (tgt := 72) hΓ dX6_conducts_68 (by decide) ?_
          refine qa_istore_n hΓ dX6_conducts_72 (by decide) ?_
          refine qz_iinc hΓ dX6_conducts_73 ii_1 rfl (by decide) ?_
          refine qa_goto (tgt := 5) hΓ dX6_conducts_76 (by decide) ?_
          have e : cdB (M 0) r on (i + 1) = (cdB (M 0) r on i || brB (M 0) r on i) := rfl
          have ec : cdB (M 0) r on (i + 1) = true := by
            rw [e]
            simp [brB, *]
          have h9 := ih (i + 1) (aZ (vv (M 0) r (13 + 2 * i))) (aZ (vv (M 0) r (13 + 2 * i + 1))) (by omega) (by omega)
          rw [ec] at h9
          exact h9
        · refine qa_iload hΓ dX6_conducts_51 rfl ?_
          refine qa_iload_n hΓ dX6_conducts_53 rfl ?_
          refine qa_iconst (v := (-1)) hΓ dX6_conducts_54 ic_m1 ?_
          refine qa_ixor hΓ dX6_conducts_55 ?_
          refine qa_iand hΓ dX6_conducts_56 ?_
          refine qa_if_ne (tgt := 71) hΓ dX6_conducts_57 (by decide) (fun h_57 => ?_) (fun h_57 => ?_)
          · have h_57 := mt (land_not hbp).mpr h_57
            refine qa_iconst (v := nI 0) hΓ dX6_conducts_71 ic_0 ?_
            refine qa_istore_n hΓ dX6_conducts_72 (by decide) ?_
            refine qz_iinc hΓ dX6_conducts_73 ii_1 rfl (by decide) ?_
            refine qa_goto (tgt := 5) hΓ dX6_conducts_76 (by decide) ?_
            have e : cdB (M 0) r on (i + 1) = (cdB (M 0) r on i || brB (M 0) r on i) := rfl
            have ec : cdB (M 0) r on (i + 1) = false := by
              rw [e]
              simp [brB, *]
            have h9 := ih (i + 1) (aZ (vv (M 0) r (13 + 2 * i))) (aZ (vv (M 0) r (13 + 2 * i + 1))) (by omega) (by omega)
            rw [ec] at h9
            exact h9
          · have h_57 := (land_not hbp).mp h_57
            refine qa_iload hΓ dX6_conducts_60 rfl ?_
            refine qa_iload_n hΓ dX6_conducts_62 rfl ?_
            refine qz_iand hΓ dX6_conducts_63 ?_
            
            refine qz_if_ne (tgt := 71) hΓ dX6_conducts_64 (by decide) (Nat.lt_of_le_of_lt Nat.and_le_left hbi) (fun h_64 => ?_) (fun h_64 => ?_)
            · refine qa_iconst (v := nI 0) hΓ dX6_conducts_71 ic_0 ?_
              refine qa_istore_n hΓ dX6_conducts_72 (by decide) ?_
              refine qz_iinc hΓ dX6_conducts_73 ii_1 rfl (by decide) ?_
              refine qa_goto (tgt := 5) hΓ dX6_conducts_76 (by decide) ?_
              have e : cdB (M 0) r on (i + 1) = (cdB (M 0) r on i || brB (M 0) r on i) := rfl
              have ec : cdB (M 0) r on (i + 1) = false := by
                rw [e]
                simp [brB, *]
              have h9 := ih (i + 1) (aZ (vv (M 0) r (13 + 2 * i))) (aZ (vv (M 0) r (13 + 2 * i + 1))) (by omega) (by omega)
              rw [ec] at h9
              exact h9
            · refine qa_iconst (v := nI 1) hΓ dX6_conducts_67 ic_1 ?_
              refine qa_goto (tgt := 72) hΓ dX6_conducts_68 (by decide) ?_
              refine qa_istore_n hΓ dX6_conducts_72 (by decide) ?_
              refine qz_iinc hΓ dX6_conducts_73 ii_1 rfl (by decide) ?_
              refine qa_goto (tgt := 5) hΓ dX6_conducts_76 (by decide) ?_
              have e : cdB (M 0) r on (i + 1) = (cdB (M 0) r on i || brB (M 0) r on i) := rfl
              have ec : cdB (M 0) r on (i + 1) = true := by
                rw [e]
                simp [brB, *]
              have h9 := ih (i + 1) (aZ (vv (M 0) r (13 + 2 * i))) (aZ (vv (M 0) r (13 + 2 * i + 1))) (by omega) (by omega)
              rw [ec] at h9
              exact h9
  refine qa_iconst (v := nI 0) hΓ dX6_conducts_0 ic_0 ?_
  refine qa_istore_n hΓ dX6_conducts_1 (by decide) ?_
  refine qa_iconst (v := nI 0) hΓ dX6_conducts_2 ic_0 ?_
  refine qa_istore hΓ dX6_conducts_3 (by decide) ?_
  exact loop (vv (M 0) r 12 + 1) 0 _ _ (Nat.zero_le _) (by omega)

theorem c_X6_ofE (l : Launch) (d : Nat) {n k : Nat} {w : Nat → AC} {M : Bk} (hM : MdAt n w k M) (r x : Nat) (hr : r < 8) (hx : x < 25) {y : Nat} (e : vv (M 0) r x = y) : Sq l yX6_of cX6_of 3 (some .int) d [aR k, aZ r, aZ x] n w (Rs (some (aZ y)) w) := by
  subst e
  exact c_X6_of l d hM r x hr hx
theorem bdF_le (B x : Nat) : bdF B x ≤ B + 65535 := by
  unfold bdF
  repeat' split
  all_goals omega
set_option maxRecDepth 100000 in
set_option maxHeartbeats 4000000 in
theorem c_X6_looks (l : Launch) (d : Nat) (hd : 2 ≤ d) {n k : Nat} {w : Nat → AC} {M : Bk} (hM : MdAt n w k M) {B : Nat} (hW : Wt (M 0) B) (hB : B < 2000000000) : Sq l yX6_looks cX6_looks 6 (some .int) d [aR k] n w (Qv (aZ (lks (M 0)).1) (PS n k M (lks (M 0)).2 w)) := by
  refine Sp.of (plainFor_of_name (by decide)) (Nat.le_of_ble_eq_true rfl) (fun Γ hΓ hR => ?_)
  show Γ 0 [aR k, none, none, none, none, none] [] (0, 0) n w
  have h8 : M 0 1 ≤ 8 := hW.2.1
  have hon : onS (M 0) < 65536 := on_lt hW
  have loop : ∀ (m i : Nat) (w1 : Nat → AC) (M1 : Bk) (u v : AV), i ≤ M 0 1 → M 0 1 < i + m → MdAt n w1 k M1 → Mup M (lk (onS (M 0)) (M 0) i).2 M1 → Fr k 6 w w1 → Γ 19 [aR k, aZ (onS (M 0)), aZ (lk (onS (M 0)) (M 0) i).1, aZ i, u, v] [] (0, 0) n w1 := by
    intro m
    induction m with
    | zero => intro i w1 M1 u v h1 h2; exact absurd h2 (by omega)
    | succ m ih =>
      intro i w M1 u v hi hm hM hU hF0
      have e1 : M1 0 1 = M 0 1 := by rw [hU.1]; exact lk_hd _ _ (by decide) i
      have e2 : M1 0 2 = M 0 2 := by rw [hU.1]; exact lk_hd _ _ (by decide) i
      refine qa_iload_n hΓ dX6_looks_19 rfl ?_
      refine qa_aload_n hΓ dX6_looks_20 rfl ?_
      refine qa_get hΓ dX6_looks_21 fk_X6_7 hM.lt hM.o rfl ?_
      refine qa_iconst (v := nI 1) hΓ dX6_looks_24 ic_1 ?_
      refine qz_iald hΓ dX6_looks_25 (hM.lti (i := 1) (by decide)) hM.a0 (by omega) (by decide) ?_
      refine qz_icmp_ge (tgt := 180) hΓ dX6_looks_26 (by decide) (by omega) (by omega) (fun h_26 => ?_) (fun h_26 => ?_)
      · refine qa_iload_n hΓ dX6_looks_180 rfl ?_
        exact qr_i hR dX6_looks_181 ⟨by rw [show i = M 0 1 by omega]; rfl, M1, hM, by rw [show i = M 0 1 by omega] at hU; exact hU, hF0⟩
      · have hb : ∀ x, x < 25 → vv (M1 0) i x ≤ B + 65555 := fun x hx => by
          rw [hU.1, lk_ge _ _ hx i (Nat.le_refl i)]
          have h1 := hW.b (show i < M 0 1 by omega) hx
          omega
        have hb12 : vv (M1 0) i 12 ≤ 6 := by
          rw [hU.1, lk_ge _ _ (by decide) i (Nat.le_refl i)]
          have h1 := hW.2.2.2 i (by omega) 12 (by decide)
          simpa [bdF] using h1
        have hb3 := hb 3 (by decide)
        have hb4 := hb 4 (by decide)
        have hb8 := hb 8 (by decide)
        refine qa_aload_n hΓ dX6_looks_29 rfl ?_
        refine qa_iload_n hΓ dX6_looks_30 rfl ?_
        refine qa_iload_n hΓ dX6_looks_31 rfl ?_
        refine qc_V1 hΓ dX6_looks_32 lk_X6_45 vw_X6_conducts (by omega) (c_X6_conducts l (d - 1) (by omega) hM i (onS (M 0)) (by omega) (by omega) (fun x hx => by have := hb x hx; omega)) rfl hM.lt hM.o rfl rfl (Nat.le_of_ble_eq_true rfl) ?_
        refine qb_if_eq (tgt := 42) hΓ dX6_looks_35 (by decide) (fun h_35 => ?_) (fun h_35 => ?_)
        · refine qa_iconst (v := nI 0) hΓ dX6_looks_42 ic_0 ?_
          refine qa_istore hΓ dX6_looks_43 (by decide) ?_
          refine qa_iload hΓ dX6_looks_45 rfl ?_
          refine qa_aload_n hΓ dX6_looks_47 rfl ?_
          refine qa_iload_n hΓ dX6_looks_48 rfl ?_
          refine qa_iconst (v := nI 4) hΓ dX6_looks_49 ic_4 ?_
          refine qc_V1 hΓ dX6_looks_50 lk_X6_37 vw_X6_of (by omega) (c_X6_of l (d - 1) hM _ _ (by omega) (by omega)) rfl hM.lt hM.o rfl rfl (Nat.le_of_ble_eq_true rfl) ?_
          refine qz_icmp_eq (tgt := 174) hΓ dX6_looks_53 (by decide) (by omega) (by omega) (fun h_53 => ?_) (fun h_53 => ?_)
          · refine qz_iinc hΓ dX6_looks_174 ii_1 rfl (by decide) ?_
            refine qa_goto (tgt := 19) hΓ dX6_looks_177 (by decide) ?_
            have e : lk (onS (M 0)) (M 0) (i + 1) = lk (onS (M 0)) (M 0) i := by
              show (if _ then _ else _) = _
              rw [← hU.1, h_35]
              exact if_pos h_53
            have h9 := ih (i + 1) w M1 (aZ 0) v (by omega) (by omega) hM (by rw [e]; exact hU) hF0
            rw [e] at h9
            exact h9
          · refine qz_iinc hΓ dX6_looks_56 ii_1 rfl (by decide) ?_
            refine qa_aload_n hΓ dX6_looks_59 rfl ?_
            refine qa_iload_n hΓ dX6_looks_60 rfl ?_
            refine qa_iconst (v := nI 4) hΓ dX6_looks_61 ic_4 ?_
            refine qa_iload hΓ dX6_looks_62 rfl ?_
            refine qc_V0q hΓ dX6_looks_64 lk_X6_49 vw_X6_puts (by omega) (c_X6_puts l (d - 1) hM _ _ _ (by omega) (by omega)) rfl hM.lt hM.o rfl rfl (Nat.le_of_ble_eq_true rfl) (fun w hq => ?_)
            obtain ⟨hM, hF⟩ := hq
            have hF0 := hF0.tr hF
            refine qa_aload_n hΓ dX6_looks_67 rfl ?_
            refine qa_iload_n hΓ dX6_looks_68 rfl ?_
            refine qa_iconst (v := nI 3) hΓ dX6_looks_69 ic_3 ?_
            refine qc_V1 hΓ dX6_looks_70 lk_X6_37 vw_X6_of (by omega) (c_X6_ofE l (d - 1) hM i 3 (by omega) (by decide) (y := vv (M1 0) i 3) (by simp [sset, bset_eq, vv_up])) rfl hM.lt hM.o rfl rfl (Nat.le_of_ble_eq_true rfl) ?_
            refine qa_iload hΓ dX6_looks_73 rfl ?_
            refine qz_icmp_eq (tgt := 82) hΓ dX6_looks_75 (by decide) (by omega) (by omega) (fun h_75 => ?_) (fun h_75 => ?_)
            · refine qa_iconst (v := nI 0) hΓ dX6_looks_82 ic_0 ?_
              refine qa_istore hΓ dX6_looks_83 (by decide) ?_
              refine qa_aload_n hΓ dX6_looks_85 rfl ?_
              refine qa_iload_n hΓ dX6_looks_86 rfl ?_
              refine qa_bipush (v := nI 8) hΓ dX6_looks_87 bp_8 ?_
              refine qa_iload hΓ dX6_looks_89 rfl ?_
              refine qz_if_eq (tgt := 101) hΓ dX6_looks_91 (by decide) (by decide) (fun _ => ?_) (fun h => absurd h (by decide))
              refine qa_aload_n hΓ dX6_looks_101 rfl ?_
              refine qa_iload_n hΓ dX6_looks_102 rfl ?_
              refine qa_bipush (v := nI 8) hΓ dX6_looks_103 bp_8 ?_
              refine qc_V1 hΓ dX6_looks_105 lk_X6_37 vw_X6_of (by omega) (c_X6_ofE l (d - 1) hM i 8 (by omega) (by decide) (y := vv (M1 0) i 8) (by simp [sset, bset_eq, vv_up])) rfl hM.lt hM.o rfl rfl (Nat.le_of_ble_eq_true rfl) ?_
              refine qa_iconst (v := nI 1) hΓ dX6_looks_108 ic_1 ?_
              refine qa_iload hΓ dX6_looks_109 rfl ?_
              refine qz_iadd hΓ dX6_looks_111 ?_
              refine qz_icmp_ne (tgt := 119) hΓ dX6_looks_112 (by decide) (by omega) (by omega) (fun h_112 => ?_) (fun h_112 => ?_)
              · refine qa_aload_n hΓ dX6_looks_119 rfl ?_
                refine qa_iload_n hΓ dX6_looks_120 rfl ?_
                refine qa_bipush (v := nI 8) hΓ dX6_looks_121 bp_8 ?_
                refine qc_V1 hΓ dX6_looks_123 lk_X6_37 vw_X6_of (by omega) (c_X6_ofE l (d - 1) hM i 8 (by omega) (by decide) (y := vv (M1 0) i 8) (by simp [sset, bset_eq, vv_up])) rfl hM.lt hM.o rfl rfl (Nat.le_of_ble_eq_true rfl) ?_
                refine qc_V0q hΓ dX6_looks_126 lk_X6_49 vw_X6_puts (by omega) (c_X6_puts l (d - 1) hM _ _ _ (by omega) (by omega)) rfl hM.lt hM.o rfl rfl (Nat.le_of_ble_eq_true rfl) (fun w hq => ?_)
                obtain ⟨hM, hF⟩ := hq
                have hF0 := hF0.tr hF
                refine qa_aload_n hΓ dX6_looks_129 rfl ?_
                refine qa_iload_n hΓ dX6_looks_130 rfl ?_
                refine qa_bipush (v := nI 9) hΓ dX6_looks_131 bp_9 ?_
                refine qa_iload hΓ dX6_looks_133 rfl ?_
                refine qz_if_eq (tgt := 164) hΓ dX6_looks_135 (by decide) (by decide) (fun _ => ?_) (fun h => absurd h (by decide))
                refine qa_aload_n hΓ dX6_looks_164 rfl ?_
                refine qa_iload_n hΓ dX6_looks_165 rfl ?_
                refine qa_bipush (v := nI 9) hΓ dX6_looks_166 bp_9 ?_
                refine qc_V1 hΓ dX6_looks_168 lk_X6_37 vw_X6_of (by omega) (c_X6_ofE l (d - 1) hM i 9 (by omega) (by decide) (y := vv (M1 0) i 9) (by simp [sset, bset_eq, vv_up])) rfl hM.lt hM.o rfl rfl (Nat.le_of_ble_eq_true rfl) ?_
                refine qc_V0q hΓ dX6_looks_171 lk_X6_49 vw_X6_puts (by omega) (c_X6_puts l (d - 1) hM _ _ _ (by omega) (by omega)) rfl hM.lt hM.o rfl rfl (Nat.le_of_ble_eq_true rfl) (fun w hq => ?_)
                obtain ⟨hM, hF⟩ := hq
                have hF0 := hF0.tr hF
                refine qz_iinc hΓ dX6_looks_174 ii_1 rfl (by decide) ?_
                refine qa_goto (tgt := 19) hΓ dX6_looks_177 (by decide) ?_
                have e : lk (onS (M 0)) (M 0) (i + 1) = ((lk (onS (M 0)) (M 0) i).1 + 1, lkT 0 (M1 0) i) := by
                  show (if _ then _ else _) = _
                  rw [← hU.1, h_35]
                  exact if_neg h_53
                have h9 := ih (i + 1) w _ (aZ 0) (aZ 0) (by omega) (by omega) hM (by
                  rw [e]
                  refine hU.three _ _ _ _ _ _ ?_
                  simp [lkT, sset, bset_eq, vv_up, upN, *]) hF0
                rw [e] at h9
                exact h9
              · refine qa_iconst (v := nI 0) hΓ dX6_looks_115 ic_0 ?_
                refine qa_goto (tgt := 126) hΓ dX6_looks_116 (by decide) ?_
                refine qc_V0q hΓ dX6_looks_126 lk_X6_49 vw_X6_puts (by omega) (c_X6_puts l (d - 1) hM _ _ _ (by omega) (by omega)) rfl hM.lt hM.o rfl rfl (Nat.le_of_ble_eq_true rfl) (fun w hq => ?_)
                obtain ⟨hM, hF⟩ := hq
                have hF0 := hF0.tr hF
                refine qa_aload_n hΓ dX6_looks_129 rfl ?_
                refine qa_iload_n hΓ dX6_looks_130 rfl ?_
                refine qa_bipush (v := nI 9) hΓ dX6_looks_131 bp_9 ?_
                refine qa_iload hΓ dX6_looks_133 rfl ?_
                refine qz_if_eq (tgt := 164) hΓ dX6_looks_135 (by decide) (by decide) (fun _ => ?_) (fun h => absurd h (by decide))
                refine qa_aload_n hΓ dX6_looks_164 rfl ?_
                refine qa_iload_n hΓ dX6_looks_165 rfl ?_
                refine qa_bipush (v := nI 9) hΓ dX6_looks_166 bp_9 ?_
                refine qc_V1 hΓ dX6_looks_168 lk_X6_37 vw_X6_of (by omega) (c_X6_ofE l (d - 1) hM i 9 (by omega) (by decide) (y := vv (M1 0) i 9) (by simp [sset, bset_eq, vv_up])) rfl hM.lt hM.o rfl rfl (Nat.le_of_ble_eq_true rfl) ?_
                refine qc_V0q hΓ dX6_looks_171 lk_X6_49 vw_X6_puts (by omega) (c_X6_puts l (d - 1) hM _ _ _ (by omega) (by omega)) rfl hM.lt hM.o rfl rfl (Nat.le_of_ble_eq_true rfl) (fun w hq => ?_)
                obtain ⟨hM, hF⟩ := hq
                have hF0 := hF0.tr hF
                refine qz_iinc hΓ dX6_looks_174 ii_1 rfl (by decide) ?_
                refine qa_goto (tgt := 19) hΓ dX6_looks_177 (by decide) ?_
                have e : lk (onS (M 0)) (M 0) (i + 1) = ((lk (onS (M 0)) (M 0) i).1 + 1, lkT 0 (M1 0) i) := by
                  show (if _ then _ else _) = _
                  rw [← hU.1, h_35]
                  exact if_neg h_53
                have h9 := ih (i + 1) w _ (aZ 0) (aZ 0) (by omega) (by omega) hM (by
                  rw [e]
                  refine hU.three _ _ _ _ _ _ ?_
                  simp [lkT, sset, bset_eq, vv_up, upN, *]) hF0
                rw [e] at h9
                exact h9
            · refine qa_iconst (v := nI 1) hΓ dX6_looks_78 ic_1 ?_
              refine qa_goto (tgt := 83) hΓ dX6_looks_79 (by decide) ?_
              refine qa_istore hΓ dX6_looks_83 (by decide) ?_
              refine qa_aload_n hΓ dX6_looks_85 rfl ?_
              refine qa_iload_n hΓ dX6_looks_86 rfl ?_
              refine qa_bipush (v := nI 8) hΓ dX6_looks_87 bp_8 ?_
              refine qa_iload hΓ dX6_looks_89 rfl ?_
              refine qz_if_eq (tgt := 101) hΓ dX6_looks_91 (by decide) (by decide) (fun h => absurd h (by decide)) (fun _ => ?_)
              refine qa_iconst (v := nI 2) hΓ dX6_looks_94 ic_2 ?_
              refine qa_iload hΓ dX6_looks_95 rfl ?_
              refine qz_isub hΓ dX6_looks_97 (by omega) ?_
              refine qa_goto (tgt := 126) hΓ dX6_looks_98 (by decide) ?_
              refine qc_V0q hΓ dX6_looks_126 lk_X6_49 vw_X6_puts (by omega) (c_X6_puts l (d - 1) hM _ _ _ (by omega) (by omega)) rfl hM.lt hM.o rfl rfl (Nat.le_of_ble_eq_true rfl) (fun w hq => ?_)
              obtain ⟨hM, hF⟩ := hq
              have hF0 := hF0.tr hF
              refine qa_aload_n hΓ dX6_looks_129 rfl ?_
              refine qa_iload_n hΓ dX6_looks_130 rfl ?_
              refine qa_bipush (v := nI 9) hΓ dX6_looks_131 bp_9 ?_
              refine qa_iload hΓ dX6_looks_133 rfl ?_
              refine qz_if_eq (tgt := 164) hΓ dX6_looks_135 (by decide) (by decide) (fun h => absurd h (by decide)) (fun _ => ?_)
              refine qa_aload_n hΓ dX6_looks_138 rfl ?_
              refine qa_get hΓ dX6_looks_139 fk_X6_7 hM.lt hM.o rfl ?_
              refine qa_iconst (v := nI 2) hΓ dX6_looks_142 ic_2 ?_
              refine qz_iald hΓ dX6_looks_143 (hM.lti (i := 1) (by decide)) hM.a0 (by omega) (by decide) ?_
              refine qa_aload_n hΓ dX6_looks_144 rfl ?_
              refine qa_iload_n hΓ dX6_looks_145 rfl ?_
              refine qa_iload hΓ dX6_looks_146 rfl ?_
              refine qa_iconst (v := nI 1) hΓ dX6_looks_148 ic_1 ?_
              refine qz_icmp_ne (tgt := 156) hΓ dX6_looks_149 (by decide) (by decide) (by decide) (fun _ => ?_) (fun h => absurd h (by decide))
              refine qa_iconst (v := nI 1) hΓ dX6_looks_156 ic_1 ?_
              refine qc_V1 hΓ dX6_looks_157 lk_X6_37 vw_X6_of (by omega) (c_X6_ofE l (d - 1) hM i 1 (by omega) (by decide) (y := vv (M1 0) i 1) (by simp [sset, bset_eq, vv_up])) rfl hM.lt hM.o rfl rfl (Nat.le_of_ble_eq_true rfl) ?_
              refine qz_iadd hΓ dX6_looks_160 ?_
              refine qa_goto (tgt := 171) hΓ dX6_looks_161 (by decide) ?_
              refine qc_V0q hΓ dX6_looks_171 lk_X6_49 vw_X6_puts (by omega) (c_X6_puts l (d - 1) hM _ _ _ (by omega) (by omega)) rfl hM.lt hM.o rfl rfl (Nat.le_of_ble_eq_true rfl) (fun w hq => ?_)
              obtain ⟨hM, hF⟩ := hq
              have hF0 := hF0.tr hF
              refine qz_iinc hΓ dX6_looks_174 ii_1 rfl (by decide) ?_
              refine qa_goto (tgt := 19) hΓ dX6_looks_177 (by decide) ?_
              have e : lk (onS (M 0)) (M 0) (i + 1) = ((lk (onS (M 0)) (M 0) i).1 + 1, lkT 0 (M1 0) i) := by
                show (if _ then _ else _) = _
                rw [← hU.1, h_35]
                exact if_neg h_53
              have h9 := ih (i + 1) w _ (aZ 0) (aZ 1) (by omega) (by omega) hM (by
                rw [e]
                refine hU.three _ _ _ _ _ _ ?_
                simp [lkT, sset, bset_eq, vv_up, upN, *]) hF0
              rw [e] at h9
              exact h9
        · refine qa_iconst (v := nI 1) hΓ dX6_looks_38 ic_1 ?_
          refine qa_goto (tgt := 43) hΓ dX6_looks_39 (by decide) ?_
          refine qa_istore hΓ dX6_looks_43 (by decide) ?_
          refine qa_iload hΓ dX6_looks_45 rfl ?_
          refine qa_aload_n hΓ dX6_looks_47 rfl ?_
          refine qa_iload_n hΓ dX6_looks_48 rfl ?_
          refine qa_iconst (v := nI 4) hΓ dX6_looks_49 ic_4 ?_
          refine qc_V1 hΓ dX6_looks_50 lk_X6_37 vw_X6_of (by omega) (c_X6_of l (d - 1) hM _ _ (by omega) (by omega)) rfl hM.lt hM.o rfl rfl (Nat.le_of_ble_eq_true rfl) ?_
          refine qz_icmp_eq (tgt := 174) hΓ dX6_looks_53 (by decide) (by omega) (by omega) (fun h_53 => ?_) (fun h_53 => ?_)
          · refine qz_iinc hΓ dX6_looks_174 ii_1 rfl (by decide) ?_
            refine qa_goto (tgt := 19) hΓ dX6_looks_177 (by decide) ?_
            have e : lk (onS (M 0)) (M 0) (i + 1) = lk (onS (M 0)) (M 0) i := by
              show (if _ then _ else _) = _
              rw [← hU.1, h_35]
              exact if_pos h_53
            have h9 := ih (i + 1) w M1 (aZ 1) v (by omega) (by omega) hM (by rw [e]; exact hU) hF0
            rw [e] at h9
            exact h9
          · refine qz_iinc hΓ dX6_looks_56 ii_1 rfl (by decide) ?_
            refine qa_aload_n hΓ dX6_looks_59 rfl ?_
            refine qa_iload_n hΓ dX6_looks_60 rfl ?_
            refine qa_iconst (v := nI 4) hΓ dX6_looks_61 ic_4 ?_
            refine qa_iload hΓ dX6_looks_62 rfl ?_
            refine qc_V0q hΓ dX6_looks_64 lk_X6_49 vw_X6_puts (by omega) (c_X6_puts l (d - 1) hM _ _ _ (by omega) (by omega)) rfl hM.lt hM.o rfl rfl (Nat.le_of_ble_eq_true rfl) (fun w hq => ?_)
            obtain ⟨hM, hF⟩ := hq
            have hF0 := hF0.tr hF
            refine qa_aload_n hΓ dX6_looks_67 rfl ?_
            refine qa_iload_n hΓ dX6_looks_68 rfl ?_
            refine qa_iconst (v := nI 3) hΓ dX6_looks_69 ic_3 ?_
            refine qc_V1 hΓ dX6_looks_70 lk_X6_37 vw_X6_of (by omega) (c_X6_ofE l (d - 1) hM i 3 (by omega) (by decide) (y := vv (M1 0) i 3) (by simp [sset, bset_eq, vv_up])) rfl hM.lt hM.o rfl rfl (Nat.le_of_ble_eq_true rfl) ?_
            refine qa_iload hΓ dX6_looks_73 rfl ?_
            refine qz_icmp_eq (tgt := 82) hΓ dX6_looks_75 (by decide) (by omega) (by omega) (fun h_75 => ?_) (fun h_75 => ?_)
            · refine qa_iconst (v := nI 0) hΓ dX6_looks_82 ic_0 ?_
              refine qa_istore hΓ dX6_looks_83 (by decide) ?_
              refine qa_aload_n hΓ dX6_looks_85 rfl ?_
              refine qa_iload_n hΓ dX6_looks_86 rfl ?_
              refine qa_bipush (v := nI 8) hΓ dX6_looks_87 bp_8 ?_
              refine qa_iload hΓ dX6_looks_89 rfl ?_
              refine qz_if_eq (tgt := 101) hΓ dX6_looks_91 (by decide) (by decide) (fun _ => ?_) (fun h => absurd h (by decide))
              refine qa_aload_n hΓ dX6_looks_101 rfl ?_
              refine qa_iload_n hΓ dX6_looks_102 rfl ?_
              refine qa_bipush (v := nI 8) hΓ dX6_looks_103 bp_8 ?_
              refine qc_V1 hΓ dX6_looks_105 lk_X6_37 vw_X6_of (by omega) (c_X6_ofE l (d - 1) hM i 8 (by omega) (by decide) (y := vv (M1 0) i 8) (by simp [sset, bset_eq, vv_up])) rfl hM.lt hM.o rfl rfl (Nat.le_of_ble_eq_true rfl) ?_
              refine qa_iconst (v := nI 1) hΓ dX6_looks_108 ic_1 ?_
              refine qa_iload hΓ dX6_looks_109 rfl ?_
              refine qz_iadd hΓ dX6_looks_111 ?_
              refine qz_icmp_ne (tgt := 119) hΓ dX6_looks_112 (by decide) (by omega) (by omega) (fun h_112 => ?_) (fun h_112 => ?_)
              · refine qa_aload_n hΓ dX6_looks_119 rfl ?_
                refine qa_iload_n hΓ dX6_looks_120 rfl ?_
                refine qa_bipush (v := nI 8) hΓ dX6_looks_121 bp_8 ?_
                refine qc_V1 hΓ dX6_looks_123 lk_X6_37 vw_X6_of (by omega) (c_X6_ofE l (d - 1) hM i 8 (by omega) (by decide) (y := vv (M1 0) i 8) (by simp [sset, bset_eq, vv_up])) rfl hM.lt hM.o rfl rfl (Nat.le_of_ble_eq_true rfl) ?_
                refine qc_V0q hΓ dX6_looks_126 lk_X6_49 vw_X6_puts (by omega) (c_X6_puts l (d - 1) hM _ _ _ (by omega) (by omega)) rfl hM.lt hM.o rfl rfl (Nat.le_of_ble_eq_true rfl) (fun w hq => ?_)
                obtain ⟨hM, hF⟩ := hq
                have hF0 := hF0.tr hF
                refine qa_aload_n hΓ dX6_looks_129 rfl ?_
                refine qa_iload_n hΓ dX6_looks_130 rfl ?_
                refine qa_bipush (v := nI 9) hΓ dX6_looks_131 bp_9 ?_
                refine qa_iload hΓ dX6_looks_133 rfl ?_
                refine qz_if_eq (tgt := 164) hΓ dX6_looks_135 (by decide) (by decide) (fun _ => ?_) (fun h => absurd h (by decide))
                refine qa_aload_n hΓ dX6_looks_164 rfl ?_
                refine qa_iload_n hΓ dX6_looks_165 rfl ?_
                refine qa_bipush (v := nI 9) hΓ dX6_looks_166 bp_9 ?_
                refine qc_V1 hΓ dX6_looks_168 lk_X6_37 vw_X6_of (by omega) (c_X6_ofE l (d - 1) hM i 9 (by omega) (by decide) (y := vv (M1 0) i 9) (by simp [sset, bset_eq, vv_up])) rfl hM.lt hM.o rfl rfl (Nat.le_of_ble_eq_true rfl) ?_
                refine qc_V0q hΓ dX6_looks_171 lk_X6_49 vw_X6_puts (by omega) (c_X6_puts l (d - 1) hM _ _ _ (by omega) (by omega)) rfl hM.lt hM.o rfl rfl (Nat.le_of_ble_eq_true rfl) (fun w hq => ?_)
                obtain ⟨hM, hF⟩ := hq
                have hF0 := hF0.tr hF
                refine qz_iinc hΓ dX6_looks_174 ii_1 rfl (by decide) ?_
                refine qa_goto (tgt := 19) hΓ dX6_looks_177 (by decide) ?_
                have e : lk (onS (M 0)) (M 0) (i + 1) = ((lk (onS (M 0)) (M 0) i).1 + 1, lkT 1 (M1 0) i) := by
                  show (if _ then _ else _) = _
                  rw [← hU.1, h_35]
                  exact if_neg h_53
                have h9 := ih (i + 1) w _ (aZ 1) (aZ 0) (by omega) (by omega) hM (by
                  rw [e]
                  refine hU.three _ _ _ _ _ _ ?_
                  simp [lkT, sset, bset_eq, vv_up, upN, *]) hF0
                rw [e] at h9
                exact h9
              · refine qa_iconst (v := nI 0) hΓ dX6_looks_115 ic_0 ?_
                refine qa_goto (tgt := 126) hΓ dX6_looks_116 (by decide) ?_
                refine qc_V0q hΓ dX6_looks_126 lk_X6_49 vw_X6_puts (by omega) (c_X6_puts l (d - 1) hM _ _ _ (by omega) (by omega)) rfl hM.lt hM.o rfl rfl (Nat.le_of_ble_eq_true rfl) (fun w hq => ?_)
                obtain ⟨hM, hF⟩ := hq
                have hF0 := hF0.tr hF
                refine qa_aload_n hΓ dX6_looks_129 rfl ?_
                refine qa_iload_n hΓ dX6_looks_130 rfl ?_
                refine qa_bipush (v := nI 9) hΓ dX6_looks_131 bp_9 ?_
                refine qa_iload hΓ dX6_looks_133 rfl ?_
                refine qz_if_eq (tgt := 164) hΓ dX6_looks_135 (by decide) (by decide) (fun _ => ?_) (fun h => absurd h (by decide))
                refine qa_aload_n hΓ dX6_looks_164 rfl ?_
                refine qa_iload_n hΓ dX6_looks_165 rfl ?_
                refine qa_bipush (v := nI 9) hΓ dX6_looks_166 bp_9 ?_
                refine qc_V1 hΓ dX6_looks_168 lk_X6_37 vw_X6_of (by omega) (c_X6_ofE l (d - 1) hM i 9 (by omega) (by decide) (y := vv (M1 0) i 9) (by simp [sset, bset_eq, vv_up])) rfl hM.lt hM.o rfl rfl (Nat.le_of_ble_eq_true rfl) ?_
                refine qc_V0q hΓ dX6_looks_171 lk_X6_49 vw_X6_puts (by omega) (c_X6_puts l (d - 1) hM _ _ _ (by omega) (by omega)) rfl hM.lt hM.o rfl rfl (Nat.le_of_ble_eq_true rfl) (fun w hq => ?_)
                obtain ⟨hM, hF⟩ := hq
                have hF0 := hF0.tr hF
                refine qz_iinc hΓ dX6_looks_174 ii_1 rfl (by decide) ?_
                refine qa_goto (tgt := 19) hΓ dX6_looks_177 (by decide) ?_
                have e : lk (onS (M 0)) (M 0) (i + 1) = ((lk (onS (M 0)) (M 0) i).1 + 1, lkT 1 (M1 0) i) := by
                  show (if _ then _ else _) = _
                  rw [← hU.1, h_35]
                  exact if_neg h_53
                have h9 := ih (i + 1) w _ (aZ 1) (aZ 0) (by omega) (by omega) hM (by
                  rw [e]
                  refine hU.three _ _ _ _ _ _ ?_
                  simp [lkT, sset, bset_eq, vv_up, upN, *]) hF0
                rw [e] at h9
                exact h9
            · refine qa_iconst (v := nI 1) hΓ dX6_looks_78 ic_1 ?_
              refine qa_goto (tgt := 83) hΓ dX6_looks_79 (by decide) ?_
              refine qa_istore hΓ dX6_looks_83 (by decide) ?_
              refine qa_aload_n hΓ dX6_looks_85 rfl ?_
              refine qa_iload_n hΓ dX6_looks_86 rfl ?_
              refine qa_bipush (v := nI 8) hΓ dX6_looks_87 bp_8 ?_
              refine qa_iload hΓ dX6_looks_89 rfl ?_
              refine qz_if_eq (tgt := 101) hΓ dX6_looks_91 (by decide) (by decide) (fun h => absurd h (by decide)) (fun _ => ?_)
              refine qa_iconst (v := nI 2) hΓ dX6_looks_94 ic_2 ?_
              refine qa_iload hΓ dX6_looks_95 rfl ?_
              refine qz_isub hΓ dX6_looks_97 (by omega) ?_
              refine qa_goto (tgt := 126) hΓ dX6_looks_98 (by decide) ?_
              refine qc_V0q hΓ dX6_looks_126 lk_X6_49 vw_X6_puts (by omega) (c_X6_puts l (d - 1) hM _ _ _ (by omega) (by omega)) rfl hM.lt hM.o rfl rfl (Nat.le_of_ble_eq_true rfl) (fun w hq => ?_)
              obtain ⟨hM, hF⟩ := hq
              have hF0 := hF0.tr hF
              refine qa_aload_n hΓ dX6_looks_129 rfl ?_
              refine qa_iload_n hΓ dX6_looks_130 rfl ?_
              refine qa_bipush (v := nI 9) hΓ dX6_looks_131 bp_9 ?_
              refine qa_iload hΓ dX6_looks_133 rfl ?_
              refine qz_if_eq (tgt := 164) hΓ dX6_looks_135 (by decide) (by decide) (fun h => absurd h (by decide)) (fun _ => ?_)
              refine qa_aload_n hΓ dX6_looks_138 rfl ?_
              refine qa_get hΓ dX6_looks_139 fk_X6_7 hM.lt hM.o rfl ?_
              refine qa_iconst (v := nI 2) hΓ dX6_looks_142 ic_2 ?_
              refine qz_iald hΓ dX6_looks_143 (hM.lti (i := 1) (by decide)) hM.a0 (by omega) (by decide) ?_
              refine qa_aload_n hΓ dX6_looks_144 rfl ?_
              refine qa_iload_n hΓ dX6_looks_145 rfl ?_
              refine qa_iload hΓ dX6_looks_146 rfl ?_
              refine qa_iconst (v := nI 1) hΓ dX6_looks_148 ic_1 ?_
              refine qz_icmp_ne (tgt := 156) hΓ dX6_looks_149 (by decide) (by decide) (by decide) (fun h => absurd h (by decide)) (fun _ => ?_)
              refine qa_iconst (v := nI 0) hΓ dX6_looks_152 ic_0 ?_
              refine qa_goto (tgt := 157) hΓ dX6_looks_153 (by decide) ?_
              refine qc_V1 hΓ dX6_looks_157 lk_X6_37 vw_X6_of (by omega) (c_X6_ofE l (d - 1) hM i 0 (by omega) (by decide) (y := vv (M1 0) i 0) (by simp [sset, bset_eq, vv_up])) rfl hM.lt hM.o rfl rfl (Nat.le_of_ble_eq_true rfl) ?_
              refine qz_iadd hΓ dX6_looks_160 ?_
              refine qa_goto (tgt := 171) hΓ dX6_looks_161 (by decide) ?_
              refine qc_V0q hΓ dX6_looks_171 lk_X6_49 vw_X6_puts (by omega) (c_X6_puts l (d - 1) hM _ _ _ (by omega) (by omega)) rfl hM.lt hM.o rfl rfl (Nat.le_of_ble_eq_true rfl) (fun w hq => ?_)
              obtain ⟨hM, hF⟩ := hq
              have hF0 := hF0.tr hF
              refine qz_iinc hΓ dX6_looks_174 ii_1 rfl (by decide) ?_
              refine qa_goto (tgt := 19) hΓ dX6_looks_177 (by decide) ?_
              have e : lk (onS (M 0)) (M 0) (i + 1) = ((lk (onS (M 0)) (M 0) i).1 + 1, lkT 1 (M1 0) i) := by
                show (if _ then _ else _) = _
                rw [← hU.1, h_35]
                exact if_neg h_53
              have h9 := ih (i + 1) w _ (aZ 1) (aZ 1) (by omega) (by omega) hM (by
                rw [e]
                refine hU.three _ _ _ _ _ _ ?_
                simp [lkT, sset, bset_eq, vv_up, upN, *]) hF0
              rw [e] at h9
              exact h9
  refine qa_aload_n hΓ dX6_looks_0 rfl ?_
  refine qa_get hΓ dX6_looks_1 fk_X6_7 hM.lt hM.o rfl ?_
  refine qa_iconst (v := nI 0) hΓ dX6_looks_4 ic_0 ?_
  refine qz_iald hΓ dX6_looks_5 (hM.lti (i := 1) (by decide)) hM.a0 (by omega) (by decide) ?_
  refine qa_aload_n hΓ dX6_looks_6 rfl ?_
  refine qc_V1 hΓ dX6_looks_7 lk_X6_41 vw_X6_closed (by omega) (c_X6_closed l (d - 1) (by omega) hM hW.2.1 (fun r hr x hx => by have := hW.b hr hx; omega)) rfl hM.lt hM.o rfl rfl (Nat.le_of_ble_eq_true rfl) ?_
  refine qa_bipush (v := nI 8) hΓ dX6_looks_10 bp_8 ?_
  refine qz_ishl hΓ dX6_looks_12 (by omega) ?_
  refine qz_ior hΓ dX6_looks_13 ?_
  refine qa_istore_n hΓ dX6_looks_14 (by decide) ?_
  refine qa_iconst (v := nI 0) hΓ dX6_looks_15 ic_0 ?_
  refine qa_istore_n hΓ dX6_looks_16 (by decide) ?_
  refine qa_iconst (v := nI 0) hΓ dX6_looks_17 ic_0 ?_
  refine qa_istore_n hΓ dX6_looks_18 (by decide) ?_
  exact loop (M 0 1 + 1) 0 w M _ _ (Nat.zero_le _) (by omega) hM (Mup.rf M) Fr.rf
end
section
/-! The model: events, and how it settles -/
theorem Mup.of0 {M M' : Bk} {s : Nat → Nat} (h0 : M' 0 = s) (h : ∀ a, a ≠ 0 → M' a = M a) : Mup M s M' := ⟨h0, fun a h1 _ => h a (by omega), by rw [h 5 (by decide)], by rw [h 5 (by decide)], by rw [h 5 (by decide)]⟩
set_option maxRecDepth 100000 in
set_option maxHeartbeats 4000000 in
theorem c_X6_timeOf (l : Launch) (d : Nat) (hd : 1 ≤ d) {n k : Nat} {w : Nat → AC} {M : Bk} (hM : MdAt n w k M) (e : Nat) (he : e < 32) : Sq l yX6_timeOf cX6_timeOf 2 (some .int) d [aR k, aZ e] n w (Rs (some (aZ (tmO (M 0) e))) w) := by
  refine Sp.of (plainFor_of_name (by decide)) (Nat.le_of_ble_eq_true rfl) (fun Γ hΓ hR => ?_)
  show Γ 0 [aR k, aZ e] [] (0, 0) n w
  refine qa_iload_n hΓ dX6_timeOf_0 rfl ?_
  refine qa_iconst (v := nI 4) hΓ dX6_timeOf_1 ic_4 ?_
  refine qz_irem hΓ dX6_timeOf_2 (by omega) (by decide) (by decide) ?_
  refine qa_iconst (v := nI 2) hΓ dX6_timeOf_3 ic_2 ?_
  have he4 : e % 4 < 4 := Nat.mod_lt _ (by decide)
  refine qz_icmp_ne (tgt := 19) hΓ dX6_timeOf_4 (by decide) (by omega) (by omega) (fun h_4 => ?_) (fun h_4 => ?_)
  · refine qa_aload_n hΓ dX6_timeOf_19 rfl ?_
    refine qa_iload_n hΓ dX6_timeOf_20 rfl ?_
    refine qa_iconst (v := nI 4) hΓ dX6_timeOf_21 ic_4 ?_
    refine qz_idiv hΓ dX6_timeOf_22 (by omega) (by decide) (by decide) ?_
    refine qa_bipush (v := nI 9) hΓ dX6_timeOf_23 bp_9 ?_
    refine qc_V1 hΓ dX6_timeOf_25 lk_X6_37 vw_X6_of (by omega) (c_X6_of l (d - 1) hM _ _ (by omega) (by omega)) rfl hM.lt hM.o rfl rfl (Nat.le_of_ble_eq_true rfl) ?_
    exact qr_i hR dX6_timeOf_28 ⟨by simp [tmO, h_4], rfl⟩
  · refine qa_aload_n hΓ dX6_timeOf_7 rfl ?_
    refine qa_iload_n hΓ dX6_timeOf_8 rfl ?_
    refine qa_iconst (v := nI 4) hΓ dX6_timeOf_9 ic_4 ?_
    refine qz_idiv hΓ dX6_timeOf_10 (by omega) (by decide) (by decide) ?_
    refine qa_bipush (v := nI 11) hΓ dX6_timeOf_11 bp_11 ?_
    refine qc_V1 hΓ dX6_timeOf_13 lk_X6_37 vw_X6_of (by omega) (c_X6_of l (d - 1) hM _ _ (by omega) (by omega)) rfl hM.lt hM.o rfl rfl (Nat.le_of_ble_eq_true rfl) ?_
    refine qa_goto (tgt := 28) hΓ dX6_timeOf_16 (by decide) ?_
    exact qr_i hR dX6_timeOf_28 ⟨by simp [tmO, h_4], rfl⟩

set_option maxRecDepth 100000 in
set_option maxHeartbeats 4000000 in
theorem c_X6_waits (l : Launch) (d : Nat) (hd : 1 ≤ d) {n k : Nat} {w : Nat → AC} {M : Bk} (hM : MdAt n w k M) {B : Nat} (hW : Wt (M 0) B) (hB : B < 2000000000) (e : Nat) (he : e < 4 * M 0 1) : Sq l yX6_waits cX6_waits 3 (some .boolean) d [aR k, aZ e] n w (Rs (some (aZ (wtB (M 0) e).toNat)) w) := by
  refine Sp.of (plainFor_of_name (by decide)) (Nat.le_of_ble_eq_true rfl) (fun Γ hΓ hR => ?_)
  show Γ 0 [aR k, aZ e, none] [] (0, 0) n w
  have he4 : e % 4 < 4 := Nat.mod_lt _ (by decide)
  have hb8 := hW.b (r := e / 4) (x := 8) (by omega) (by decide)
  have hb10 := hW.b (r := e / 4) (x := 10) (by omega) (by decide)
  have h8 := hW.2.1
  refine qa_iload_n hΓ dX6_waits_0 rfl ?_
  refine qa_iconst (v := nI 4) hΓ dX6_waits_1 ic_4 ?_
  refine qz_irem hΓ dX6_waits_2 (by omega) (by decide) (by decide) ?_
  refine qa_istore_n hΓ dX6_waits_3 (by decide) ?_
  refine qa_iload_n hΓ dX6_waits_4 rfl ?_
  refine qa_iconst (v := nI 2) hΓ dX6_waits_5 ic_2 ?_
  refine qz_icmp_ne (tgt := 30) hΓ dX6_waits_6 (by decide) (by omega) (by omega) (fun h_6 => ?_) (fun h_6 => ?_)
  · refine qa_iload_n hΓ dX6_waits_30 rfl ?_
    refine qa_iconst (v := nI 2) hΓ dX6_waits_31 ic_2 ?_
    refine qz_icmp_ge (tgt := 54) hΓ dX6_waits_32 (by decide) (by omega) (by omega) (fun h_32 => ?_) (fun h_32 => ?_)
    · refine qa_iconst (v := nI 0) hΓ dX6_waits_54 ic_0 ?_
      exact qr_b (p := false) hR dX6_waits_55 ⟨congrArg (fun p : Bool => some (aZ p.toNat)) (show false = wtB (M 0) e by simp [wtB, *] <;> first | omega | (intro h; omega)), rfl⟩
    · refine qa_aload_n hΓ dX6_waits_35 rfl ?_
      refine qa_iload_n hΓ dX6_waits_36 rfl ?_
      refine qa_iconst (v := nI 4) hΓ dX6_waits_37 ic_4 ?_
      refine qz_idiv hΓ dX6_waits_38 (by omega) (by decide) (by decide) ?_
      refine qa_bipush (v := nI 8) hΓ dX6_waits_39 bp_8 ?_
      refine qc_V1 hΓ dX6_waits_41 lk_X6_37 vw_X6_of (by omega) (c_X6_of l (d - 1) hM _ _ (by omega) (by omega)) rfl hM.lt hM.o rfl rfl (Nat.le_of_ble_eq_true rfl) ?_
      refine qa_iload_n hΓ dX6_waits_44 rfl ?_
      refine qa_iconst (v := nI 1) hΓ dX6_waits_45 ic_1 ?_
      refine qz_iadd hΓ dX6_waits_46 ?_
      refine qz_icmp_ne (tgt := 54) hΓ dX6_waits_47 (by decide) (by omega) (by omega) (fun h_47 => ?_) (fun h_47 => ?_)
      · refine qa_iconst (v := nI 0) hΓ dX6_waits_54 ic_0 ?_
        exact qr_b (p := false) hR dX6_waits_55 ⟨congrArg (fun p : Bool => some (aZ p.toNat)) (show false = wtB (M 0) e by simp [wtB, *] <;> first | omega | (intro h; omega)), rfl⟩
      · refine qa_iconst (v := nI 1) hΓ dX6_waits_50 ic_1 ?_
        refine qa_goto (tgt := 55) hΓ dX6_waits_51 (by decide) ?_
        exact qr_b (p := true) hR dX6_waits_55 ⟨congrArg (fun p : Bool => some (aZ p.toNat)) (show true = wtB (M 0) e by simp [wtB, *] <;> first | omega | (intro h; omega)), rfl⟩
  · refine qa_aload_n hΓ dX6_waits_9 rfl ?_
    refine qa_iload_n hΓ dX6_waits_10 rfl ?_
    refine qa_iconst (v := nI 4) hΓ dX6_waits_11 ic_4 ?_
    refine qz_idiv hΓ dX6_waits_12 (by omega) (by decide) (by decide) ?_
    refine qa_bipush (v := nI 10) hΓ dX6_waits_13 bp_10 ?_
    refine qc_V1 hΓ dX6_waits_15 lk_X6_37 vw_X6_of (by omega) (c_X6_of l (d - 1) hM _ _ (by omega) (by omega)) rfl hM.lt hM.o rfl rfl (Nat.le_of_ble_eq_true rfl) ?_
    refine qa_iconst (v := nI 1) hΓ dX6_waits_18 ic_1 ?_
    refine qz_icmp_ne (tgt := 26) hΓ dX6_waits_19 (by decide) (by omega) (by omega) (fun h_19 => ?_) (fun h_19 => ?_)
    · refine qa_iconst (v := nI 0) hΓ dX6_waits_26 ic_0 ?_
      refine qa_goto (tgt := 55) hΓ dX6_waits_27 (by decide) ?_
      exact qr_b (p := false) hR dX6_waits_55 ⟨congrArg (fun p : Bool => some (aZ p.toNat)) (show false = wtB (M 0) e by simp [wtB, *] <;> first | omega | (intro h; omega)), rfl⟩
    · refine qa_iconst (v := nI 1) hΓ dX6_waits_22 ic_1 ?_
      refine qa_goto (tgt := 55) hΓ dX6_waits_23 (by decide) ?_
      exact qr_b (p := true) hR dX6_waits_55 ⟨congrArg (fun p : Bool => some (aZ p.toNat)) (show true = wtB (M 0) e by simp [wtB, *] <;> first | omega | (intro h; omega)), rfl⟩

set_option maxRecDepth 100000 in
set_option maxHeartbeats 4000000 in
theorem c_X6_isAhead (l : Launch) (d : Nat) (hd : 2 ≤ d) {n k : Nat} {w : Nat → AC} {M : Bk} (hM : MdAt n w k M) {B : Nat} (hW : Wt (M 0) B) (hB : B < 2000000000) (a b : Nat) (rev : Bool) (ha : a < 4 * M 0 1) (hb : b < 4 * M 0 1) : Sq l yX6_isAhead cX6_isAhead 4 (some .boolean) d [aR k, aZ a, aZ b, aZ rev.toNat] n w (Rs (some (aZ (ahB (M 0) a b rev).toNat)) w) := by
  refine Sp.of (plainFor_of_name (by decide)) (Nat.le_of_ble_eq_true rfl) (fun Γ hΓ hR => ?_)
  show Γ 0 [aR k, aZ a, aZ b, aZ rev.toNat] [] (0, 0) n w
  have ha4 : a / 4 ≤ a := Nat.div_le_self _ _
  have hb4 : b / 4 ≤ b := Nat.div_le_self _ _
  have hta := hW.tm ha
  have htb := hW.tm hb
  have h8 := hW.2.1
  refine qa_aload_n hΓ dX6_isAhead_0 rfl ?_
  refine qa_iload_n hΓ dX6_isAhead_1 rfl ?_
  refine qc_V1 hΓ dX6_isAhead_2 lk_X6_53 vw_X6_timeOf (by omega) (c_X6_timeOf l (d - 1) (by omega) hM _ (by omega)) rfl hM.lt hM.o rfl rfl (Nat.le_of_ble_eq_true rfl) ?_
  refine qa_aload_n hΓ dX6_isAhead_5 rfl ?_
  refine qa_iload_n hΓ dX6_isAhead_6 rfl ?_
  refine qc_V1 hΓ dX6_isAhead_7 lk_X6_53 vw_X6_timeOf (by omega) (c_X6_timeOf l (d - 1) (by omega) hM _ (by omega)) rfl hM.lt hM.o rfl rfl (Nat.le_of_ble_eq_true rfl) ?_
  refine qz_icmp_eq (tgt := 32) hΓ dX6_isAhead_10 (by decide) (by omega) (by omega) (fun h_10 => ?_) (fun h_10 => ?_)
  · refine qa_iload_n hΓ dX6_isAhead_32 rfl ?_
    refine qa_iconst (v := nI 4) hΓ dX6_isAhead_33 ic_4 ?_
    refine qz_idiv hΓ dX6_isAhead_34 (by omega) (by decide) (by decide) ?_
    refine qa_iload_n hΓ dX6_isAhead_35 rfl ?_
    refine qa_iconst (v := nI 4) hΓ dX6_isAhead_36 ic_4 ?_
    refine qz_idiv hΓ dX6_isAhead_37 (by omega) (by decide) (by decide) ?_
    refine qz_icmp_ne (tgt := 54) hΓ dX6_isAhead_38 (by decide) (by omega) (by omega) (fun h_38 => ?_) (fun h_38 => ?_)
    · refine qa_iload_n hΓ dX6_isAhead_54 rfl ?_
      refine qb_if_eq (tgt := 71) hΓ dX6_isAhead_55 (by decide) (fun h_55 => ?_) (fun h_55 => ?_)
      · refine qa_iload_n hΓ dX6_isAhead_71 rfl ?_
        refine qa_iload_n hΓ dX6_isAhead_72 rfl ?_
        refine qz_icmp_ge (tgt := 80) hΓ dX6_isAhead_73 (by decide) (by omega) (by omega) (fun h_73 => ?_) (fun h_73 => ?_)
        · refine qa_iconst (v := nI 0) hΓ dX6_isAhead_80 ic_0 ?_
          exact qr_b (p := false) hR dX6_isAhead_81 ⟨congrArg (fun p : Bool => some (aZ p.toNat)) (show false = ahB (M 0) a b rev by simp [ahB, *] <;> first | omega | (intro h; omega)), rfl⟩
        · refine qa_iconst (v := nI 1) hΓ dX6_isAhead_76 ic_1 ?_
          refine qa_goto (tgt := 81) hΓ dX6_isAhead_77 (by decide) ?_
          exact qr_b (p := true) hR dX6_isAhead_81 ⟨congrArg (fun p : Bool => some (aZ p.toNat)) (show true = ahB (M 0) a b rev by simp [ahB, *] <;> first | omega | (intro h; omega)), rfl⟩
      · refine qa_iload_n hΓ dX6_isAhead_58 rfl ?_
        refine qa_iload_n hΓ dX6_isAhead_59 rfl ?_
        refine qz_icmp_le (tgt := 67) hΓ dX6_isAhead_60 (by decide) (by omega) (by omega) (fun h_60 => ?_) (fun h_60 => ?_)
        · refine qa_iconst (v := nI 0) hΓ dX6_isAhead_67 ic_0 ?_
          refine qa_goto (tgt := 81) hΓ dX6_isAhead_68 (by decide) ?_
          exact qr_b (p := false) hR dX6_isAhead_81 ⟨congrArg (fun p : Bool => some (aZ p.toNat)) (show false = ahB (M 0) a b rev by simp [ahB, *] <;> first | omega | (intro h; omega)), rfl⟩
        · refine qa_iconst (v := nI 1) hΓ dX6_isAhead_63 ic_1 ?_
          refine qa_goto (tgt := 81) hΓ dX6_isAhead_64 (by decide) ?_
          exact qr_b (p := true) hR dX6_isAhead_81 ⟨congrArg (fun p : Bool => some (aZ p.toNat)) (show true = ahB (M 0) a b rev by simp [ahB, *] <;> first | omega | (intro h; omega)), rfl⟩
    · refine qa_iload_n hΓ dX6_isAhead_41 rfl ?_
      refine qa_iload_n hΓ dX6_isAhead_42 rfl ?_
      refine qz_icmp_ge (tgt := 50) hΓ dX6_isAhead_43 (by decide) (by omega) (by omega) (fun h_43 => ?_) (fun h_43 => ?_)
      · refine qa_iconst (v := nI 0) hΓ dX6_isAhead_50 ic_0 ?_
        refine qa_goto (tgt := 81) hΓ dX6_isAhead_51 (by decide) ?_
        exact qr_b (p := false) hR dX6_isAhead_81 ⟨congrArg (fun p : Bool => some (aZ p.toNat)) (show false = ahB (M 0) a b rev by simp [ahB, *] <;> first | omega | (intro h; omega)), rfl⟩
      · refine qa_iconst (v := nI 1) hΓ dX6_isAhead_46 ic_1 ?_
        refine qa_goto (tgt := 81) hΓ dX6_isAhead_47 (by decide) ?_
        exact qr_b (p := true) hR dX6_isAhead_81 ⟨congrArg (fun p : Bool => some (aZ p.toNat)) (show true = ahB (M 0) a b rev by simp [ahB, *] <;> first | omega | (intro h; omega)), rfl⟩
  · refine qa_aload_n hΓ dX6_isAhead_13 rfl ?_
    refine qa_iload_n hΓ dX6_isAhead_14 rfl ?_
    refine qc_V1 hΓ dX6_isAhead_15 lk_X6_53 vw_X6_timeOf (by omega) (c_X6_timeOf l (d - 1) (by omega) hM _ (by omega)) rfl hM.lt hM.o rfl rfl (Nat.le_of_ble_eq_true rfl) ?_
    refine qa_aload_n hΓ dX6_isAhead_18 rfl ?_
    refine qa_iload_n hΓ dX6_isAhead_19 rfl ?_
    refine qc_V1 hΓ dX6_isAhead_20 lk_X6_53 vw_X6_timeOf (by omega) (c_X6_timeOf l (d - 1) (by omega) hM _ (by omega)) rfl hM.lt hM.o rfl rfl (Nat.le_of_ble_eq_true rfl) ?_
    refine qz_icmp_ge (tgt := 30) hΓ dX6_isAhead_23 (by decide) (by omega) (by omega) (fun h_23 => ?_) (fun h_23 => ?_)
    · refine qa_iconst (v := nI 0) hΓ dX6_isAhead_30 ic_0 ?_
      exact qr_b (p := false) hR dX6_isAhead_31 ⟨congrArg (fun p : Bool => some (aZ p.toNat)) (show false = ahB (M 0) a b rev by simp [ahB, *] <;> first | omega | (intro h; omega)), rfl⟩
    · refine qa_iconst (v := nI 1) hΓ dX6_isAhead_26 ic_1 ?_
      refine qa_goto (tgt := 31) hΓ dX6_isAhead_27 (by decide) ?_
      exact qr_b (p := true) hR dX6_isAhead_31 ⟨congrArg (fun p : Bool => some (aZ p.toNat)) (show true = ahB (M 0) a b rev by simp [ahB, *] <;> first | omega | (intro h; omega)), rfl⟩

theorem nI_m9 (q : Nat) (h : q < 2147483648) : ¬ nI q = -9 := by
  intro e
  have h1 : (nI q).toInt = (-9 : Int32).toInt := by rw [e]
  rw [nI_toInt h, show (-9 : Int32).toInt = -9 by decide] at h1
  omega
set_option maxRecDepth 100000 in
set_option maxHeartbeats 4000000 in
theorem c_X6_next (l : Launch) (d : Nat) (hd : 3 ≤ d) {n k : Nat} {w : Nat → AC} {M : Bk} (hM : MdAt n w k M) {B : Nat} (hW : Wt (M 0) B) (hB : B < 2000000000) (rev : Bool) : Sq l yX6_next cX6_next 4 (some .int) d [aR k, aZ rev.toNat] n w (Rs (some (aI (nI9 (nx (M 0) rev)))) w) := by
  refine Sp.of (plainFor_of_name (by decide)) (Nat.le_of_ble_eq_true rfl) (fun Γ hΓ hR => ?_)
  show Γ 0 [aR k, aZ rev.toNat, none, none] [] (0, 0) n w
  have h8 : M 0 1 ≤ 8 := hW.2.1
  have loop : ∀ (m i : Nat), i ≤ 4 * M 0 1 → 4 * M 0 1 < i + m → Γ 5 [aR k, aZ rev.toNat, aI (nI9 (nxt (M 0) rev i)), aZ i] [] (0, 0) n w := by
    intro m
    induction m with
    | zero => intro i h1 h2; exact absurd h2 (by omega)
    | succ m ih =>
      intro i hi hm
      cases ho : nxt (M 0) rev i with
      | none =>
        show Γ 5 [aR k, aZ rev.toNat, aI (-9), aZ i] [] (0, 0) n w
        refine qa_iload_n hΓ dX6_next_5 rfl ?_
        refine qa_iconst (v := nI 4) hΓ dX6_next_6 ic_4 ?_
        refine qa_aload_n hΓ dX6_next_7 rfl ?_
        refine qa_get hΓ dX6_next_8 fk_X6_7 hM.lt hM.o rfl ?_
        refine qa_iconst (v := nI 1) hΓ dX6_next_11 ic_1 ?_
        refine qz_iald hΓ dX6_next_12 (hM.lti (i := 1) (by decide)) hM.a0 (by omega) (by decide) ?_
        refine qz_imul hΓ dX6_next_13 ?_
        refine qz_icmp_ge (tgt := 53) hΓ dX6_next_14 (by decide) (by omega) (by omega) (fun h_14 => ?_) (fun h_14 => ?_)
        · refine qa_iload_n hΓ dX6_next_53 rfl ?_
          exact qr_i hR dX6_next_54 ⟨by show _ = some (aI (nI9 (nxt (M 0) rev (4 * M 0 1)))); rw [show 4 * M 0 1 = i by omega, ho]; rfl, rfl⟩
        · refine qa_aload_n hΓ dX6_next_17 rfl ?_
          refine qa_iload_n hΓ dX6_next_18 rfl ?_
          refine qc_V1 hΓ dX6_next_19 lk_X6_57 vw_X6_waits (by omega) (c_X6_waits l (d - 1) (by omega) hM hW (by omega) _ (by omega)) rfl hM.lt hM.o rfl rfl (Nat.le_of_ble_eq_true rfl) ?_
          refine qb_if_eq (tgt := 45) hΓ dX6_next_22 (by decide) (fun h_22 => ?_) (fun h_22 => ?_)
          · refine qa_iload_n hΓ dX6_next_45 rfl ?_
            refine qa_istore_n hΓ dX6_next_46 (by decide) ?_
            refine qz_iinc hΓ dX6_next_47 ii_1 rfl (by decide) ?_
            refine qa_goto (tgt := 5) hΓ dX6_next_50 (by decide) ?_
            have e : nxt (M 0) rev (i + 1) = none := by
              show (if _ then _ else _) = _
              exact (if_neg (by simp [ahO, *])).trans ho
            have h9 := ih (i + 1) (by omega) (by omega)
            rw [e] at h9
            exact h9
          · refine qa_iload_n hΓ dX6_next_25 rfl ?_
            refine qa_bipush (v := (-9)) hΓ dX6_next_26 bp_m9 ?_
            refine qa_icmp_eq (tgt := 41) hΓ dX6_next_28 (by decide) (fun _ => ?_) (fun h => absurd rfl h)
            refine qa_iload_n hΓ dX6_next_41 rfl ?_
            refine qa_goto (tgt := 46) hΓ dX6_next_42 (by decide) ?_
            refine qa_istore_n hΓ dX6_next_46 (by decide) ?_
            refine qz_iinc hΓ dX6_next_47 ii_1 rfl (by decide) ?_
            refine qa_goto (tgt := 5) hΓ dX6_next_50 (by decide) ?_
            have e : nxt (M 0) rev (i + 1) = some i := by
              show (if _ then _ else _) = _
              exact if_pos (by simp [ahO, *])
            have h9 := ih (i + 1) (by omega) (by omega)
            rw [e] at h9
            exact h9
      | some q =>
        have hq := nxt_lt ho
        show Γ 5 [aR k, aZ rev.toNat, aZ q, aZ i] [] (0, 0) n w
        refine qa_iload_n hΓ dX6_next_5 rfl ?_
        refine qa_iconst (v := nI 4) hΓ dX6_next_6 ic_4 ?_
        refine qa_aload_n hΓ dX6_next_7 rfl ?_
        refine qa_get hΓ dX6_next_8 fk_X6_7 hM.lt hM.o rfl ?_
        refine qa_iconst (v := nI 1) hΓ dX6_next_11 ic_1 ?_
        refine qz_iald hΓ dX6_next_12 (hM.lti (i := 1) (by decide)) hM.a0 (by omega) (by decide) ?_
        refine qz_imul hΓ dX6_next_13 ?_
        refine qz_icmp_ge (tgt := 53) hΓ dX6_next_14 (by decide) (by omega) (by omega) (fun h_14 => ?_) (fun h_14 => ?_)
        · refine qa_iload_n hΓ dX6_next_53 rfl ?_
          exact qr_i hR dX6_next_54 ⟨by show _ = some (aI (nI9 (nxt (M 0) rev (4 * M 0 1)))); rw [show 4 * M 0 1 = i by omega, ho]; rfl, rfl⟩
        · refine qa_aload_n hΓ dX6_next_17 rfl ?_
          refine qa_iload_n hΓ dX6_next_18 rfl ?_
          refine qc_V1 hΓ dX6_next_19 lk_X6_57 vw_X6_waits (by omega) (c_X6_waits l (d - 1) (by omega) hM hW (by omega) _ (by omega)) rfl hM.lt hM.o rfl rfl (Nat.le_of_ble_eq_true rfl) ?_
          refine qb_if_eq (tgt := 45) hΓ dX6_next_22 (by decide) (fun h_22 => ?_) (fun h_22 => ?_)
          · refine qa_iload_n hΓ dX6_next_45 rfl ?_
            refine qa_istore_n hΓ dX6_next_46 (by decide) ?_
            refine qz_iinc hΓ dX6_next_47 ii_1 rfl (by decide) ?_
            refine qa_goto (tgt := 5) hΓ dX6_next_50 (by decide) ?_
            have e : nxt (M 0) rev (i + 1) = some q := by
              show (if _ then _ else _) = _
              exact (if_neg (by simp [ahO, *])).trans ho
            have h9 := ih (i + 1) (by omega) (by omega)
            rw [e] at h9
            exact h9
          · refine qa_iload_n hΓ dX6_next_25 rfl ?_
            refine qa_bipush (v := (-9)) hΓ dX6_next_26 bp_m9 ?_
            refine qa_icmp_eq (tgt := 41) hΓ dX6_next_28 (by decide) (fun h => absurd h (nI_m9 q (by omega))) (fun _ => ?_)
            refine qa_aload_n hΓ dX6_next_31 rfl ?_
            refine qa_iload_n hΓ dX6_next_32 rfl ?_
            refine qa_iload_n hΓ dX6_next_33 rfl ?_
            refine qa_iload_n hΓ dX6_next_34 rfl ?_
            refine qc_V1 hΓ dX6_next_35 lk_X6_61 vw_X6_isAhead (by omega) (c_X6_isAhead l (d - 1) (by omega) hM hW (by omega) _ _ _ (by omega) (by omega)) rfl hM.lt hM.o rfl rfl (Nat.le_of_ble_eq_true rfl) ?_
            refine qb_if_eq (tgt := 45) hΓ dX6_next_38 (by decide) (fun h_38 => ?_) (fun h_38 => ?_)
            · refine qa_iload_n hΓ dX6_next_45 rfl ?_
              refine qa_istore_n hΓ dX6_next_46 (by decide) ?_
              refine qz_iinc hΓ dX6_next_47 ii_1 rfl (by decide) ?_
              refine qa_goto (tgt := 5) hΓ dX6_next_50 (by decide) ?_
              have e : nxt (M 0) rev (i + 1) = some q := by
                show (if _ then _ else _) = _
                exact (if_neg (by simp [ahO, *])).trans ho
              have h9 := ih (i + 1) (by omega) (by omega)
              rw [e] at h9
              exact h9
            · refine qa_iload_n hΓ dX6_next_41 rfl ?_
              refine qa_goto (tgt := 46) hΓ dX6_next_42 (by decide) ?_
              refine qa_istore_n hΓ dX6_next_46 (by decide) ?_
              refine qz_iinc hΓ dX6_next_47 ii_1 rfl (by decide) ?_
              refine qa_goto (tgt := 5) hΓ dX6_next_50 (by decide) ?_
              have e : nxt (M 0) rev (i + 1) = some i := by
                show (if _ then _ else _) = _
                exact if_pos (by simp [ahO, *])
              have h9 := ih (i + 1) (by omega) (by omega)
              rw [e] at h9
              exact h9
  refine qa_bipush (v := (-9)) hΓ dX6_next_0 bp_m9 ?_
  refine qa_istore_n hΓ dX6_next_2 (by decide) ?_
  refine qa_iconst (v := nI 0) hΓ dX6_next_3 ic_0 ?_
  refine qa_istore_n hΓ dX6_next_4 (by decide) ?_
  exact loop (4 * M 0 1 + 1) 0 (Nat.zero_le _) (by omega)

set_option maxRecDepth 100000 in
set_option maxHeartbeats 4000000 in
theorem c_X6_happens (l : Launch) (d : Nat) (hd : 3 ≤ d) {n k : Nat} {w : Nat → AC} {M : Bk} (hM : MdAt n w k M) {B : Nat} (hW : Wt (M 0) B) (hB : B < 1900000000) (e : Nat) (he : e < 4 * M 0 1) (hk : e % 4 < 3) : Sq l yX6_happens cX6_happens 4 none d [aR k, aZ e] n w (Qn (PS n k M (hap (M 0) e) w)) := by
  refine Sp.of (plainFor_of_name (by decide)) (Nat.le_of_ble_eq_true rfl) (fun Γ hΓ hR => ?_)
  show Γ 0 [aR k, aZ e, none, none] [] (0, 0) n w
  have tail : ∀ (w1 : Nat → AC) (M1 : Bk), MdAt n w1 k M1 → Mup M (hp1 (M 0) e) M1 → Fr k 6 w w1 → ∀ u v, Γ 113 [aR k, aZ e, u, v] [] (0, 0) n w1 := by
    intro w M1 hM hU hF0 u v
    refine qa_aload_n hΓ dX6_happens_113 rfl ?_
    refine qa_dup hΓ dX6_happens_114 ?_
    refine qa_get hΓ dX6_happens_115 fk_X6_65 hM.lt hM.o rfl ?_
    refine qa_aload_n hΓ dX6_happens_118 rfl ?_
    refine qc_V1q hΓ dX6_happens_119 lk_X6_68 vw_X6_looks (by omega) (c_X6_looks l (d - 1) (by omega) hM (by rw [hU.1]; exact hW.hp1 he) (by omega)) rfl hM.lt hM.o rfl rfl (Nat.le_of_ble_eq_true rfl) (fun w hq => ?_)
    obtain ⟨M2, hM, hU2, hF⟩ := hq
    have hF0 := hF0.tr hF
    refine qz_iadd hΓ dX6_happens_122 ?_
    refine qM_put hΓ 2 dX6_happens_123 fk_X6_65 (by decide) hM (fun w hM hF => ?_)
    have hF0 := hF0.tr hF
    exact qr_v hR dX6_happens_126 ⟨rfl, _, hM, by rw [hU.1] at hU2; exact (hU.tr hU2).chg _, hF0⟩
  have he4 : e % 4 < 3 := by omega
  have h8 := hW.2.1
  have hb7 := hW.b (r := e / 4) (x := 7) (by omega) (by decide)
  have hb2 := hW.b (r := e / 4) (x := 2) (by omega) (by decide)
  have hF0 : Fr k 6 w w := Fr.rf
  refine qa_iload_n hΓ dX6_happens_0 rfl ?_
  refine qa_iconst (v := nI 4) hΓ dX6_happens_1 ic_4 ?_
  refine qz_idiv hΓ dX6_happens_2 (by omega) (by decide) (by decide) ?_
  refine qa_istore_n hΓ dX6_happens_3 (by decide) ?_
  refine qa_iload_n hΓ dX6_happens_4 rfl ?_
  refine qa_iconst (v := nI 4) hΓ dX6_happens_5 ic_4 ?_
  refine qz_irem hΓ dX6_happens_6 (by omega) (by decide) (by decide) ?_
  refine qa_istore_n hΓ dX6_happens_7 (by decide) ?_
  refine qa_aload_n hΓ dX6_happens_8 rfl ?_
  refine qa_get hΓ dX6_happens_9 fk_X6_7 hM.lt hM.o rfl ?_
  refine qa_iconst (v := nI 2) hΓ dX6_happens_12 ic_2 ?_
  refine qa_aload_n hΓ dX6_happens_13 rfl ?_
  refine qa_iload_n hΓ dX6_happens_14 rfl ?_
  refine qc_V1 hΓ dX6_happens_15 lk_X6_53 vw_X6_timeOf (by omega) (c_X6_timeOf l (d - 1) (by omega) hM _ (by omega)) rfl hM.lt hM.o rfl rfl (Nat.le_of_ble_eq_true rfl) ?_
  refine qM_ast hΓ (N := 203) 0 (by decide) rfl rfl dX6_happens_18 hM (by omega) (fun w hM hF => ?_)
  have hF0 := hF0.tr hF
  refine qa_iload_n hΓ dX6_happens_19 rfl ?_
  refine qa_iconst (v := nI 2) hΓ dX6_happens_20 ic_2 ?_
  refine qz_icmp_ne (tgt := 42) hΓ dX6_happens_21 (by decide) (by omega) (by omega) (fun h_21 => ?_) (fun h_21 => ?_)
  · refine qa_aload_n hΓ dX6_happens_42 rfl ?_
    refine qa_iload_n hΓ dX6_happens_43 rfl ?_
    refine qa_bipush (v := nI 8) hΓ dX6_happens_44 bp_8 ?_
    refine qa_iconst (v := nI 0) hΓ dX6_happens_46 ic_0 ?_
    refine qc_V0q hΓ dX6_happens_47 lk_X6_49 vw_X6_puts (by omega) (c_X6_puts l (d - 1) hM _ _ _ (by omega) (by omega)) rfl hM.lt hM.o rfl rfl (Nat.le_of_ble_eq_true rfl) (fun w hq => ?_)
    obtain ⟨hM, hF⟩ := hq
    have hF0 := hF0.tr hF
    refine qa_aload_n hΓ dX6_happens_50 rfl ?_
    refine qa_iload_n hΓ dX6_happens_51 rfl ?_
    refine qa_bipush (v := nI 7) hΓ dX6_happens_52 bp_7 ?_
    refine qc_V1 hΓ dX6_happens_54 lk_X6_37 vw_X6_of (by omega) (c_X6_ofE l (d - 1) hM (e / 4) 7 (by omega) (by decide) (y := vv (M 0) (e / 4) 7) (by simp [sset, bset_eq, vv_up, vv_hd])) rfl hM.lt hM.o rfl rfl (Nat.le_of_ble_eq_true rfl) ?_
    refine qz_if_ne (tgt := 113) hΓ dX6_happens_57 (by decide) (by omega) (fun h_57 => ?_) (fun h_57 => ?_)
    · obtain ⟨M1, hM, hU⟩ : ∃ M1, MdAt n w k M1 ∧ Mup M (hp1 (M 0) e) M1 := ⟨_, hM, Mup.of0 (by simp [hp1, sset, bset_eq, vv_up, vv_hd, upN, *]) (fun a ha => by simp [sset, bset, ha])⟩
      exact tail w M1 hM hU hF0 _ _
    · refine qa_aload_n hΓ dX6_happens_60 rfl ?_
      refine qa_iload_n hΓ dX6_happens_61 rfl ?_
      refine qa_iconst (v := nI 3) hΓ dX6_happens_62 ic_3 ?_
      refine qa_iconst (v := nI 1) hΓ dX6_happens_63 ic_1 ?_
      refine qa_iload_n hΓ dX6_happens_64 rfl ?_
      refine qz_isub hΓ dX6_happens_65 (by omega) ?_
      refine qc_V0q hΓ dX6_happens_66 lk_X6_49 vw_X6_puts (by omega) (c_X6_puts l (d - 1) hM _ _ _ (by omega) (by omega)) rfl hM.lt hM.o rfl rfl (Nat.le_of_ble_eq_true rfl) (fun w hq => ?_)
      obtain ⟨hM, hF⟩ := hq
      have hF0 := hF0.tr hF
      refine qa_aload_n hΓ dX6_happens_69 rfl ?_
      refine qa_iload_n hΓ dX6_happens_70 rfl ?_
      refine qa_iconst (v := nI 2) hΓ dX6_happens_71 ic_2 ?_
      refine qc_V1 hΓ dX6_happens_72 lk_X6_37 vw_X6_of (by omega) (c_X6_ofE l (d - 1) hM (e / 4) 2 (by omega) (by decide) (y := vv (M 0) (e / 4) 2) (by simp [sset, bset_eq, vv_up, vv_hd])) rfl hM.lt hM.o rfl rfl (Nat.le_of_ble_eq_true rfl) ?_
      refine qz_if_le (tgt := 113) hΓ dX6_happens_75 (by decide) (by omega) (fun h_75 => ?_) (fun h_75 => ?_)
      · obtain ⟨M1, hM, hU⟩ : ∃ M1, MdAt n w k M1 ∧ Mup M (hp1 (M 0) e) M1 := ⟨_, hM, Mup.of0 (by simp [hp1, sset, bset_eq, vv_up, vv_hd, upN, *]) (fun a ha => by simp [sset, bset, ha])⟩
        exact tail w M1 hM hU hF0 _ _
      · refine qa_aload_n hΓ dX6_happens_78 rfl ?_
        refine qa_iload_n hΓ dX6_happens_79 rfl ?_
        refine qa_iconst (v := nI 5) hΓ dX6_happens_80 ic_5 ?_
        refine qa_iconst (v := nI 1) hΓ dX6_happens_81 ic_1 ?_
        refine qc_V0q hΓ dX6_happens_82 lk_X6_49 vw_X6_puts (by omega) (c_X6_puts l (d - 1) hM _ _ _ (by omega) (by omega)) rfl hM.lt hM.o rfl rfl (Nat.le_of_ble_eq_true rfl) (fun w hq => ?_)
        obtain ⟨hM, hF⟩ := hq
        have hF0 := hF0.tr hF
        refine qa_aload_n hΓ dX6_happens_85 rfl ?_
        refine qa_iload_n hΓ dX6_happens_86 rfl ?_
        refine qa_bipush (v := nI 10) hΓ dX6_happens_87 bp_10 ?_
        refine qa_iconst (v := nI 1) hΓ dX6_happens_89 ic_1 ?_
        refine qc_V0q hΓ dX6_happens_90 lk_X6_49 vw_X6_puts (by omega) (c_X6_puts l (d - 1) hM _ _ _ (by omega) (by omega)) rfl hM.lt hM.o rfl rfl (Nat.le_of_ble_eq_true rfl) (fun w hq => ?_)
        obtain ⟨hM, hF⟩ := hq
        have hF0 := hF0.tr hF
        refine qa_aload_n hΓ dX6_happens_93 rfl ?_
        refine qa_iload_n hΓ dX6_happens_94 rfl ?_
        refine qa_bipush (v := nI 11) hΓ dX6_happens_95 bp_11 ?_
        refine qa_aload_n hΓ dX6_happens_97 rfl ?_
        refine qa_get hΓ dX6_happens_98 fk_X6_7 hM.lt hM.o rfl ?_
        refine qa_iconst (v := nI 2) hΓ dX6_happens_101 ic_2 ?_
        refine qz_iald hΓ dX6_happens_102 (hM.lti (i := 1) (by decide)) hM.a0 (by omega) (by decide) ?_
        refine qa_aload_n hΓ dX6_happens_103 rfl ?_
        refine qa_iload_n hΓ dX6_happens_104 rfl ?_
        refine qa_iconst (v := nI 2) hΓ dX6_happens_105 ic_2 ?_
        refine qc_V1 hΓ dX6_happens_106 lk_X6_37 vw_X6_of (by omega) (c_X6_ofE l (d - 1) hM (e / 4) 2 (by omega) (by decide) (y := vv (M 0) (e / 4) 2) (by simp [sset, bset_eq, vv_up, vv_hd])) rfl hM.lt hM.o rfl rfl (Nat.le_of_ble_eq_true rfl) ?_
        refine qz_iadd hΓ dX6_happens_109 ?_
        refine qc_V0q hΓ dX6_happens_110 lk_X6_49 vw_X6_puts (by omega) (c_X6_puts l (d - 1) hM _ _ _ (by omega) (by omega)) rfl hM.lt hM.o rfl rfl (Nat.le_of_ble_eq_true rfl) (fun w hq => ?_)
        obtain ⟨hM, hF⟩ := hq
        have hF0 := hF0.tr hF
        obtain ⟨M1, hM, hU⟩ : ∃ M1, MdAt n w k M1 ∧ Mup M (hp1 (M 0) e) M1 := ⟨_, hM, Mup.of0 (by simp [hp1, sset, bset_eq, vv_up, vv_hd, upN, *]) (fun a ha => by simp [sset, bset, ha])⟩
        exact tail w M1 hM hU hF0 _ _
  · refine qa_aload_n hΓ dX6_happens_24 rfl ?_
    refine qa_iload_n hΓ dX6_happens_25 rfl ?_
    refine qa_bipush (v := nI 10) hΓ dX6_happens_26 bp_10 ?_
    refine qa_iconst (v := nI 0) hΓ dX6_happens_28 ic_0 ?_
    refine qc_V0q hΓ dX6_happens_29 lk_X6_49 vw_X6_puts (by omega) (c_X6_puts l (d - 1) hM _ _ _ (by omega) (by omega)) rfl hM.lt hM.o rfl rfl (Nat.le_of_ble_eq_true rfl) (fun w hq => ?_)
    obtain ⟨hM, hF⟩ := hq
    have hF0 := hF0.tr hF
    refine qa_aload_n hΓ dX6_happens_32 rfl ?_
    refine qa_iload_n hΓ dX6_happens_33 rfl ?_
    refine qa_iconst (v := nI 5) hΓ dX6_happens_34 ic_5 ?_
    refine qa_iconst (v := nI 0) hΓ dX6_happens_35 ic_0 ?_
    refine qc_V0q hΓ dX6_happens_36 lk_X6_49 vw_X6_puts (by omega) (c_X6_puts l (d - 1) hM _ _ _ (by omega) (by omega)) rfl hM.lt hM.o rfl rfl (Nat.le_of_ble_eq_true rfl) (fun w hq => ?_)
    obtain ⟨hM, hF⟩ := hq
    have hF0 := hF0.tr hF
    refine qa_goto (tgt := 113) hΓ dX6_happens_39 (by decide) ?_
    obtain ⟨M1, hM, hU⟩ : ∃ M1, MdAt n w k M1 ∧ Mup M (hp1 (M 0) e) M1 := ⟨_, hM, Mup.of0 (by simp [hp1, sset, bset_eq, vv_up, vv_hd, upN, *]) (fun a ha => by simp [sset, bset, ha])⟩
    exact tail w M1 hM hU hF0 _ _
end
section
/-! The model: settling, its ends, races, the states kept for undo -/
theorem stl_0 (s : Nat → Nat) (rev : Bool) : stl s rev 0 = (0, s) := rfl
theorem stl_none {s : Nat → Nat} {rev : Bool} (m : Nat) (h : nx s rev = none) : stl s rev m = (0, s) := by
  cases m with
  | zero => rfl
  | succ m => unfold stl; rw [h]
theorem stl_some {s : Nat → Nat} {rev : Bool} {e : Nat} (m : Nat) (h : nx s rev = some e) : stl s rev (m + 1) = ((stl (hap s e) rev m).1 + 1, (stl (hap s e) rev m).2) := by
  rw [stl, h]
theorem nx_kind {s : Nat → Nat} {rev : Bool} {e : Nat} (h : nx s rev = some e) : e % 4 < 3 := by
  have h1 := nxt_wt h
  unfold wtB at h1
  split at h1
  · omega
  · simp at h1
    omega
set_option maxRecDepth 100000 in
set_option maxHeartbeats 4000000 in
theorem c_X6_settles (l : Launch) (d : Nat) (hd : 4 ≤ d) {n k : Nat} {w : Nat → AC} {M : Bk} (hM : MdAt n w k M) {B : Nat} (hW : Wt (M 0) B) (rev : Bool) (most : Nat) (hm : most < 1000) (hB : B < 1000000000) : Sq l yX6_settles cX6_settles 5 (some .int) d [aR k, aZ rev.toNat, aZ most] n w (Qv (aZ (stl (M 0) rev most).1) (PS n k M (stl (M 0) rev most).2 w)) := by
  refine Sp.of (plainFor_of_name (by decide)) (Nat.le_of_ble_eq_true rfl) (fun Γ hΓ hR => ?_)
  show Γ 0 [aR k, aZ rev.toNat, aZ most, none, none] [] (0, 0) n w
  have loop : ∀ (m j : Nat) (w1 : Nat → AC) (M1 : Bk), j + m = most → MdAt n w1 k M1 → Mup M (M1 0) M1 → Fr k 6 w w1 → Wt (M1 0) (B + 20 * j) → stl (M 0) rev most = ((stl (M1 0) rev m).1 + j, (stl (M1 0) rev m).2) → Γ 9 [aR k, aZ rev.toNat, aZ most, aZ j, aI (nI9 (nx (M1 0) rev))] [] (0, 0) n w1 := by
    intro m
    induction m with
    | zero =>
      intro j w M1 hj hM hU hF0 hW hs
      rw [stl_0] at hs
      refine qa_iload_n hΓ dX6_settles_9 rfl ?_
      refine qa_iload_n hΓ dX6_settles_10 rfl ?_
      refine qz_icmp_ge (tgt := 40) hΓ dX6_settles_11 (by decide) (by omega) (by omega) (fun _ => ?_) (fun h => absurd h (by omega))
      refine qa_iload_n hΓ dX6_settles_40 rfl ?_
      exact qr_i hR dX6_settles_41 ⟨by rw [hs]; simp, M1, hM, by rw [hs]; exact hU, hF0⟩
    | succ m ih =>
      intro j w M1 hj hM hU hF0 hW hs
      have h8 := hW.2.1
      cases ho : nx (M1 0) rev with
      | none =>
        rw [stl_none _ ho] at hs
        show Γ 9 [aR k, aZ rev.toNat, aZ most, aZ j, aI (-9)] [] (0, 0) n w
        refine qa_iload_n hΓ dX6_settles_9 rfl ?_
        refine qa_iload_n hΓ dX6_settles_10 rfl ?_
        refine qz_icmp_ge (tgt := 40) hΓ dX6_settles_11 (by decide) (by omega) (by omega) (fun h => absurd h (by omega)) (fun _ => ?_)
        refine qa_iload hΓ dX6_settles_14 rfl ?_
        refine qa_bipush (v := (-9)) hΓ dX6_settles_16 bp_m9 ?_
        refine qa_icmp_eq (tgt := 40) hΓ dX6_settles_18 (by decide) (fun _ => ?_) (fun h => absurd rfl h)
        refine qa_iload_n hΓ dX6_settles_40 rfl ?_
        exact qr_i hR dX6_settles_41 ⟨by rw [hs]; simp, M1, hM, by rw [hs]; exact hU, hF0⟩
      | some q =>
        have hq9 := nx_lt ho
        rw [stl_some _ ho] at hs
        show Γ 9 [aR k, aZ rev.toNat, aZ most, aZ j, aZ q] [] (0, 0) n w
        refine qa_iload_n hΓ dX6_settles_9 rfl ?_
        refine qa_iload_n hΓ dX6_settles_10 rfl ?_
        refine qz_icmp_ge (tgt := 40) hΓ dX6_settles_11 (by decide) (by omega) (by omega) (fun h => absurd h (by omega)) (fun _ => ?_)
        refine qa_iload hΓ dX6_settles_14 rfl ?_
        refine qa_bipush (v := (-9)) hΓ dX6_settles_16 bp_m9 ?_
        refine qa_icmp_eq (tgt := 40) hΓ dX6_settles_18 (by decide) (fun h => absurd h (nI_m9 q (by omega))) (fun _ => ?_)
        refine qa_aload_n hΓ dX6_settles_21 rfl ?_
        refine qa_iload hΓ dX6_settles_22 rfl ?_
        refine qc_V0q hΓ dX6_settles_24 lk_X6_75 vw_X6_happens (by omega) (c_X6_happens l (d - 1) (by omega) hM hW (by omega) q (nx_lt ho) (nx_kind ho)) rfl hM.lt hM.o rfl rfl (Nat.le_of_ble_eq_true rfl) (fun w hq => ?_)
        obtain ⟨M2, hM, hU2, hF⟩ := hq
        have hF0 := hF0.tr hF
        have hW2 : Wt (M2 0) (B + 20 * (j + 1)) := by
          rw [hU2.1, show B + 20 * (j + 1) = B + 20 * j + 20 by omega]
          exact hW.hap hq9
        refine qz_iinc hΓ dX6_settles_27 ii_1 rfl (by decide) ?_
        refine qa_aload_n hΓ dX6_settles_30 rfl ?_
        refine qa_iload_n hΓ dX6_settles_31 rfl ?_
        refine qc_V1 hΓ dX6_settles_32 lk_X6_71 vw_X6_next (by omega) (c_X6_next l (d - 1) (by omega) hM hW2 (by omega) _) rfl hM.lt hM.o rfl rfl (Nat.le_of_ble_eq_true rfl) ?_
        refine qa_istore hΓ dX6_settles_35 (by decide) ?_
        refine qa_goto (tgt := 9) hΓ dX6_settles_37 (by decide) ?_
        refine ih (j + 1) w M2 (by omega) hM (by rw [hU2.1]; exact hU.tr hU2) hF0 hW2 ?_
        rw [hs, hU2.1]
        simp
        omega
  refine qa_iconst (v := nI 0) hΓ dX6_settles_0 ic_0 ?_
  refine qa_istore_n hΓ dX6_settles_1 (by decide) ?_
  refine qa_aload_n hΓ dX6_settles_2 rfl ?_
  refine qa_iload_n hΓ dX6_settles_3 rfl ?_
  refine qc_V1 hΓ dX6_settles_4 lk_X6_71 vw_X6_next (by omega) (c_X6_next l (d - 1) (by omega) hM hW (by omega) _) rfl hM.lt hM.o rfl rfl (Nat.le_of_ble_eq_true rfl) ?_
  refine qa_istore hΓ dX6_settles_7 (by decide) ?_
  exact loop most 0 w M (by omega) hM (Mup.rf M) Fr.rf hW rfl

theorem stl_le : ∀ (s : Nat → Nat) (rev : Bool) (m : Nat), (stl s rev m).1 ≤ m
  | s, rev, 0 => Nat.le_refl _
  | s, rev, m + 1 => by
    cases h : nx s rev with
    | none => rw [stl_none _ h]; exact Nat.zero_le _
    | some e =>
      rw [stl_some _ h]
      have := stl_le (hap s e) rev m
      show _ + 1 ≤ _
      omega
set_option maxRecDepth 100000 in
set_option maxHeartbeats 4000000 in
theorem c_X6_ends (l : Launch) (d : Nat) (hd : 5 ≤ d) {n k : Nat} {w : Nat → AC} {M : Bk} (hM : MdAt n w k M) {B : Nat} (hW : Wt (M 0) B) (rev : Bool) (most : Nat) (hm : most < 1000) (hB : B < 1000000000) : Sq l yX6_ends cX6_ends 4 (some .int) d [aR k, aZ rev.toNat, aZ most] n w (Qv (aZ (ndE (M 0) rev most)) (PS n k M (stl (M 0) rev most).2 w)) := by
  refine Sp.of (plainFor_of_name (by decide)) (Nat.le_of_ble_eq_true rfl) (fun Γ hΓ hR => ?_)
  show Γ 0 [aR k, aZ rev.toNat, aZ most, none] [] (0, 0) n w
  refine qa_aload_n hΓ dX6_ends_0 rfl ?_
  refine qa_iload_n hΓ dX6_ends_1 rfl ?_
  refine qa_iload_n hΓ dX6_ends_2 rfl ?_
  refine qc_V1q hΓ dX6_ends_3 lk_X6_127 vw_X6_settles (by omega) (c_X6_settles l (d - 1) (by omega) hM hW _ _ (by omega) (by omega)) rfl hM.lt hM.o rfl rfl (Nat.le_of_ble_eq_true rfl) (fun w hq => ?_)
  obtain ⟨M1, hM, hU, hF⟩ := hq
  have hW1 : Wt (M1 0) (B + 20 * most) := by rw [hU.1]; exact hW.stl
  have hle := stl_le (M 0) rev most
  refine qa_istore_n hΓ dX6_ends_6 (by decide) ?_
  refine qa_aload_n hΓ dX6_ends_7 rfl ?_
  refine qa_iconst (v := nI 3) hΓ dX6_ends_8 ic_3 ?_
  refine qc_V1 hΓ dX6_ends_9 lk_X6_132 vw_X6_set (by omega) (c_X6_set l (d - 1) (by omega) hM _ (by decide) hW1.2.1 (fun r hr => by have := hW1.b (x := 3) hr (by decide); omega)) rfl hM.lt hM.o rfl rfl (Nat.le_of_ble_eq_true rfl) ?_
  refine qa_iload_n hΓ dX6_ends_12 rfl ?_
  refine qz_if_lt (tgt := 32) hΓ dX6_ends_13 (by decide) (by omega) ?_
  refine qa_aload_n hΓ dX6_ends_16 rfl ?_
  refine qa_iload_n hΓ dX6_ends_17 rfl ?_
  refine qc_V1 hΓ dX6_ends_18 lk_X6_71 vw_X6_next (by omega) (c_X6_next l (d - 1) (by omega) hM hW1 (by omega) _) rfl hM.lt hM.o rfl rfl (Nat.le_of_ble_eq_true rfl) ?_
  refine qa_bipush (v := (-9)) hΓ dX6_ends_21 bp_m9 ?_
  cases ho : nx (M1 0) rev with
  | none =>
    refine qa_icmp_ne (tgt := 32) hΓ dX6_ends_23 (by decide) (fun h => absurd rfl h) (fun _ => ?_)
    refine qa_sipush (v := nI 256) hΓ dX6_ends_26 sp_256 ?_
    refine qa_goto (tgt := 33) hΓ dX6_ends_29 (by decide) ?_
    refine qz_iadd hΓ dX6_ends_33 ?_
    exact qr_i hR dX6_ends_34 ⟨by unfold ndE; rw [← hU.1, ho]; rfl, M1, hM, hU, hF⟩
  | some q =>
    have hq9 := nx_lt ho
    have h18 := hW1.2.1
    refine qa_icmp_ne (tgt := 32) hΓ dX6_ends_23 (by decide) (fun _ => ?_) (fun h => absurd h (nI_m9 q (by omega)))
    refine qa_iconst (v := nI 0) hΓ dX6_ends_32 ic_0 ?_
    refine qz_iadd hΓ dX6_ends_33 ?_
    exact qr_i hR dX6_ends_34 ⟨by unfold ndE; rw [← hU.1, ho]; rfl, M1, hM, hU, hF⟩
end
section
/-! The model: races, exchanges, the states kept for undo -/
theorem ndE_le {s : Nat → Nat} {B : Nat} (h : Wt s B) (rev : Bool) (m : Nat) : ndE s rev m ≤ 511 := by
  unfold ndE
  have h1 := mk_256 (stB (stl s rev m).2 3) (h.stl (rev := rev) (m := m)).2.1
  split <;> omega
set_option maxRecDepth 100000 in
set_option maxHeartbeats 4000000 in
theorem c_X6_races (l : Launch) (d : Nat) (hd : 6 ≤ d) {n k : Nat} {w : Nat → AC} {M : Bk} (hM : MdAt n w k M) {B : Nat} (hW : Wt (M 0) B) (hB : B < 900000000) : Sq l yX6_races cX6_races 4 (some .int) d [aR k] n w (Qv (aZ (if ndE (M 0) false 200 = ndE (M 0) true 200 then 0 else 1)) (PS n k (rset M 3 (M 0)) (M 0) w)) := by
  refine Sp.of (plainFor_of_name (by decide)) (Nat.le_of_ble_eq_true rfl) (fun Γ hΓ hR => ?_)
  show Γ 0 [aR k, none, none, none] [] (0, 0) n w
  have cp1 : ∀ (w0 : Nat → AC) (M0 : Bk), MdAt n w0 k M0 → (∀ (w1 : Nat → AC) (c : AV), MdAt n w1 k (rset M0 3 (M0 0)) → Fr k 6 w0 w1 → Γ 27 [aR k, c, none, none] [] (0, 0) n w1) → Γ 2 [aR k, aZ 0, none, none] [] (0, 0) n w0 := by
    intro w0 M0 hM0 K
    have loop : ∀ (m i : Nat) (w1 : Nat → AC) (M1 : Bk), i ≤ 203 → 203 < i + m → MdAt n w1 k M1 → Fr k 6 w0 w1 → (∀ a, a ≠ 3 → M1 a = M0 a) → (∀ j, j < i → M1 3 j = M0 0 j) → Γ 2 [aR k, aZ i, none, none] [] (0, 0) n w1 := by
      intro m
      induction m with
      | zero => intro i w1 M1 h1 h2; exact absurd h2 (by omega)
      | succ m ih =>
        intro i w M1 hi hm hM hF0 he hj
        refine qa_iload_n hΓ dX6_races_2 rfl ?_
        refine qa_sipush (v := nI 203) hΓ dX6_races_3 sp_203 ?_
        refine qz_icmp_ge (tgt := 27) hΓ dX6_races_6 (by decide) (by omega) (by omega) (fun h_6 => ?_) (fun h_6 => ?_)
        · refine K w _ (hM.of_rows (fun a ha => ?_)) hF0
          by_cases e : a = 3
          · subst e
            rw [rset_eq]
            funext j
            rcases Nat.lt_or_ge j 203 with q | q
            · exact (hj j (by omega)).symm
            · rw [hM.nf (by decide) q, hM0.nf (by decide) q]
          · rw [rset_ne _ _ e, he a e]
        · refine qa_aload_n hΓ dX6_races_9 rfl ?_
          refine qa_get hΓ dX6_races_10 fk_X6_19 hM.lt hM.o rfl ?_
          refine qa_iload_n hΓ dX6_races_13 rfl ?_
          refine qa_aload_n hΓ dX6_races_14 rfl ?_
          refine qa_get hΓ dX6_races_15 fk_X6_7 hM.lt hM.o rfl ?_
          refine qa_iload_n hΓ dX6_races_18 rfl ?_
          refine qz_iald hΓ dX6_races_19 (hM.lti (i := 1) (by decide)) hM.a0 (by omega) (by decide) ?_
          refine qM_ast hΓ (N := 203) 3 (by decide) rfl rfl dX6_races_20 hM (by omega) (fun w hM hF => ?_)
          have hF0 := hF0.tr hF
          refine qz_iinc hΓ dX6_races_21 ii_1 rfl (by decide) ?_
          refine qa_goto (tgt := 2) hΓ dX6_races_24 (by decide) ?_
          refine ih (i + 1) w _ (by omega) (by omega) hM hF0 (fun a e => ?_) (fun j h => ?_)
          · rw [bset_ne _ _ _ e, he a e]
          · rw [bset_eq]
            by_cases e : j = i
            · subst e
              rw [upN_self, he 0 (by decide)]
            · rw [upN_ne _ _ _ e]
              exact hj j (by omega)
    exact loop 204 0 w0 M0 (by omega) (by omega) hM0 Fr.rf (fun _ _ => rfl) (fun j h => absurd h (by omega))
  have cp2 : ∀ (w0 : Nat → AC) (M0 : Bk) (u1 : AV), MdAt n w0 k M0 → (∀ (w1 : Nat → AC) (c : AV), MdAt n w1 k (rset M0 0 (M0 3)) → Fr k 6 w0 w1 → Γ 63 [aR k, u1, c, none] [] (0, 0) n w1) → Γ 38 [aR k, u1, aZ 0, none] [] (0, 0) n w0 := by
    intro w0 M0 u1 hM0 K
    have loop : ∀ (m i : Nat) (w1 : Nat → AC) (M1 : Bk), i ≤ 203 → 203 < i + m → MdAt n w1 k M1 → Fr k 6 w0 w1 → (∀ a, a ≠ 0 → M1 a = M0 a) → (∀ j, j < i → M1 0 j = M0 3 j) → Γ 38 [aR k, u1, aZ i, none] [] (0, 0) n w1 := by
      intro m
      induction m with
      | zero => intro i w1 M1 h1 h2; exact absurd h2 (by omega)
      | succ m ih =>
        intro i w M1 hi hm hM hF0 he hj
        refine qa_iload_n hΓ dX6_races_38 rfl ?_
        refine qa_sipush (v := nI 203) hΓ dX6_races_39 sp_203 ?_
        refine qz_icmp_ge (tgt := 63) hΓ dX6_races_42 (by decide) (by omega) (by omega) (fun h_42 => ?_) (fun h_42 => ?_)
        · refine K w _ (hM.of_rows (fun a ha => ?_)) hF0
          by_cases e : a = 0
          · subst e
            rw [rset_eq]
            funext j
            rcases Nat.lt_or_ge j 203 with q | q
            · exact (hj j (by omega)).symm
            · rw [hM.nf (by decide) q, hM0.nf (by decide) q]
          · rw [rset_ne _ _ e, he a e]
        · refine qa_aload_n hΓ dX6_races_45 rfl ?_
          refine qa_get hΓ dX6_races_46 fk_X6_7 hM.lt hM.o rfl ?_
          refine qa_iload_n hΓ dX6_races_49 rfl ?_
          refine qa_aload_n hΓ dX6_races_50 rfl ?_
          refine qa_get hΓ dX6_races_51 fk_X6_19 hM.lt hM.o rfl ?_
          refine qa_iload_n hΓ dX6_races_54 rfl ?_
          refine qz_iald hΓ dX6_races_55 (hM.lti (i := 4) (by decide)) hM.a3 (by omega) (by decide) ?_
          refine qM_ast hΓ (N := 203) 0 (by decide) rfl rfl dX6_races_56 hM (by omega) (fun w hM hF => ?_)
          have hF0 := hF0.tr hF
          refine qz_iinc hΓ dX6_races_57 ii_1 rfl (by decide) ?_
          refine qa_goto (tgt := 38) hΓ dX6_races_60 (by decide) ?_
          refine ih (i + 1) w _ (by omega) (by omega) hM hF0 (fun a e => ?_) (fun j h => ?_)
          · rw [bset_ne _ _ _ e, he a e]
          · rw [bset_eq]
            by_cases e : j = i
            · subst e
              rw [upN_self, he 3 (by decide)]
            · rw [upN_ne _ _ _ e]
              exact hj j (by omega)
    exact loop 204 0 w0 M0 (by omega) (by omega) hM0 Fr.rf (fun _ _ => rfl) (fun j h => absurd h (by omega))
  have cp3 : ∀ (w0 : Nat → AC) (M0 : Bk) (u1 u2 : AV), MdAt n w0 k M0 → (∀ (w1 : Nat → AC) (c : AV), MdAt n w1 k (rset M0 0 (M0 3)) → Fr k 6 w0 w1 → Γ 99 [aR k, u1, u2, c] [] (0, 0) n w1) → Γ 74 [aR k, u1, u2, aZ 0] [] (0, 0) n w0 := by
    intro w0 M0 u1 u2 hM0 K
    have loop : ∀ (m i : Nat) (w1 : Nat → AC) (M1 : Bk), i ≤ 203 → 203 < i + m → MdAt n w1 k M1 → Fr k 6 w0 w1 → (∀ a, a ≠ 0 → M1 a = M0 a) → (∀ j, j < i → M1 0 j = M0 3 j) → Γ 74 [aR k, u1, u2, aZ i] [] (0, 0) n w1 := by
      intro m
      induction m with
      | zero => intro i w1 M1 h1 h2; exact absurd h2 (by omega)
      | succ m ih =>
        intro i w M1 hi hm hM hF0 he hj
        refine qa_iload_n hΓ dX6_races_74 rfl ?_
        refine qa_sipush (v := nI 203) hΓ dX6_races_75 sp_203 ?_
        refine qz_icmp_ge (tgt := 99) hΓ dX6_races_78 (by decide) (by omega) (by omega) (fun h_78 => ?_) (fun h_78 => ?_)
        · refine K w _ (hM.of_rows (fun a ha => ?_)) hF0
          by_cases e : a = 0
          · subst e
            rw [rset_eq]
            funext j
            rcases Nat.lt_or_ge j 203 with q | q
            · exact (hj j (by omega)).symm
            · rw [hM.nf (by decide) q, hM0.nf (by decide) q]
          · rw [rset_ne _ _ e, he a e]
        · refine qa_aload_n hΓ dX6_races_81 rfl ?_
          refine qa_get hΓ dX6_races_82 fk_X6_7 hM.lt hM.o rfl ?_
          refine qa_iload_n hΓ dX6_races_85 rfl ?_
          refine qa_aload_n hΓ dX6_races_86 rfl ?_
          refine qa_get hΓ dX6_races_87 fk_X6_19 hM.lt hM.o rfl ?_
          refine qa_iload_n hΓ dX6_races_90 rfl ?_
          refine qz_iald hΓ dX6_races_91 (hM.lti (i := 4) (by decide)) hM.a3 (by omega) (by decide) ?_
          refine qM_ast hΓ (N := 203) 0 (by decide) rfl rfl dX6_races_92 hM (by omega) (fun w hM hF => ?_)
          have hF0 := hF0.tr hF
          refine qz_iinc hΓ dX6_races_93 ii_1 rfl (by decide) ?_
          refine qa_goto (tgt := 74) hΓ dX6_races_96 (by decide) ?_
          refine ih (i + 1) w _ (by omega) (by omega) hM hF0 (fun a e => ?_) (fun j h => ?_)
          · rw [bset_ne _ _ _ e, he a e]
          · rw [bset_eq]
            by_cases e : j = i
            · subst e
              rw [upN_self, he 3 (by decide)]
            · rw [upN_ne _ _ _ e]
              exact hj j (by omega)
    exact loop 204 0 w0 M0 (by omega) (by omega) hM0 Fr.rf (fun _ _ => rfl) (fun j h => absurd h (by omega))
  refine qa_iconst (v := nI 0) hΓ dX6_races_0 ic_0 ?_
  refine qa_istore_n hΓ dX6_races_1 (by decide) ?_
  refine cp1 w M hM (fun w1 c hM hF => ?_)
  have hF0 := hF
  have hR0 : (rset M 3 (M 0)) 0 = M 0 := rset_ne _ _ (by decide)
  refine qa_aload_n hΓ dX6_races_27 rfl ?_
  refine qa_iconst (v := nI 0) hΓ dX6_races_28 ic_0 ?_
  refine qa_sipush (v := nI 200) hΓ dX6_races_29 sp_200 ?_
  refine qc_V1q hΓ dX6_races_32 lk_X6_138 vw_X6_ends (by omega) (c_X6_ends l (d - 1) (by omega) hM (by rw [hR0]; exact hW) false _ (by decide) (by omega)) rfl hM.lt hM.o rfl rfl (Nat.le_of_ble_eq_true rfl) (fun w hq => ?_)
  obtain ⟨M1, hM, hU, hF⟩ := hq
  have hF0 := hF0.tr hF
  refine qa_istore_n hΓ dX6_races_35 (by decide) ?_
  refine qa_iconst (v := nI 0) hΓ dX6_races_36 ic_0 ?_
  refine qa_istore_n hΓ dX6_races_37 (by decide) ?_
  refine cp2 _ M1 _ hM (fun w1 c hM hF => ?_)
  have hF0 := hF0.tr hF
  have hR1 : (rset M1 0 (M1 3)) 0 = M 0 := by rw [rset_eq, hU.2.1 3 (by decide) (by decide), rset_eq]
  refine qa_aload_n hΓ dX6_races_63 rfl ?_
  refine qa_iconst (v := nI 1) hΓ dX6_races_64 ic_1 ?_
  refine qa_sipush (v := nI 200) hΓ dX6_races_65 sp_200 ?_
  refine qc_V1q hΓ dX6_races_68 lk_X6_138 vw_X6_ends (by omega) (c_X6_ends l (d - 1) (by omega) hM (by rw [hR1]; exact hW) true _ (by decide) (by omega)) rfl hM.lt hM.o rfl rfl (Nat.le_of_ble_eq_true rfl) (fun w hq => ?_)
  obtain ⟨M2, hM, hU2, hF⟩ := hq
  have hF0 := hF0.tr hF
  refine qa_istore_n hΓ dX6_races_71 (by decide) ?_
  refine qa_iconst (v := nI 0) hΓ dX6_races_72 ic_0 ?_
  refine qa_istore_n hΓ dX6_races_73 (by decide) ?_
  refine cp3 _ M2 _ _ hM (fun w1 c hM hF => ?_)
  have hF0 := hF0.tr hF
  have hfin : Mup (rset M 3 (M 0)) (M 0) (rset M2 0 (M2 3)) := by
    have e3 : M2 3 = M 0 := by rw [hU2.2.1 3 (by decide) (by decide), rset_ne _ _ (by decide), hU.2.1 3 (by decide) (by decide), rset_eq]
    refine ⟨by rw [rset_eq, e3], fun a h1 h2 => ?_, ?_, ?_, ?_⟩
    · rw [rset_ne _ _ (by omega), hU2.2.1 a h1 h2, rset_ne _ _ (by omega), hU.2.1 a h1 h2]
    · rw [rset_ne _ _ (by decide), hU2.2.2.1, rset_ne _ _ (by decide), hU.2.2.1]
    · rw [rset_ne _ _ (by decide), hU2.2.2.2.1, rset_ne _ _ (by decide), hU.2.2.2.1]
    · rw [rset_ne _ _ (by decide), hU2.2.2.2.2, rset_ne _ _ (by decide), hU.2.2.2.2]
  rw [hR0, hR1]
  have hn1 : ndE (M 0) false 200 < 4294967296 := Nat.lt_of_le_of_lt (ndE_le hW _ _) (by decide)
  have hn2 : ndE (M 0) true 200 < 4294967296 := Nat.lt_of_le_of_lt (ndE_le hW _ _) (by decide)
  refine qa_iload_n hΓ dX6_races_99 rfl ?_
  refine qa_iload_n hΓ dX6_races_100 rfl ?_
  refine qz_icmp_ne (tgt := 108) hΓ dX6_races_101 (by decide) (by omega) (by omega) (fun h_101 => ?_) (fun h_101 => ?_)
  · refine qa_iconst (v := nI 1) hΓ dX6_races_108 ic_1 ?_
    exact qr_i hR dX6_races_109 ⟨by rw [show (if ndE (M 0) false 200 = ndE (M 0) true 200 then 0 else 1) = 1 from if_neg h_101], _, hM, hfin, hF0⟩
  · refine qa_iconst (v := nI 0) hΓ dX6_races_104 ic_0 ?_
    refine qa_goto (tgt := 109) hΓ dX6_races_105 (by decide) ?_
    exact qr_i hR dX6_races_109 ⟨by rw [show (if ndE (M 0) false 200 = ndE (M 0) true 200 then 0 else 1) = 0 from if_pos h_101], _, hM, hfin, hF0⟩
end
section
/-! The model: rows exchanged, states kept for undo -/
def pst (M : Bk) (i : Nat) : Nat → Nat := fun j => if j < 203 then M 1 (203 * i + j) else 0
def p5 (M : Bk) : Nat := if M 5 0 = 6 then 5 else M 5 0
/-- a state is kept -/
def Ntd (M M' : Bk) : Prop := (∀ a, a ≠ 1 → a ≠ 5 → M' a = M a) ∧ (∀ j, j ≠ 0 → M' 5 j = M 5 j) ∧ M' 5 0 = p5 M + 1 ∧ (∀ i, i < p5 M → pst M' i = pst M (if M 5 0 = 6 then i + 1 else i)) ∧ pst M' (p5 M) = M 0
set_option maxRecDepth 100000 in
set_option maxHeartbeats 4000000 in
theorem c_X6_exchanges (l : Launch) (d : Nat) {n k : Nat} {w : Nat → AC} {M : Bk} (hM0 : MdAt n w k M) : Sq l yX6_exchanges cX6_exchanges 3 none d [aR k] n w (Qn (PM n k (rset (rset M 0 (M 2)) 2 (M 0)) w)) := by
  refine Sp.of (plainFor_of_name (by decide)) (Nat.le_of_ble_eq_true rfl) (fun Γ hΓ hR => ?_)
  show Γ 0 [aR k, none, none] [] (0, 0) n w
  have loop : ∀ (m i : Nat) (w1 : Nat → AC) (M1 : Bk) (v : AV), i ≤ 203 → 203 < i + m → MdAt n w1 k M1 → Fr k 6 w w1 → (∀ a, a ≠ 0 → a ≠ 2 → M1 a = M a) → (∀ j, M1 0 j = if j < i then M 2 j else M 0 j) → (∀ j, M1 2 j = if j < i then M 0 j else M 2 j) → Γ 2 [aR k, aZ i, v] [] (0, 0) n w1 := by
    intro m
    induction m with
    | zero => intro i w1 M1 v h1 h2; exact absurd h2 (by omega)
    | succ m ih =>
      intro i w M1 v hi hm hM hF0 he h0 h2
      refine qa_iload_n hΓ dX6_exchanges_2 rfl ?_
      refine qa_sipush (v := nI 203) hΓ dX6_exchanges_3 sp_203 ?_
      refine qz_icmp_ge (tgt := 41) hΓ dX6_exchanges_6 (by decide) (by omega) (by omega) (fun h_6 => ?_) (fun h_6 => ?_)
      · refine qr_v hR dX6_exchanges_41 ⟨rfl, hM.of_rows (fun a ha => ?_), hF0⟩
        by_cases e : a = 2
        · subst e
          rw [rset_eq]
          funext j
          rw [h2 j]
          rcases Nat.lt_or_ge j 203 with q | q
          · rw [if_pos (by omega)]
          · rw [hM0.nf (by decide) q, hM0.nf (by decide) q]; simp
        · rw [rset_ne _ _ e]
          by_cases e0 : a = 0
          · subst e0
            rw [rset_eq]
            funext j
            rw [h0 j]
            rcases Nat.lt_or_ge j 203 with q | q
            · rw [if_pos (by omega)]
            · rw [hM0.nf (by decide) q, hM0.nf (by decide) q]; simp
          · rw [rset_ne _ _ e0, he a e0 e]
      · refine qa_aload_n hΓ dX6_exchanges_9 rfl ?_
        refine qa_get hΓ dX6_exchanges_10 fk_X6_7 hM.lt hM.o rfl ?_
        refine qa_iload_n hΓ dX6_exchanges_13 rfl ?_
        refine qz_iald hΓ dX6_exchanges_14 (hM.lti (i := 1) (by decide)) hM.a0 (by omega) (by decide) ?_
        refine qa_istore_n hΓ dX6_exchanges_15 (by decide) ?_
        refine qa_aload_n hΓ dX6_exchanges_16 rfl ?_
        refine qa_get hΓ dX6_exchanges_17 fk_X6_7 hM.lt hM.o rfl ?_
        refine qa_iload_n hΓ dX6_exchanges_20 rfl ?_
        refine qa_aload_n hΓ dX6_exchanges_21 rfl ?_
        refine qa_get hΓ dX6_exchanges_22 fk_X6_16 hM.lt hM.o rfl ?_
        refine qa_iload_n hΓ dX6_exchanges_25 rfl ?_
        refine qz_iald hΓ dX6_exchanges_26 (hM.lti (i := 3) (by decide)) hM.a2 (by omega) (by decide) ?_
        refine qM_ast hΓ (N := 203) 0 (by decide) rfl rfl dX6_exchanges_27 hM (by omega) (fun w hM hF => ?_)
        have hF0 := hF0.tr hF
        refine qa_aload_n hΓ dX6_exchanges_28 rfl ?_
        refine qa_get hΓ dX6_exchanges_29 fk_X6_16 hM.lt hM.o rfl ?_
        refine qa_iload_n hΓ dX6_exchanges_32 rfl ?_
        refine qa_iload_n hΓ dX6_exchanges_33 rfl ?_
        refine qM_ast hΓ (N := 203) 2 (by decide) rfl rfl dX6_exchanges_34 hM (by omega) (fun w hM hF => ?_)
        have hF0 := hF0.tr hF
        refine qz_iinc hΓ dX6_exchanges_35 ii_1 rfl (by decide) ?_
        refine qa_goto (tgt := 2) hΓ dX6_exchanges_38 (by decide) ?_
        refine ih (i + 1) w _ _ (by omega) (by omega) hM hF0 (fun a e e2 => ?_) (fun j => ?_) (fun j => ?_)
        · rw [bset_ne _ _ _ e2, bset_ne _ _ _ e, he a e e2]
        · rw [bset_ne _ _ _ (by decide), bset_eq]
          by_cases e : j = i
          · subst e
            rw [upN_self, if_pos (by omega), h2, if_neg (by omega)]
          · rw [upN_ne _ _ _ e, h0]
            by_cases q : j < i
            · rw [if_pos q, if_pos (by omega)]
            · rw [if_neg q, if_neg (by omega)]
        · rw [bset_eq]
          by_cases e : j = i
          · subst e
            rw [upN_self, if_pos (by omega), h0, if_neg (by omega)]
          · rw [upN_ne _ _ _ e, bset_ne _ _ _ (by decide), h2]
            by_cases q : j < i
            · rw [if_pos q, if_pos (by omega)]
            · rw [if_neg q, if_neg (by omega)]
  refine qa_iconst (v := nI 0) hΓ dX6_exchanges_0 ic_0 ?_
  refine qa_istore_n hΓ dX6_exchanges_1 (by decide) ?_
  exact loop 204 0 w M _ (by omega) (by omega) hM0 Fr.rf (fun _ _ _ => rfl) (fun _ => rfl) (fun _ => rfl)

set_option maxRecDepth 100000 in
set_option maxHeartbeats 4000000 in
theorem c_X6_notes (l : Launch) (d : Nat) {n k : Nat} {w : Nat → AC} {M : Bk} (hM : MdAt n w k M) (h6 : M 5 0 ≤ 6) : Sq l yX6_notes cX6_notes 2 none d [aR k] n w (Qn (fun w' => ∃ M', MdAt n w' k M' ∧ Ntd M M' ∧ Fr k 6 w w')) := by
  refine Sp.of (plainFor_of_name (by decide)) (Nat.le_of_ble_eq_true rfl) (fun Γ hΓ hR => ?_)
  show Γ 0 [aR k, none] [] (0, 0) n w
  have hM0 := hM
  have loop2 : ∀ (w0 : Nat → AC) (M2 : Bk) (p : Nat), MdAt n w0 k M2 → M2 5 0 = p → p ≤ 5 → (∀ (w1 : Nat → AC) (M3 : Bk) (v : AV), MdAt n w1 k M3 → Fr k 6 w0 w1 → (∀ a, a ≠ 1 → M3 a = M2 a) → (∀ j, M3 1 j = if 203 * p ≤ j ∧ j < 203 * p + 203 then M2 0 (j - 203 * p) else M2 1 j) → Γ 86 [aR k, v] [] (0, 0) n w1) → Γ 52 [aR k, aZ 0] [] (0, 0) n w0 := by
    intro w0 M2 p hM0 hp hp5 K
    have loop : ∀ (m i : Nat) (w1 : Nat → AC) (M1 : Bk), i ≤ 203 → 203 < i + m → MdAt n w1 k M1 → Fr k 6 w0 w1 → (∀ a, a ≠ 1 → M1 a = M2 a) → (∀ j, M1 1 j = if 203 * p ≤ j ∧ j < 203 * p + i then M2 0 (j - 203 * p) else M2 1 j) → Γ 52 [aR k, aZ i] [] (0, 0) n w1 := by
      intro m
      induction m with
      | zero => intro i w1 M1 h1 h2; exact absurd h2 (by omega)
      | succ m ih =>
        intro i w M1 hi hm hM hF0 he hj
        have hp1 : M1 5 0 = p := by rw [he 5 (by decide), hp]
        refine qa_iload_n hΓ dX6_notes_52 rfl ?_
        refine qa_sipush (v := nI 203) hΓ dX6_notes_53 sp_203 ?_
        refine qz_icmp_ge (tgt := 86) hΓ dX6_notes_56 (by decide) (by omega) (by omega) (fun h_56 => ?_) (fun h_56 => ?_)
        · exact K w M1 _ hM hF0 he (fun j => by rw [hj j, show i = 203 by omega])
        · refine qa_aload_n hΓ dX6_notes_59 rfl ?_
          refine qa_get hΓ dX6_notes_60 fk_X6_13 hM.lt hM.o rfl ?_
          refine qa_sipush (v := nI 203) hΓ dX6_notes_63 sp_203 ?_
          refine qa_aload_n hΓ dX6_notes_66 rfl ?_
          refine qa_get hΓ dX6_notes_67 fk_X6_30 hM.lt hM.o rfl ?_
          refine qz_imul hΓ dX6_notes_70 ?_
          refine qa_iload_n hΓ dX6_notes_71 rfl ?_
          refine qz_iadd hΓ dX6_notes_72 ?_
          refine qa_aload_n hΓ dX6_notes_73 rfl ?_
          refine qa_get hΓ dX6_notes_74 fk_X6_7 hM.lt hM.o rfl ?_
          refine qa_iload_n hΓ dX6_notes_77 rfl ?_
          refine qz_iald hΓ dX6_notes_78 (hM.lti (i := 1) (by decide)) hM.a0 (by omega) (by decide) ?_
          refine qM_ast hΓ (N := 1218) 1 (by decide) rfl rfl dX6_notes_79 hM (by omega) (fun w hM hF => ?_)
          have hF0 := hF0.tr hF
          refine qz_iinc hΓ dX6_notes_80 ii_1 rfl (by decide) ?_
          refine qa_goto (tgt := 52) hΓ dX6_notes_83 (by decide) ?_
          refine ih (i + 1) w _ (by omega) (by omega) hM hF0 (fun a e => ?_) (fun j => ?_)
          · rw [bset_ne _ _ _ e, he a e]
          · rw [bset_eq, hp1]
            by_cases e : j = 203 * p + i
            · subst e
              rw [upN_self, if_pos (by omega), he 0 (by decide)]
              congr 1
              omega
            · rw [upN_ne _ _ _ e, hj j]
              by_cases q : 203 * p ≤ j ∧ j < 203 * p + i
              · rw [if_pos q, if_pos (by omega)]
              · rw [if_neg q, if_neg (by omega)]
    exact loop 204 0 w0 M2 (by omega) (by omega) hM0 Fr.rf (fun _ _ => rfl) (fun j => by rw [if_neg (by omega)])
  have loop1 : ∀ (m i : Nat) (w1 : Nat → AC) (M1 : Bk), i ≤ 1015 → 1015 < i + m → MdAt n w1 k M1 → Fr k 6 w w1 → (∀ a, a ≠ 1 → M1 a = M a) → (∀ j, M1 1 j = if j < i then M 1 (j + 203) else M 1 j) → (∀ (w1 : Nat → AC) (M1 : Bk) (v : AV), MdAt n w1 k M1 → Fr k 6 w w1 → (∀ a, a ≠ 1 → M1 a = M a) → (∀ j, M1 1 j = if j < 1015 then M 1 (j + 203) else M 1 j) → Γ 40 [aR k, v] [] (0, 0) n w1) → Γ 11 [aR k, aZ i] [] (0, 0) n w1 := by
    intro m
    induction m with
    | zero => intro i w1 M1 h1 h2; exact absurd h2 (by omega)
    | succ m ih =>
      intro i w M1 hi hm hM hF0 he hj K
      refine qa_iload_n hΓ dX6_notes_11 rfl ?_
      refine qa_sipush (v := nI 1015) hΓ dX6_notes_12 sp_1015 ?_
      refine qz_icmp_ge (tgt := 40) hΓ dX6_notes_15 (by decide) (by omega) (by omega) (fun h_15 => ?_) (fun h_15 => ?_)
      · exact K w M1 _ hM hF0 he (fun j => by rw [hj j, show i = 1015 by omega])
      · refine qa_aload_n hΓ dX6_notes_18 rfl ?_
        refine qa_get hΓ dX6_notes_19 fk_X6_13 hM.lt hM.o rfl ?_
        refine qa_iload_n hΓ dX6_notes_22 rfl ?_
        refine qa_aload_n hΓ dX6_notes_23 rfl ?_
        refine qa_get hΓ dX6_notes_24 fk_X6_13 hM.lt hM.o rfl ?_
        refine qa_iload_n hΓ dX6_notes_27 rfl ?_
        refine qa_sipush (v := nI 203) hΓ dX6_notes_28 sp_203 ?_
        refine qz_iadd hΓ dX6_notes_31 ?_
        refine qz_iald hΓ dX6_notes_32 (hM.lti (i := 2) (by decide)) hM.a1 (by omega) (by decide) ?_
        refine qM_ast hΓ (N := 1218) 1 (by decide) rfl rfl dX6_notes_33 hM (by omega) (fun w hM hF => ?_)
        have hF0 := hF0.tr hF
        refine qz_iinc hΓ dX6_notes_34 ii_1 rfl (by decide) ?_
        refine qa_goto (tgt := 11) hΓ dX6_notes_37 (by decide) ?_
        refine ih (i + 1) w _ (by omega) (by omega) hM hF0 (fun a e => ?_) (fun j => ?_) K
        · rw [bset_ne _ _ _ e, he a e]
        · rw [bset_eq]
          by_cases e : j = i
          · subst e
            rw [upN_self, if_pos (by omega), hj, if_neg (by omega)]
          · rw [upN_ne _ _ _ e, hj j]
            by_cases q : j < i
            · rw [if_pos q, if_pos (by omega)]
            · rw [if_neg q, if_neg (by omega)]
  refine qa_aload_n hΓ dX6_notes_0 rfl ?_
  refine qa_get hΓ dX6_notes_1 fk_X6_30 hM.lt hM.o rfl ?_
  refine qa_bipush (v := nI 6) hΓ dX6_notes_4 bp_6 ?_
  refine qz_icmp_ne (tgt := 50) hΓ dX6_notes_6 (by decide) (by omega) (by omega) (fun h_6 => ?_) (fun h_6 => ?_)
  · refine qa_iconst (v := nI 0) hΓ dX6_notes_50 ic_0 ?_
    refine qa_istore_n hΓ dX6_notes_51 (by decide) ?_
    refine loop2 _ _ (M 5 0) hM rfl (by omega) (fun w1 M3 v hM hF0 he3 hj3 => ?_)
    refine qa_aload_n hΓ dX6_notes_86 rfl ?_
    refine qa_dup hΓ dX6_notes_87 ?_
    refine qa_get hΓ dX6_notes_88 fk_X6_30 hM.lt hM.o rfl ?_
    refine qa_iconst (v := nI 1) hΓ dX6_notes_91 ic_1 ?_
    refine qz_iadd hΓ dX6_notes_92 ?_
    refine qM_put hΓ 0 dX6_notes_93 fk_X6_30 (by decide) hM (fun w hM hF => ?_)
    have hF0 := hF0.tr hF
    have e5 : p5 M = M 5 0 := by unfold p5; rw [if_neg h_6]
    refine qr_v hR dX6_notes_96 ⟨rfl, _, hM, ⟨fun a h1 h5 => ?_, fun j hj => ?_, ?_, fun i hi => ?_, ?_⟩, hF0⟩
    · rw [bset_ne _ _ _ h5, he3 a h1]
    · rw [bset_eq, upN_ne _ _ _ hj, he3 5 (by decide)]
    · rw [bset_eq, upN_self, he3 5 (by decide), e5]
    · rw [e5] at hi
      rw [if_neg h_6]
      funext j
      unfold pst
      split
      · rw [bset_ne _ _ _ (by decide), hj3, if_neg (by omega)]
      · rfl
    · rw [e5]
      funext j
      unfold pst
      split
      · rw [bset_ne _ _ _ (by decide), hj3, if_pos (by omega)]
        congr 1
        omega
      · exact (hM0.nf (i := 0) (by decide) (show 203 ≤ j by omega)).symm
  · refine qa_iconst (v := nI 0) hΓ dX6_notes_9 ic_0 ?_
    refine qa_istore_n hΓ dX6_notes_10 (by decide) ?_
    refine loop1 1016 0 w M (by omega) (by omega) hM Fr.rf (fun _ _ => rfl) (fun j => by rw [if_neg (by omega)]) (fun w1 M1 v hM hF0 he hj => ?_)
    have hp6 : M 5 0 = 6 := h_6
    have h15 : M1 5 0 = 6 := by rw [he 5 (by decide), h_6]
    refine qa_aload_n hΓ dX6_notes_40 rfl ?_
    refine qa_dup hΓ dX6_notes_41 ?_
    refine qa_get hΓ dX6_notes_42 fk_X6_30 hM.lt hM.o rfl ?_
    refine qa_iconst (v := nI 1) hΓ dX6_notes_45 ic_1 ?_
    refine qz_isub hΓ dX6_notes_46 (by omega) ?_
    refine qM_put hΓ 0 dX6_notes_47 fk_X6_30 (by decide) hM (fun w hM hF => ?_)
    have hF0 := hF0.tr hF
    refine qa_iconst (v := nI 0) hΓ dX6_notes_50 ic_0 ?_
    refine qa_istore_n hΓ dX6_notes_51 (by decide) ?_
    refine loop2 _ _ 5 hM (by rw [bset_eq, upN_self, h15]) (by decide) (fun w1 M3 v hM hF3 he3 hj3 => ?_)
    have hF0 := hF0.tr hF3
    refine qa_aload_n hΓ dX6_notes_86 rfl ?_
    refine qa_dup hΓ dX6_notes_87 ?_
    refine qa_get hΓ dX6_notes_88 fk_X6_30 hM.lt hM.o rfl ?_
    refine qa_iconst (v := nI 1) hΓ dX6_notes_91 ic_1 ?_
    refine qz_iadd hΓ dX6_notes_92 ?_
    refine qM_put hΓ 0 dX6_notes_93 fk_X6_30 (by decide) hM (fun w hM hF => ?_)
    have hF0 := hF0.tr hF
    refine qr_v hR dX6_notes_96 ⟨rfl, _, hM, ⟨fun a h1 h5 => ?_, fun j hj => ?_, ?_, fun i hi => ?_, ?_⟩, hF0⟩
    · rw [bset_ne _ _ _ h5, he3 a h1, bset_ne _ _ _ h5, he a h1]
    · rw [bset_eq, upN_ne _ _ _ hj, he3 5 (by decide), bset_eq, upN_ne _ _ _ hj, he 5 (by decide)]
    · rw [bset_eq, upN_self, he3 5 (by decide), bset_eq, upN_self, he 5 (by decide), hp6]; unfold p5; rw [if_pos h_6]
    · have e5 : p5 M = 5 := by unfold p5; rw [if_pos h_6]
      rw [e5] at hi
      rw [if_pos h_6]
      funext j
      unfold pst
      split
      · rw [bset_ne _ _ _ (by decide), hj3, if_neg (by omega), bset_ne _ _ _ (by decide), hj, if_pos (by omega)]
        congr 1
        omega
      · rfl
    · have e5 : p5 M = 5 := by unfold p5; rw [if_pos h_6]
      rw [e5]
      funext j
      unfold pst
      split
      · rw [bset_ne _ _ _ (by decide), hj3, if_pos (by omega), bset_ne _ _ _ (by decide), he 0 (by decide)]
        congr 1
        omega
      · exact (hM0.nf (i := 0) (by decide) (show 203 ≤ j by omega)).symm

set_option maxRecDepth 100000 in
set_option maxHeartbeats 4000000 in
theorem c_X6_undo (l : Launch) (d : Nat) {n k : Nat} {w : Nat → AC} {M : Bk} (hM : MdAt n w k M) (h6 : M 5 0 ≤ 6) : Sq l yX6_undo cX6_undo 2 (some .int) d [aR k] n w (Qv (aI (if M 5 0 = 0 then -2 else nI (M 5 0 - 1))) (PM n k (if M 5 0 = 0 then M else rset (bset M 5 0 (M 5 0 - 1)) 0 (pst M (M 5 0 - 1))) w)) := by
  refine Sp.of (plainFor_of_name (by decide)) (Nat.le_of_ble_eq_true rfl) (fun Γ hΓ hR => ?_)
  show Γ 0 [aR k, none] [] (0, 0) n w
  have hM0 := hM
  have loop : ∀ (m i : Nat) (w1 : Nat → AC) (M1 : Bk), i ≤ 203 → 203 < i + m → MdAt n w1 k M1 → Fr k 6 w w1 → (∀ a, a ≠ 0 → M1 a = bset M 5 0 (M 5 0 - 1) a) → (∀ j, j < i → M1 0 j = M 1 (203 * (M 5 0 - 1) + j)) → M 5 0 ≠ 0 → Γ 22 [aR k, aZ i] [] (0, 0) n w1 := by
    intro m
    induction m with
    | zero => intro i w1 M1 h1 h2; exact absurd h2 (by omega)
    | succ m ih =>
      intro i w M1 hi hm hM hF0 he hj hne
      have hp1 : M1 5 0 = M 5 0 - 1 := by rw [he 5 (by decide), bset_eq, upN_self]
      refine qa_iload_n hΓ dX6_undo_22 rfl ?_
      refine qa_sipush (v := nI 203) hΓ dX6_undo_23 sp_203 ?_
      refine qz_icmp_ge (tgt := 56) hΓ dX6_undo_26 (by decide) (by omega) (by omega) (fun h_26 => ?_) (fun h_26 => ?_)
      · refine qa_aload_n hΓ dX6_undo_56 rfl ?_
        refine qa_get hΓ dX6_undo_57 fk_X6_30 hM.lt hM.o rfl ?_
        refine qr_i hR dX6_undo_60 ⟨by rw [if_neg hne, hp1], hM.of_rows (fun a ha => ?_), hF0⟩
        by_cases e : a = 0
        · subst e
          rw [if_neg hne, rset_eq]
          funext j
          unfold pst
          rcases Nat.lt_or_ge j 203 with q | q
          · rw [if_pos q, hj j (by omega)]
          · rw [if_neg (by omega), hM.nf (by decide) q]
        · rw [if_neg hne, rset_ne _ _ e, he a e]
      · refine qa_aload_n hΓ dX6_undo_29 rfl ?_
        refine qa_get hΓ dX6_undo_30 fk_X6_7 hM.lt hM.o rfl ?_
        refine qa_iload_n hΓ dX6_undo_33 rfl ?_
        refine qa_aload_n hΓ dX6_undo_34 rfl ?_
        refine qa_get hΓ dX6_undo_35 fk_X6_13 hM.lt hM.o rfl ?_
        refine qa_sipush (v := nI 203) hΓ dX6_undo_38 sp_203 ?_
        refine qa_aload_n hΓ dX6_undo_41 rfl ?_
        refine qa_get hΓ dX6_undo_42 fk_X6_30 hM.lt hM.o rfl ?_
        refine qz_imul hΓ dX6_undo_45 ?_
        refine qa_iload_n hΓ dX6_undo_46 rfl ?_
        refine qz_iadd hΓ dX6_undo_47 ?_
        refine qz_iald hΓ dX6_undo_48 (hM.lti (i := 2) (by decide)) hM.a1 (by omega) (by decide) ?_
        refine qM_ast hΓ (N := 203) 0 (by decide) rfl rfl dX6_undo_49 hM (by omega) (fun w hM hF => ?_)
        have hF0 := hF0.tr hF
        refine qz_iinc hΓ dX6_undo_50 ii_1 rfl (by decide) ?_
        refine qa_goto (tgt := 22) hΓ dX6_undo_53 (by decide) ?_
        refine ih (i + 1) w _ (by omega) (by omega) hM hF0 (fun a e => ?_) (fun j h => ?_) hne
        · rw [bset_ne _ _ _ e, he a e]
        · rw [bset_eq]
          by_cases e : j = i
          · subst e
            rw [upN_self, he 1 (by decide), bset_ne _ _ _ (by decide), hp1]
          · rw [upN_ne _ _ _ e]
            exact hj j (by omega)
  refine qa_aload_n hΓ dX6_undo_0 rfl ?_
  refine qa_get hΓ dX6_undo_1 fk_X6_30 hM.lt hM.o rfl ?_
  refine qz_if_ne (tgt := 10) hΓ dX6_undo_4 (by decide) (by omega) (fun h_4 => ?_) (fun h_4 => ?_)
  · have hF0 : Fr k 6 w w := Fr.rf
    refine qa_aload_n hΓ dX6_undo_10 rfl ?_
    refine qa_dup hΓ dX6_undo_11 ?_
    refine qa_get hΓ dX6_undo_12 fk_X6_30 hM.lt hM.o rfl ?_
    refine qa_iconst (v := nI 1) hΓ dX6_undo_15 ic_1 ?_
    refine qz_isub hΓ dX6_undo_16 (by omega) ?_
    refine qM_put hΓ 0 dX6_undo_17 fk_X6_30 (by decide) hM (fun w hM hF => ?_)
    have hF0 := hF0.tr hF
    refine qa_iconst (v := nI 0) hΓ dX6_undo_20 ic_0 ?_
    refine qa_istore_n hΓ dX6_undo_21 (by decide) ?_
    exact loop 204 0 w _ (by omega) (by omega) hM hF (fun _ _ => rfl) (fun j h => absurd h (by omega)) h_4
  · refine qa_bipush (v := (-2)) hΓ dX6_undo_7 bp_m2 ?_
    exact qr_i hR dX6_undo_9 ⟨by rw [if_pos h_4], by rw [if_pos h_4]; exact hM, Fr.rf⟩
end
section
/-! The model: the calls on relays and circuits -/
theorem Mup.putE {n k r x y : Nat} {w : Nat → AC} {M0 M1 : Bk} {s : Nat → Nat} (hM : MdAt n w k (sset M1 r x y)) (hU : Mup M0 s M1) : ∃ M2, MdAt n w k M2 ∧ Mup M0 (upN s (ix r x) y) M2 := ⟨_, hM, hU.put _ _⟩
theorem Mup.setE {n k j y : Nat} {w : Nat → AC} {M0 M1 : Bk} {s : Nat → Nat} (hM : MdAt n w k (bset M1 0 j y)) (hU : Mup M0 s M1) : ∃ M2, MdAt n w k M2 ∧ Mup M0 (upN s j y) M2 := ⟨_, hM, hU.put _ _⟩
theorem Mup.chgE {n k y : Nat} {w : Nat → AC} {M0 M1 : Bk} {s : Nat → Nat} (hM : MdAt n w k (bset M1 5 2 y)) (hU : Mup M0 s M1) : ∃ M2, MdAt n w k M2 ∧ Mup M0 s M2 := ⟨_, hM, hU.chg _⟩
theorem Mup.lookE {M0 M1 M2 : Bk} {s : Nat → Nat} (hU : Mup M0 s M1) (hU2 : Mup M1 (lks (M1 0)).2 M2) : Mup M0 (lks s).2 M2 := by
  rw [hU.1] at hU2
  exact hU.tr hU2
theorem Ntd.mup {M M1 : Bk} (h : Ntd M M1) : Mup M1 (M 0) M1 := by
  have := Mup.rf M1
  rw [h.1 0 (by decide) (by decide)] at this
  exact this
theorem c_X6_ofU (l : Launch) (d : Nat) {n k : Nat} {w : Nat → AC} {M0 M : Bk} {s : Nat → Nat} (hM : MdAt n w k M) (hU : Mup M0 s M) (r x : Nat) (hr : r < 8) (hx : x < 25) : Sq l yX6_of cX6_of 3 (some .int) d [aR k, aZ r, aZ x] n w (Rs (some (aZ (vv s r x))) w) := by
  have h := c_X6_of l d hM r x hr hx
  rw [hU.1] at h
  exact h
/-- nothing that counts has changed -/
def Sm (M M' : Bk) : Prop := M' 0 = M 0 ∧ M' 1 = M 1 ∧ M' 5 0 = M 5 0 ∧ M' 4 = M 4 ∧ M' 5 1 = M 5 1
/-- the state is kept, and s is the new one -/
def Nt (M M' : Bk) : Prop := M' 5 0 = p5 M + 1 ∧ (∀ i, i < p5 M → pst M' i = pst M (if M 5 0 = 6 then i + 1 else i)) ∧ pst M' (p5 M) = M 0
def Op (M : Bk) (s : Nat → Nat) (M' : Bk) : Prop := Nt M M' ∧ M' 0 = s ∧ M' 4 = M 4 ∧ M' 5 1 = M 5 1
theorem Sm.rf (M : Bk) : Sm M M := ⟨rfl, rfl, rfl, rfl, rfl⟩
theorem Op.of {M M1 M' : Bk} {s : Nat → Nat} (hN : Ntd M M1) (hU : Mup M1 s M') : Op M s M' := by
  obtain ⟨n1, n2, n3, n4, n5⟩ := hN
  have e : ∀ i, pst M' i = pst M1 i := fun i => by unfold pst; rw [hU.2.1 1 (by decide) (by decide)]
  exact ⟨⟨hU.2.2.1.trans n3, fun i hi => (e i).trans (n4 i hi), (e _).trans n5⟩, hU.1, (hU.2.1 4 (by decide) (by decide)).trans (n1 4 (by decide) (by decide)), hU.2.2.2.1.trans (n2 1 (by decide))⟩
theorem Mup.sm {M M' : Bk} (h : Mup M (M 0) M') : Sm M M' := ⟨h.1, h.2.1 1 (by decide) (by decide), h.2.2.1, h.2.1 4 (by decide) (by decide), h.2.2.2.1⟩
def tn (x : Int32) : Nat := x.toNatClampNeg
theorem tn_nI {a : Nat} (h : a < 2147483648) : tn (nI a) = a := nI_clamp h
theorem rng {lo hi : Nat} {x : Int32} (hh : hi < 2147483648) (h : nI lo ≤ x ∧ x ≤ nI hi) (hlo : lo < 2147483648) : ∃ a, lo ≤ a ∧ a ≤ hi ∧ x = nI a := by
  obtain ⟨h1, h2⟩ := h
  have h0 : ¬ x < 0 := by
    rw [Int32.not_lt]
    exact Int32.le_trans (nI_pos' hlo) h1
  obtain ⟨j, hj, rfl⟩ := nI_of h0
  exact ⟨j, (nI_leI hlo hj).mp h1, (nI_leI hj hh).mp h2, rfl⟩
theorem rngI {lo hi a : Nat} (hh : hi < 2147483648) (hlo : lo < 2147483648) (ha : a < 2147483648) : (nI lo ≤ nI a ∧ nI a ≤ nI hi) ↔ lo ≤ a ∧ a ≤ hi := by
  rw [nI_leI hlo ha, nI_leI ha hh]
abbrev isR (n : Nat) (v : Int32) : Prop := nI 0 ≤ v ∧ v ≤ nI n - nI 1
theorem isR_of {n : Nat} {v : Int32} (hn : n < 2147483648) (h : isR n v) : ∃ r, r < n ∧ v = nI r := by
  rcases Nat.eq_zero_or_pos n with rfl | hp
  · exfalso
    have h1 := Int32.le_trans h.1 h.2
    exact absurd h1 (by decide)
  · have h2 := h.2
    rw [nI_sub hp] at h2
    obtain ⟨a, h3, h4, h5⟩ := rng (lo := 0) (hi := n - 1) (by omega) ⟨h.1, h2⟩ (by decide)
    exact ⟨a, by omega, h5⟩
theorem isR_nI {n r : Nat} (h : r < n) (hn : n < 2147483648) : isR n (nI r) := by
  show _ ∧ _ ≤ nI n - nI 1
  rw [nI_sub (show 1 ≤ n by omega)]
  exact (rngI (by omega) (by decide) (by omega)).mpr ⟨Nat.zero_le _, by omega⟩
abbrev okD (u v x : Int32) : Prop := (nI 1 ≤ u ∧ u ≤ nI 20) ∧ (nI 1 ≤ v ∧ v ≤ nI 20) ∧ (nI 0 ≤ x ∧ x ≤ nI 5)

theorem testBit_lt {a i m : Nat} (h : a < 2 ^ m) (hi : m ≤ i) : a.testBit i = false := Nat.testBit_lt_two_pow (Nat.lt_of_lt_of_le h (Nat.pow_le_pow_right (by decide) hi))
def how3 (s : Nat → Nat) (r b x : Nat) : Nat := if (vv s r (13 + 2 * b)).testBit x then 1 else if (vv s r (13 + 2 * b + 1)).testBit x then 2 else 0
set_option maxRecDepth 100000 in
set_option maxHeartbeats 4000000 in
theorem c_X6_how (l : Launch) (d : Nat) (hd : 1 ≤ d) {n k : Nat} {w : Nat → AC} {M : Bk} (hM : MdAt n w k M) (r b x : Nat) (hr : r < 8) (hb6 : b < 6) (hx : x < 32) (hb : ∀ x, x < 25 → vv (M 0) r x < 2147483648) : Sq l yX6_how cX6_how 6 (some .int) d [aR k, aZ r, aZ b, aZ x] n w (Rs (some (aZ (how3 (M 0) r b x))) w) := by
  refine Sp.of (plainFor_of_name (by decide)) (Nat.le_of_ble_eq_true rfl) (fun Γ hΓ hR => ?_)
  show Γ 0 [aR k, aZ r, aZ b, aZ x, none, none] [] (0, 0) n w
  have hb1 := hb (13 + 2 * b) (by omega)
  have hb2 := hb (13 + 2 * b + 1) (by omega)
  refine qa_aload_n hΓ dX6_how_0 rfl ?_
  refine qa_iload_n hΓ dX6_how_1 rfl ?_
  refine qa_bipush (v := nI 13) hΓ dX6_how_2 bp_13 ?_
  refine qa_iconst (v := nI 2) hΓ dX6_how_4 ic_2 ?_
  refine qa_iload_n hΓ dX6_how_5 rfl ?_
  refine qz_imul hΓ dX6_how_6 ?_
  refine qz_iadd hΓ dX6_how_7 ?_
  refine qc_V1 hΓ dX6_how_8 lk_X6_37 vw_X6_of (by omega) (c_X6_of l (d - 1) hM _ _ (by omega) (by omega)) rfl hM.lt hM.o rfl rfl (Nat.le_of_ble_eq_true rfl) ?_
  refine qa_iload_n hΓ dX6_how_11 rfl ?_
  refine qz_ishr hΓ dX6_how_12 (by omega) (by omega) ?_
  refine qa_iconst (v := nI 1) hΓ dX6_how_13 ic_1 ?_
  refine qz_iand hΓ dX6_how_14 ?_
  refine qa_istore hΓ dX6_how_15 (by decide) ?_
  refine qa_aload_n hΓ dX6_how_17 rfl ?_
  refine qa_iload_n hΓ dX6_how_18 rfl ?_
  refine qa_bipush (v := nI 13) hΓ dX6_how_19 bp_13 ?_
  refine qa_iconst (v := nI 2) hΓ dX6_how_21 ic_2 ?_
  refine qa_iload_n hΓ dX6_how_22 rfl ?_
  refine qz_imul hΓ dX6_how_23 ?_
  refine qz_iadd hΓ dX6_how_24 ?_
  refine qa_iconst (v := nI 1) hΓ dX6_how_25 ic_1 ?_
  refine qz_iadd hΓ dX6_how_26 ?_
  refine qc_V1 hΓ dX6_how_27 lk_X6_37 vw_X6_of (by omega) (c_X6_of l (d - 1) hM _ _ (by omega) (by omega)) rfl hM.lt hM.o rfl rfl (Nat.le_of_ble_eq_true rfl) ?_
  refine qa_iload_n hΓ dX6_how_30 rfl ?_
  refine qz_ishr hΓ dX6_how_31 (by omega) (by omega) ?_
  refine qa_iconst (v := nI 1) hΓ dX6_how_32 ic_1 ?_
  refine qz_iand hΓ dX6_how_33 ?_
  refine qa_istore hΓ dX6_how_34 (by decide) ?_
  have ha1 : vv (M 0) r (13 + 2 * b) >>> x &&& 1 ≤ 1 := Nat.and_le_right
  refine qa_iload hΓ dX6_how_36 rfl ?_
  refine qa_iconst (v := nI 1) hΓ dX6_how_38 ic_1 ?_
  refine qz_icmp_ne (tgt := 46) hΓ dX6_how_39 (by decide) (by omega) (by omega) (fun h_39 => ?_) (fun h_39 => ?_)
  · refine qa_iconst (v := nI 2) hΓ dX6_how_46 ic_2 ?_
    refine qa_iload hΓ dX6_how_47 rfl ?_
    refine qz_imul hΓ dX6_how_49 ?_
    exact qr_i hR dX6_how_50 ⟨by simp only [bt1] at h_39 ⊢; rw [show how3 (M 0) r b x = 2 * ((vv (M 0) r (13 + 2 * b + 1)).testBit x).toNat from by unfold how3; cases q : (vv (M 0) r (13 + 2 * b)).testBit x <;> cases q2 : (vv (M 0) r (13 + 2 * b + 1)).testBit x <;> simp [q] at h_39 ⊢], rfl⟩
  · refine qa_iconst (v := nI 1) hΓ dX6_how_42 ic_1 ?_
    refine qa_goto (tgt := 50) hΓ dX6_how_43 (by decide) ?_
    exact qr_i hR dX6_how_50 ⟨by simp only [bt1] at h_39; rw [show how3 (M 0) r b x = 1 from by unfold how3; cases q : (vv (M 0) r (13 + 2 * b)).testBit x <;> simp [q] at h_39 ⊢], rfl⟩

abbrev isS (n : Nat) (v : Int32) : Prop := nI 0 ≤ v ∧ v ≤ nI (7 + n)
theorem isS_8 {n : Nat} {v : Int32} (h8 : n ≤ 8) (h : isS n v) (h2 : ¬ v < nI 8) : nI 0 ≤ v - nI 8 ∧ v - nI 8 ≤ nI n - nI 1 := by
  obtain ⟨a, h3, h4, rfl⟩ := rng (by omega) h (by decide)
  have h5 : 8 ≤ a := by
    rcases Nat.lt_or_ge a 8 with q | q
    · exact absurd ((nI_ltI (by omega) (by decide)).mpr q) h2
    · exact q
  rw [nI_sub h5]
  exact isR_nI (by omega) (by omega)
set_option maxRecDepth 100000 in
set_option maxHeartbeats 4000000 in
theorem c_X6_isSubject (l : Launch) (d : Nat) (hd : 2 ≤ d) {n k : Nat} {w : Nat → AC} {M : Bk} (hM : MdAt n w k M) (v : Int32) (h8 : M 0 1 ≤ 8) : Sq l yX6_isSubject cX6_isSubject 2 (some .boolean) d [aR k, aI v] n w (Rs (some (aZ (decide (isS (M 0 1) v)).toNat)) w) := by
  refine Sp.of (plainFor_of_name (by decide)) (Nat.le_of_ble_eq_true rfl) (fun Γ hΓ hR => ?_)
  show Γ 0 [aR k, aI v] [] (0, 0) n w
  refine qa_iload_n hΓ dX6_isSubject_0 rfl ?_
  refine qa_iconst (v := nI 0) hΓ dX6_isSubject_1 ic_0 ?_
  refine qa_bipush (v := nI 7) hΓ dX6_isSubject_2 bp_7 ?_
  refine qa_aload_n hΓ dX6_isSubject_4 rfl ?_
  refine qa_get hΓ dX6_isSubject_5 fk_X6_7 hM.lt hM.o rfl ?_
  refine qa_iconst (v := nI 1) hΓ dX6_isSubject_8 ic_1 ?_
  refine qz_iald hΓ dX6_isSubject_9 (hM.lti (i := 1) (by decide)) hM.a0 (by omega) (by decide) ?_
  refine qz_iadd hΓ dX6_isSubject_10 ?_
  refine qc_S1 hΓ dX6_isSubject_11 lk_X6_33 vw_X6_in (by omega) (c_X6_in l (d - 1) _ _ _) rfl rfl (Nat.le_of_ble_eq_true rfl) ?_
  refine qb_if_eq (tgt := 38) hΓ dX6_isSubject_14 (by decide) (fun h_14 => ?_) (fun h_14 => ?_)
  · refine qa_iconst (v := nI 0) hΓ dX6_isSubject_38 ic_0 ?_
    exact qr_b (p := false) hR dX6_isSubject_39 ⟨congrArg (fun p : Bool => some (aZ p.toNat)) (decide_eq_false (fun q => by first | exact of_decide_eq_false h_14 q | exact of_decide_eq_false h_31 (isS_8 h8 q h_20))).symm, rfl⟩
  · refine qa_iload_n hΓ dX6_isSubject_17 rfl ?_
    refine qa_bipush (v := nI 8) hΓ dX6_isSubject_18 bp_8 ?_
    refine qa_icmp_lt (tgt := 34) hΓ dX6_isSubject_20 (by decide) (fun h_20 => ?_) (fun h_20 => ?_)
    · refine qa_iconst (v := nI 1) hΓ dX6_isSubject_34 ic_1 ?_
      refine qa_goto (tgt := 39) hΓ dX6_isSubject_35 (by decide) ?_
      exact qr_b (p := true) hR dX6_isSubject_39 ⟨congrArg (fun p : Bool => some (aZ p.toNat)) (decide_eq_true (of_decide_eq_true h_14)).symm, rfl⟩
    · refine qa_aload_n hΓ dX6_isSubject_23 rfl ?_
      refine qa_iload_n hΓ dX6_isSubject_24 rfl ?_
      refine qa_bipush (v := nI 8) hΓ dX6_isSubject_25 bp_8 ?_
      refine qa_isub hΓ dX6_isSubject_27 ?_
      refine qc_V1 hΓ dX6_isSubject_28 lk_X6_82 vw_X6_isRelay (by omega) (c_X6_isRelay l (d - 1) (by omega) hM _) rfl hM.lt hM.o rfl rfl (Nat.le_of_ble_eq_true rfl) ?_
      refine qb_if_eq (tgt := 38) hΓ dX6_isSubject_31 (by decide) (fun h_31 => ?_) (fun h_31 => ?_)
      · refine qa_iconst (v := nI 0) hΓ dX6_isSubject_38 ic_0 ?_
        exact qr_b (p := false) hR dX6_isSubject_39 ⟨congrArg (fun p : Bool => some (aZ p.toNat)) (decide_eq_false (fun q => by first | exact of_decide_eq_false h_14 q | exact of_decide_eq_false h_31 (isS_8 h8 q h_20))).symm, rfl⟩
      · refine qa_iconst (v := nI 1) hΓ dX6_isSubject_34 ic_1 ?_
        refine qa_goto (tgt := 39) hΓ dX6_isSubject_35 (by decide) ?_
        exact qr_b (p := true) hR dX6_isSubject_39 ⟨congrArg (fun p : Bool => some (aZ p.toNat)) (decide_eq_true (of_decide_eq_true h_14)).symm, rfl⟩
end
section
/-! The model: calls that change relays and circuits -/
def QM (sp : Int32 → Bk → Prop) (n k : Nat) (w : Nat → AC) : Option AV → (Nat → AC) → Prop := fun r w' => ∃ rr M', r = some (aI rr) ∧ MdAt n w' k M' ∧ Fr k 6 w w' ∧ sp rr M'
def clr (a x : Nat) : Nat := a &&& (65535 ^^^ (1 <<< x))
theorem clr_int {a x : Nat} (ha : a < 65536) (hx : x < 16) : nI a &&& (nI (1 <<< x) ^^^ (-1)) = nI (clr a x) := by
  unfold clr
  apply Int32.toBitVec_inj.mp
  rw [Int32.toBitVec_and, Int32.toBitVec_xor, show (-1 : Int32).toBitVec = BitVec.allOnes 32 from rfl, BitVec.xor_allOnes]
  apply BitVec.eq_of_getLsbD_eq
  intro i hi
  show (BitVec.ofNat 32 a &&& ~~~ (BitVec.ofNat 32 (1 <<< x))).getLsbD i = (BitVec.ofNat 32 (a &&& (65535 ^^^ 1 <<< x))).getLsbD i
  simp only [BitVec.getLsbD_and, BitVec.getLsbD_not, BitVec.getLsbD_ofNat, hi, decide_true, Bool.true_and, Nat.testBit_and, Nat.testBit_xor]
  rw [show 65535 = 2 ^ 16 - 1 from rfl, Nat.testBit_two_pow_sub_one]
  by_cases h : i < 16
  · simp [h]
  · have h2 : a.testBit i = false := testBit_lt (m := 16) ha (by omega)
    simp [h2]
theorem clr_bit {a x i : Nat} (ha : a < 65536) : (clr a x).testBit i = (a.testBit i && decide (i ≠ x)) := by
  unfold clr
  rw [Nat.testBit_and, Nat.testBit_xor, show 65535 = 2 ^ 16 - 1 from rfl, Nat.testBit_two_pow_sub_one, Nat.one_shiftLeft, Nat.testBit_two_pow]
  by_cases h : i < 16
  · by_cases e : x = i
    · subst e; simp [h]
    · have e' : ¬ i = x := fun q => e q.symm
      simp [h, e, e']
  · have h2 : a.testBit i = false := testBit_lt (m := 16) ha (by omega)
    simp [h2]
theorem clr_lt {a x : Nat} (ha : a < 65536) : clr a x < 65536 := Nat.lt_of_le_of_lt Nat.and_le_left ha
theorem or_lt16 {a x : Nat} (ha : a < 65536) (hx : x < 16) : a ||| 1 <<< x < 65536 := by
  apply Nat.or_lt_two_pow (n := 16) ha
  rw [Nat.one_shiftLeft]
  exact Nat.pow_lt_pow_right (by decide) hx
def cnS (s : Nat → Nat) (r b x how : Nat) : Nat → Nat := upN (upN s (ix r (13 + 2 * b)) (if how = 1 then clr (vv s r (13 + 2 * b)) x ||| 1 <<< x else clr (vv s r (13 + 2 * b)) x)) (ix r (13 + 2 * b + 1)) (if how = 2 then clr (vv s r (13 + 2 * b + 1)) x ||| 1 <<< x else clr (vv s r (13 + 2 * b + 1)) x)
def opS (s : Nat → Nat) (r : Nat) : Nat → Nat := upN (upN (upN s (ix r (13 + 2 * vv s r 12)) 0) (ix r (13 + 2 * vv s r 12 + 1)) 0) (ix r 12) (vv s r 12 + 1)
theorem Wt.m16 {s : Nat → Nat} {B r x : Nat} (h : Wt s B) (hr : r < s 1) (h1 : 13 ≤ x) (hx : x < 25) : vv s r x < 65536 := by
  have h2 := h.2.2.2 r hr x hx
  unfold bdF at h2
  repeat' split at h2
  all_goals omega
theorem Wt.cnS {s : Nat → Nat} {B r b x how : Nat} (h : Wt s B) (hr : r < s 1) (hb : b < 6) (hx : x < 16) : Wt (cnS s r b x how) B := by
  have h1 := h.m16 hr (x := 13 + 2 * b) (by omega) (by omega)
  have h2 := h.m16 hr (x := 13 + 2 * b + 1) (by omega) (by omega)
  have hbd : ∀ y, 13 ≤ y → bdF B y = 65535 := fun y hy => by
    unfold bdF
    repeat' split
    all_goals omega
  unfold Jvm.Pilot.@@N@@.cnS
  refine Wt.up (Wt.up h (by omega) ?_) (by omega) ?_
  · rw [hbd _ (by omega)]
    split
    · have := or_lt16 (clr_lt (x := x) h1) hx; omega
    · have := clr_lt (x := x) h1; omega
  · rw [hbd _ (by omega)]
    split
    · have := or_lt16 (clr_lt (x := x) h2) hx; omega
    · have := clr_lt (x := x) h2; omega
theorem Wt.opS {s : Nat → Nat} {B r : Nat} (h : Wt s B) (hb : vv s r 12 < 6) : Wt (opS s r) B := by
  unfold Jvm.Pilot.@@N@@.opS
  refine Wt.up (Wt.up (Wt.up h (by omega) (Nat.zero_le _)) (by omega) (Nat.zero_le _)) (by decide) ?_
  simp [bdF]
  omega
set_option maxRecDepth 100000 in
set_option maxHeartbeats 4000000 in
theorem c_X6_conditions (l : Launch) (d : Nat) (hd : 1 ≤ d) {n k : Nat} {w : Nat → AC} {M : Bk} (hM : MdAt n w k M) {B : Nat} (hW : Wt (M 0) B) (hB : B < 900000000) (r b x how : Nat) (hr : r < M 0 1) (hb6 : b < 6) (hx : x < 16) (hh : how < 3) : Sq l yX6_conditions cX6_conditions 8 none d [aR k, aZ r, aZ b, aZ x, aZ how] n w (Qn (PS n k M (cnS (M 0) r b x how) w)) := by
  refine Sp.of (plainFor_of_name (by decide)) (Nat.le_of_ble_eq_true rfl) (fun Γ hΓ hR => ?_)
  show Γ 0 [aR k, aZ r, aZ b, aZ x, aZ how, none, none, none] [] (0, 0) n w
  have h8 := hW.2.1
  have h1 := hW.m16 hr (x := 13 + 2 * b) (by omega) (by omega)
  have h2 := hW.m16 hr (x := 13 + 2 * b + 1) (by omega) (by omega)
  have hF0 : Fr k 6 w w := Fr.rf
  have hU := Mup.rf M
  refine qa_iconst (v := nI 1) hΓ dX6_conditions_0 ic_1 ?_
  refine qa_iload_n hΓ dX6_conditions_1 rfl ?_
  refine qz_ishl hΓ dX6_conditions_2 (by omega) ?_
  refine qa_istore hΓ dX6_conditions_3 (by decide) ?_
  refine qa_aload_n hΓ dX6_conditions_5 rfl ?_
  refine qa_iload_n hΓ dX6_conditions_6 rfl ?_
  refine qa_bipush (v := nI 13) hΓ dX6_conditions_7 bp_13 ?_
  refine qa_iconst (v := nI 2) hΓ dX6_conditions_9 ic_2 ?_
  refine qa_iload_n hΓ dX6_conditions_10 rfl ?_
  refine qz_imul hΓ dX6_conditions_11 ?_
  refine qz_iadd hΓ dX6_conditions_12 ?_
  refine qc_V1 hΓ dX6_conditions_13 lk_X6_37 vw_X6_of (by omega) (c_X6_ofU l (d - 1) hM hU _ _ (by omega) (by omega)) rfl hM.lt hM.o rfl rfl (Nat.le_of_ble_eq_true rfl) ?_
  refine qa_iload hΓ dX6_conditions_16 rfl ?_
  refine qa_iconst (v := (-1)) hΓ dX6_conditions_18 ic_m1 ?_
  refine qa_ixor hΓ dX6_conditions_19 ?_
  refine qa_iand hΓ dX6_conditions_20 ?_
  rw [clr_int h1 hx]
  refine qa_istore hΓ dX6_conditions_21 (by decide) ?_
  refine qa_aload_n hΓ dX6_conditions_23 rfl ?_
  refine qa_iload_n hΓ dX6_conditions_24 rfl ?_
  refine qa_bipush (v := nI 13) hΓ dX6_conditions_25 bp_13 ?_
  refine qa_iconst (v := nI 2) hΓ dX6_conditions_27 ic_2 ?_
  refine qa_iload_n hΓ dX6_conditions_28 rfl ?_
  refine qz_imul hΓ dX6_conditions_29 ?_
  refine qz_iadd hΓ dX6_conditions_30 ?_
  refine qa_iconst (v := nI 1) hΓ dX6_conditions_31 ic_1 ?_
  refine qz_iadd hΓ dX6_conditions_32 ?_
  refine qc_V1 hΓ dX6_conditions_33 lk_X6_37 vw_X6_of (by omega) (c_X6_ofU l (d - 1) hM hU _ _ (by omega) (by omega)) rfl hM.lt hM.o rfl rfl (Nat.le_of_ble_eq_true rfl) ?_
  refine qa_iload hΓ dX6_conditions_36 rfl ?_
  refine qa_iconst (v := (-1)) hΓ dX6_conditions_38 ic_m1 ?_
  refine qa_ixor hΓ dX6_conditions_39 ?_
  refine qa_iand hΓ dX6_conditions_40 ?_
  rw [clr_int h2 hx]
  refine qa_istore hΓ dX6_conditions_41 (by decide) ?_
  refine qa_aload_n hΓ dX6_conditions_43 rfl ?_
  refine qa_iload_n hΓ dX6_conditions_44 rfl ?_
  refine qa_bipush (v := nI 13) hΓ dX6_conditions_45 bp_13 ?_
  refine qa_iconst (v := nI 2) hΓ dX6_conditions_47 ic_2 ?_
  refine qa_iload_n hΓ dX6_conditions_48 rfl ?_
  refine qz_imul hΓ dX6_conditions_49 ?_
  refine qz_iadd hΓ dX6_conditions_50 ?_
  refine qa_iload hΓ dX6_conditions_51 rfl ?_
  refine qa_iconst (v := nI 1) hΓ dX6_conditions_53 ic_1 ?_
  refine qz_icmp_ne (tgt := 65) hΓ dX6_conditions_54 (by decide) (by omega) (by omega) (fun h_54 => ?_) (fun h_54 => ?_)
  · refine qa_iload hΓ dX6_conditions_65 rfl ?_
    refine qc_V0q hΓ dX6_conditions_67 lk_X6_49 vw_X6_puts (by omega) (c_X6_puts l (d - 1) hM _ _ _ (by omega) (by omega)) rfl hM.lt hM.o rfl rfl (Nat.le_of_ble_eq_true rfl) (fun w hq => ?_)
    obtain ⟨hM, hF⟩ := hq
    have hF0 := hF0.tr hF
    obtain ⟨M1, hM, hU⟩ := Mup.putE hM hU
    refine qa_aload_n hΓ dX6_conditions_70 rfl ?_
    refine qa_iload_n hΓ dX6_conditions_71 rfl ?_
    refine qa_bipush (v := nI 13) hΓ dX6_conditions_72 bp_13 ?_
    refine qa_iconst (v := nI 2) hΓ dX6_conditions_74 ic_2 ?_
    refine qa_iload_n hΓ dX6_conditions_75 rfl ?_
    refine qz_imul hΓ dX6_conditions_76 ?_
    refine qz_iadd hΓ dX6_conditions_77 ?_
    refine qa_iconst (v := nI 1) hΓ dX6_conditions_78 ic_1 ?_
    refine qz_iadd hΓ dX6_conditions_79 ?_
    refine qa_iload hΓ dX6_conditions_80 rfl ?_
    refine qa_iconst (v := nI 2) hΓ dX6_conditions_82 ic_2 ?_
    refine qz_icmp_ne (tgt := 94) hΓ dX6_conditions_83 (by decide) (by omega) (by omega) (fun h_83 => ?_) (fun h_83 => ?_)
    · refine qa_iload hΓ dX6_conditions_94 rfl ?_
      refine qc_V0q hΓ dX6_conditions_96 lk_X6_49 vw_X6_puts (by omega) (c_X6_puts l (d - 1) hM _ _ _ (by omega) (by omega)) rfl hM.lt hM.o rfl rfl (Nat.le_of_ble_eq_true rfl) (fun w hq => ?_)
      obtain ⟨hM, hF⟩ := hq
      have hF0 := hF0.tr hF
      obtain ⟨M1, hM, hU⟩ := Mup.putE hM hU
      refine qr_v hR dX6_conditions_99 ⟨rfl, M1, hM, ?_, hF0⟩
      unfold cnS
      rw [if_neg h_54, if_neg h_83]
      exact hU
    · refine qa_iload hΓ dX6_conditions_86 rfl ?_
      refine qa_iload hΓ dX6_conditions_88 rfl ?_
      refine qz_ior hΓ dX6_conditions_90 ?_
      refine qa_goto (tgt := 96) hΓ dX6_conditions_91 (by decide) ?_
      refine qc_V0q hΓ dX6_conditions_96 lk_X6_49 vw_X6_puts (by omega) (c_X6_puts l (d - 1) hM _ _ _ (by omega) (by omega)) rfl hM.lt hM.o rfl rfl (Nat.le_of_ble_eq_true rfl) (fun w hq => ?_)
      obtain ⟨hM, hF⟩ := hq
      have hF0 := hF0.tr hF
      obtain ⟨M1, hM, hU⟩ := Mup.putE hM hU
      refine qr_v hR dX6_conditions_99 ⟨rfl, M1, hM, ?_, hF0⟩
      unfold cnS
      rw [if_neg h_54, if_pos h_83]
      exact hU
  · refine qa_iload hΓ dX6_conditions_57 rfl ?_
    refine qa_iload hΓ dX6_conditions_59 rfl ?_
    refine qz_ior hΓ dX6_conditions_61 ?_
    refine qa_goto (tgt := 67) hΓ dX6_conditions_62 (by decide) ?_
    refine qc_V0q hΓ dX6_conditions_67 lk_X6_49 vw_X6_puts (by omega) (c_X6_puts l (d - 1) hM _ _ _ (by omega) (by omega)) rfl hM.lt hM.o rfl rfl (Nat.le_of_ble_eq_true rfl) (fun w hq => ?_)
    obtain ⟨hM, hF⟩ := hq
    have hF0 := hF0.tr hF
    obtain ⟨M1, hM, hU⟩ := Mup.putE hM hU
    refine qa_aload_n hΓ dX6_conditions_70 rfl ?_
    refine qa_iload_n hΓ dX6_conditions_71 rfl ?_
    refine qa_bipush (v := nI 13) hΓ dX6_conditions_72 bp_13 ?_
    refine qa_iconst (v := nI 2) hΓ dX6_conditions_74 ic_2 ?_
    refine qa_iload_n hΓ dX6_conditions_75 rfl ?_
    refine qz_imul hΓ dX6_conditions_76 ?_
    refine qz_iadd hΓ dX6_conditions_77 ?_
    refine qa_iconst (v := nI 1) hΓ dX6_conditions_78 ic_1 ?_
    refine qz_iadd hΓ dX6_conditions_79 ?_
    refine qa_iload hΓ dX6_conditions_80 rfl ?_
    refine qa_iconst (v := nI 2) hΓ dX6_conditions_82 ic_2 ?_
    refine qz_icmp_ne (tgt := 94) hΓ dX6_conditions_83 (by decide) (by omega) (by omega) (fun h_83 => ?_) (fun h_83 => ?_)
    · refine qa_iload hΓ dX6_conditions_94 rfl ?_
      refine qc_V0q hΓ dX6_conditions_96 lk_X6_49 vw_X6_puts (by omega) (c_X6_puts l (d - 1) hM _ _ _ (by omega) (by omega)) rfl hM.lt hM.o rfl rfl (Nat.le_of_ble_eq_true rfl) (fun w hq => ?_)
      obtain ⟨hM, hF⟩ := hq
      have hF0 := hF0.tr hF
      obtain ⟨M1, hM, hU⟩ := Mup.putE hM hU
      refine qr_v hR dX6_conditions_99 ⟨rfl, M1, hM, ?_, hF0⟩
      unfold cnS
      rw [if_pos h_54, if_neg h_83]
      exact hU
    · refine qa_iload hΓ dX6_conditions_86 rfl ?_
      refine qa_iload hΓ dX6_conditions_88 rfl ?_
      refine qz_ior hΓ dX6_conditions_90 ?_
      refine qa_goto (tgt := 96) hΓ dX6_conditions_91 (by decide) ?_
      refine qc_V0q hΓ dX6_conditions_96 lk_X6_49 vw_X6_puts (by omega) (c_X6_puts l (d - 1) hM _ _ _ (by omega) (by omega)) rfl hM.lt hM.o rfl rfl (Nat.le_of_ble_eq_true rfl) (fun w hq => ?_)
      obtain ⟨hM, hF⟩ := hq
      have hF0 := hF0.tr hF
      obtain ⟨M1, hM, hU⟩ := Mup.putE hM hU
      refine qr_v hR dX6_conditions_99 ⟨rfl, M1, hM, ?_, hF0⟩
      unfold cnS
      rw [if_pos h_54, if_pos h_83]
      exact hU

set_option maxRecDepth 100000 in
set_option maxHeartbeats 4000000 in
theorem c_X6_opensBranch (l : Launch) (d : Nat) (hd : 1 ≤ d) {n k : Nat} {w : Nat → AC} {M : Bk} (hM : MdAt n w k M) (r : Nat) (hr : r < 8) (hb6 : vv (M 0) r 12 < 6) : Sq l yX6_opensBranch cX6_opensBranch 3 none d [aR k, aZ r] n w (Qn (PS n k M (opS (M 0) r) w)) := by
  refine Sp.of (plainFor_of_name (by decide)) (Nat.le_of_ble_eq_true rfl) (fun Γ hΓ hR => ?_)
  show Γ 0 [aR k, aZ r, none] [] (0, 0) n w
  have hF0 : Fr k 6 w w := Fr.rf
  have hU := Mup.rf M
  refine qa_aload_n hΓ dX6_opensBranch_0 rfl ?_
  refine qa_iload_n hΓ dX6_opensBranch_1 rfl ?_
  refine qa_bipush (v := nI 12) hΓ dX6_opensBranch_2 bp_12 ?_
  refine qc_V1 hΓ dX6_opensBranch_4 lk_X6_37 vw_X6_of (by omega) (c_X6_ofU l (d - 1) hM hU _ _ (by omega) (by omega)) rfl hM.lt hM.o rfl rfl (Nat.le_of_ble_eq_true rfl) ?_
  refine qa_istore_n hΓ dX6_opensBranch_7 (by decide) ?_
  refine qa_aload_n hΓ dX6_opensBranch_8 rfl ?_
  refine qa_iload_n hΓ dX6_opensBranch_9 rfl ?_
  refine qa_bipush (v := nI 13) hΓ dX6_opensBranch_10 bp_13 ?_
  refine qa_iconst (v := nI 2) hΓ dX6_opensBranch_12 ic_2 ?_
  refine qa_iload_n hΓ dX6_opensBranch_13 rfl ?_
  refine qz_imul hΓ dX6_opensBranch_14 ?_
  refine qz_iadd hΓ dX6_opensBranch_15 ?_
  refine qa_iconst (v := nI 0) hΓ dX6_opensBranch_16 ic_0 ?_
  refine qc_V0q hΓ dX6_opensBranch_17 lk_X6_49 vw_X6_puts (by omega) (c_X6_puts l (d - 1) hM _ _ _ (by omega) (by omega)) rfl hM.lt hM.o rfl rfl (Nat.le_of_ble_eq_true rfl) (fun w hq => ?_)
  obtain ⟨hM, hF⟩ := hq
  have hF0 := hF0.tr hF
  obtain ⟨M1, hM, hU⟩ := Mup.putE hM hU
  refine qa_aload_n hΓ dX6_opensBranch_20 rfl ?_
  refine qa_iload_n hΓ dX6_opensBranch_21 rfl ?_
  refine qa_bipush (v := nI 13) hΓ dX6_opensBranch_22 bp_13 ?_
  refine qa_iconst (v := nI 2) hΓ dX6_opensBranch_24 ic_2 ?_
  refine qa_iload_n hΓ dX6_opensBranch_25 rfl ?_
  refine qz_imul hΓ dX6_opensBranch_26 ?_
  refine qz_iadd hΓ dX6_opensBranch_27 ?_
  refine qa_iconst (v := nI 1) hΓ dX6_opensBranch_28 ic_1 ?_
  refine qz_iadd hΓ dX6_opensBranch_29 ?_
  refine qa_iconst (v := nI 0) hΓ dX6_opensBranch_30 ic_0 ?_
  refine qc_V0q hΓ dX6_opensBranch_31 lk_X6_49 vw_X6_puts (by omega) (c_X6_puts l (d - 1) hM _ _ _ (by omega) (by omega)) rfl hM.lt hM.o rfl rfl (Nat.le_of_ble_eq_true rfl) (fun w hq => ?_)
  obtain ⟨hM, hF⟩ := hq
  have hF0 := hF0.tr hF
  obtain ⟨M1, hM, hU⟩ := Mup.putE hM hU
  refine qa_aload_n hΓ dX6_opensBranch_34 rfl ?_
  refine qa_iload_n hΓ dX6_opensBranch_35 rfl ?_
  refine qa_bipush (v := nI 12) hΓ dX6_opensBranch_36 bp_12 ?_
  refine qa_iload_n hΓ dX6_opensBranch_38 rfl ?_
  refine qa_iconst (v := nI 1) hΓ dX6_opensBranch_39 ic_1 ?_
  refine qz_iadd hΓ dX6_opensBranch_40 ?_
  refine qc_V0q hΓ dX6_opensBranch_41 lk_X6_49 vw_X6_puts (by omega) (c_X6_puts l (d - 1) hM _ _ _ (by omega) (by omega)) rfl hM.lt hM.o rfl rfl (Nat.le_of_ble_eq_true rfl) (fun w hq => ?_)
  obtain ⟨hM, hF⟩ := hq
  have hF0 := hF0.tr hF
  obtain ⟨M1, hM, hU⟩ := Mup.putE hM hU
  exact qr_v hR dX6_opensBranch_44 ⟨rfl, M1, hM, hU, hF0⟩
end
section
/-! The model: what each call answers and leaves (sp..), and that it does -/
def sdS (s : Nat → Nat) (r a b c : Nat) : Nat → Nat := upN (upN (upN s (ix r 0) a) (ix r 1) b) (ix r 2) c
def zrS (s : Nat → Nat) (r m : Nat) : Nat → Nat := fun j => if 3 + 25 * r ≤ j ∧ j < 3 + 25 * r + m then 0 else s j
def addS (s : Nat → Nat) (a b c : Nat) : Nat → Nat := sdS (zrS (upN s 1 (s 1 + 1)) (s 1) 25) (s 1) a b c
def spAdd (M : Bk) (u v x : Int32) (r : Int32) (M' : Bk) : Prop := if okD u v x then (if M 0 1 = 8 then r = -3 ∧ Sm M M' else r = nI (M 0 1) ∧ Op M (addS (M 0) (tn u) (tn v) (tn x)) M') else r = -1 ∧ Sm M M'
def sameD (s : Nat → Nat) (r a b c : Nat) : Prop := vv s r 0 = a ∧ vv s r 1 = b ∧ vv s r 2 = c
def spSD (M : Bk) (rl u v x : Int32) (r : Int32) (M' : Bk) : Prop := if isR (M 0 1) rl ∧ okD u v x then ((sameD (M 0) (tn rl) (tn u) (tn v) (tn x) → r = nI 0) ∧ (¬ sameD (M 0) (tn rl) (tn u) (tn v) (tn x) → r = nI 1)) ∧ Op M (sdS (M 0) (tn rl) (tn u) (tn v) (tn x)) M' else r = -1 ∧ Sm M M'
def scS (s : Nat → Nat) (r b : Nat) : Nat → Nat := if b = vv s r 12 then opS s r else s
def spSC (M : Bk) (rl br su hw : Int32) (r : Int32) (M' : Bk) : Prop := if isR (M 0 1) rl ∧ (nI 0 ≤ br ∧ br ≤ nI (vv (M 0) (tn rl) 12)) ∧ isS (M 0 1) su ∧ (nI 0 ≤ hw ∧ hw ≤ nI 2) then (if tn br = 6 then r = -3 ∧ Sm M M' else r = nI (how3 (scS (M 0) (tn rl) (tn br)) (tn rl) (tn br) (tn su)) ∧ Op M (lks (cnS (scS (M 0) (tn rl) (tn br)) (tn rl) (tn br) (tn su) (tn hw))).2 M') else r = -1 ∧ Sm M M'
def shS (s : Nat → Nat) (r lo hi : Nat) : Nat → Nat := fun j => if 3 + 25 * r + lo ≤ j ∧ j < 3 + 25 * r + hi then s (j + 2) else s j
def rmS (s : Nat → Nat) (r b : Nat) : Nat → Nat := shS (upN s (ix r 12) (vv s r 12 - 1)) r (13 + 2 * b) (13 + 2 * (vv s r 12 - 1))
def spRB (M : Bk) (rl br : Int32) (r : Int32) (M' : Bk) : Prop := if isR (M 0 1) rl ∧ (nI 0 ≤ br ∧ br ≤ nI (vv (M 0) (tn rl) 12) - nI 1) then r = nI (vv (M 0) (tn rl) 12 - 1) ∧ Op M (lks (rmS (M 0) (tn rl) (tn br))).2 M' else r = -1 ∧ Sm M M'
def prS (s : Nat → Nat) (key : Nat) : Nat → Nat := upN s 0 (s 0 ^^^ (1 <<< key))
def spPr (M : Bk) (ky on : Int32) (r : Int32) (M' : Bk) : Prop := if (nI 0 ≤ ky ∧ ky ≤ nI 7) ∧ (nI 0 ≤ on ∧ on ≤ nI 1) then (if ((M 0 0).testBit (tn ky)).toNat = tn on then r = -2 ∧ Sm M M' else r = nI (lks (prS (M 0) (tn ky))).1 ∧ Op M (lks (prS (M 0) (tn ky))).2 M') else r = -1 ∧ Sm M M'
def spPut (x hi : Nat) (M : Bk) (rl v : Int32) (r : Int32) (M' : Bk) : Prop := if isR (M 0 1) rl ∧ (nI 0 ≤ v ∧ v ≤ nI hi) then r = nI (vv (M 0) (tn rl) x) ∧ Op M (lks (upN (M 0) (ix (tn rl) x) (tn v))).2 M' else r = -1 ∧ Sm M M'
def spStep (M : Bk) (r : Int32) (M' : Bk) : Prop := match nx (M 0) false with
  | none => r = -2 ∧ Sm M M'
  | some e => r = nI (10 * (e / 4) + e % 4) ∧ Op M (hap (M 0) e) M'
def spSettle (M : Bk) (ev : Int32) (r : Int32) (M' : Bk) : Prop := if nI 1 ≤ ev ∧ ev ≤ nI 200 then r = nI (stl (M 0) false (tn ev)).1 ∧ Op M (stl (M 0) false (tn ev)).2 M' else r = -1 ∧ Sm M M'
theorem key_lt {a k : Nat} (ha : a < 256) (hk : k < 8) : a ^^^ (1 <<< k) < 256 := by
  apply Nat.xor_lt_two_pow (n := 8) ha
  rw [Nat.one_shiftLeft]
  exact Nat.pow_lt_pow_right (by decide) hk
theorem Wt.pr {s : Nat → Nat} {B k : Nat} (h : Wt s B) (hk : k < 8) : Wt (prS s k) B := by
  unfold prS
  refine ⟨by rw [upN_self]; exact key_lt h.1 hk, by rw [upN_ne _ _ _ (by decide)]; exact h.2.1, by rw [upN_ne _ _ _ (by decide)]; exact h.2.2.1, fun r hr x hx => ?_⟩
  rw [upN_ne _ _ _ (by decide)] at hr
  rw [vv_hd _ _ _ _ _ (by decide)]
  exact h.2.2.2 r hr x hx
theorem Wt.scS {s : Nat → Nat} {B r b : Nat} (h : Wt s B) (hb : b < 6) : Wt (scS s r b) B := by
  unfold Jvm.Pilot.@@N@@.scS
  split
  · exact h.opS (by omega)
  · exact h
theorem scS_hd (s : Nat → Nat) (r b : Nat) {j : Nat} (hj : j < 3) : scS s r b j = s j := by
  unfold scS opS
  split
  · rw [hd_up _ _ _ _ hj, hd_up _ _ _ _ hj, hd_up _ _ _ _ hj]
  · rfl
theorem Wt.rmS {s : Nat → Nat} {B r b : Nat} (h : Wt s B) (hm : vv s r 12 ≤ 6) : Wt (rmS s r b) B := by
  have h0 : Wt (upN s (ix r 12) (vv s r 12 - 1)) B := h.up (by decide) (by simp [bdF]; omega)
  have e : ∀ j, j < 3 → Jvm.Pilot.@@N@@.rmS s r b j = upN s (ix r 12) (vv s r 12 - 1) j := fun j hj => by
    unfold Jvm.Pilot.@@N@@.rmS shS
    rw [if_neg (by omega)]
  obtain ⟨g0, g1, g2, g3⟩ := h0
  refine ⟨by rw [e 0 (by decide)]; exact g0, by rw [e 1 (by decide)]; exact g1, by rw [e 2 (by decide)]; exact g2, fun r' hr' x hx => ?_⟩
  rw [e 1 (by decide)] at hr'
  unfold vv Jvm.Pilot.@@N@@.rmS shS
  split
  · rename_i q
    have e : r' = r := by omega
    subst e
    have := g3 r' hr' (x + 2) (by omega)
    unfold vv at this
    rw [show 3 + 25 * r' + (x + 2) = 3 + 25 * r' + x + 2 by omega] at this
    refine Nat.le_trans this ?_
    unfold bdF
    repeat' split
    all_goals omega
  · exact g3 r' hr' x hx
set_option maxRecDepth 100000 in
set_option maxHeartbeats 4000000 in
theorem c_X6_addRelay (l : Launch) (d : Nat) (hd : 1 ≤ d) {n k : Nat} {w : Nat → AC} {M : Bk} (hM : MdAt n w k M) {B : Nat} (hW : Wt (M 0) B) (hB : B < 900000000) (hp : M 5 0 ≤ 6) (u v x : Int32) : Sq l yX6_addRelay cX6_addRelay 6 (some .int) d [aR k, aI u, aI v, aI x] n w (QM (spAdd M u v x) n k w) := by
  refine Sp.of (plainFor_of_name (by decide)) (Nat.le_of_ble_eq_true rfl) (fun Γ hΓ hR => ?_)
  show Γ 0 [aR k, aI u, aI v, aI x, none, none] [] (0, 0) n w
  refine qa_iload_n hΓ dX6_addRelay_0 rfl ?_
  refine qa_iconst (v := nI 1) hΓ dX6_addRelay_1 ic_1 ?_
  refine qa_bipush (v := nI 20) hΓ dX6_addRelay_2 bp_20 ?_
  refine qc_S1 hΓ dX6_addRelay_4 lk_X6_33 vw_X6_in (by omega) (c_X6_in l (d - 1) _ _ _) rfl rfl (Nat.le_of_ble_eq_true rfl) ?_
  refine qb_if_eq (tgt := 29) hΓ dX6_addRelay_7 (by decide) (fun h_7 => ?_) (fun h_7 => ?_)
  · refine qa_iconst (v := (-1)) hΓ dX6_addRelay_29 ic_m1 ?_
    exact qr_i hR dX6_addRelay_30 ⟨-1, M, rfl, hM, Fr.rf, by unfold spAdd; rw [if_neg (fun q => by first | exact of_decide_eq_false h_7 (q.1) | exact of_decide_eq_false h_17 (q.2.1) | exact of_decide_eq_false h_26 (q.2.2))]; exact ⟨rfl, Sm.rf M⟩⟩
  · refine qa_iload_n hΓ dX6_addRelay_10 rfl ?_
    refine qa_iconst (v := nI 1) hΓ dX6_addRelay_11 ic_1 ?_
    refine qa_bipush (v := nI 20) hΓ dX6_addRelay_12 bp_20 ?_
    refine qc_S1 hΓ dX6_addRelay_14 lk_X6_33 vw_X6_in (by omega) (c_X6_in l (d - 1) _ _ _) rfl rfl (Nat.le_of_ble_eq_true rfl) ?_
    refine qb_if_eq (tgt := 29) hΓ dX6_addRelay_17 (by decide) (fun h_17 => ?_) (fun h_17 => ?_)
    · refine qa_iconst (v := (-1)) hΓ dX6_addRelay_29 ic_m1 ?_
      exact qr_i hR dX6_addRelay_30 ⟨-1, M, rfl, hM, Fr.rf, by unfold spAdd; rw [if_neg (fun q => by first | exact of_decide_eq_false h_7 (q.1) | exact of_decide_eq_false h_17 (q.2.1) | exact of_decide_eq_false h_26 (q.2.2))]; exact ⟨rfl, Sm.rf M⟩⟩
    · refine qa_iload_n hΓ dX6_addRelay_20 rfl ?_
      refine qa_iconst (v := nI 0) hΓ dX6_addRelay_21 ic_0 ?_
      refine qa_iconst (v := nI 5) hΓ dX6_addRelay_22 ic_5 ?_
      refine qc_S1 hΓ dX6_addRelay_23 lk_X6_33 vw_X6_in (by omega) (c_X6_in l (d - 1) _ _ _) rfl rfl (Nat.le_of_ble_eq_true rfl) ?_
      refine qb_if_ne (tgt := 31) hΓ dX6_addRelay_26 (by decide) (fun h_26 => ?_) (fun h_26 => ?_)
      · have hC : okD u v x := ⟨of_decide_eq_true h_7, of_decide_eq_true h_17, of_decide_eq_true h_26⟩
        obtain ⟨a, ha1, ha2, rfl⟩ := rng (by decide) hC.1 (by decide)
        obtain ⟨b, hb1, hb2, rfl⟩ := rng (by decide) hC.2.1 (by decide)
        obtain ⟨c, hc1, hc2, rfl⟩ := rng (by decide) hC.2.2 (by decide)
        have h8 := hW.2.1
        refine qa_aload_n hΓ dX6_addRelay_31 rfl ?_
        refine qa_get hΓ dX6_addRelay_32 fk_X6_7 hM.lt hM.o rfl ?_
        refine qa_iconst (v := nI 1) hΓ dX6_addRelay_35 ic_1 ?_
        refine qz_iald hΓ dX6_addRelay_36 (hM.lti (i := 1) (by decide)) hM.a0 (by omega) (by decide) ?_
        refine qa_bipush (v := nI 8) hΓ dX6_addRelay_37 bp_8 ?_
        refine qz_icmp_ne (tgt := 45) hΓ dX6_addRelay_39 (by decide) (by omega) (by omega) (fun h_39 => ?_) (fun h_39 => ?_)
        · obtain ⟨w0, hw0⟩ : ∃ X, X = w := ⟨_, rfl⟩
          refine qa_aload_n hΓ dX6_addRelay_45 rfl ?_
          refine qc_V0q hΓ dX6_addRelay_46 lk_X6_79 vw_X6_notes (by omega) (c_X6_notes l (d - 1) hM hp) rfl hM.lt hM.o rfl rfl (Nat.le_of_ble_eq_true rfl) (fun w hq => ?_)
          obtain ⟨M1, hM, hN, hF0⟩ := hq
          have hU := hN.mup
          have hU0 : M1 0 1 = M 0 1 := by rw [hU.1]
          rw [hw0.symm] at hF0
          refine qa_aload_n hΓ dX6_addRelay_49 rfl ?_
          refine qa_get hΓ dX6_addRelay_50 fk_X6_7 hM.lt hM.o rfl ?_
          refine qa_iconst (v := nI 1) hΓ dX6_addRelay_53 ic_1 ?_
          refine qz_iald hΓ dX6_addRelay_54 (hM.lti (i := 1) (by decide)) hM.a0 (by omega) (by decide) ?_
          refine qa_istore hΓ dX6_addRelay_55 (by decide) ?_
          refine qa_aload_n hΓ dX6_addRelay_57 rfl ?_
          refine qa_get hΓ dX6_addRelay_58 fk_X6_7 hM.lt hM.o rfl ?_
          refine qa_iconst (v := nI 1) hΓ dX6_addRelay_61 ic_1 ?_
          refine qa_dup2 hΓ dX6_addRelay_62 ?_
          refine qz_iald hΓ dX6_addRelay_63 (hM.lti (i := 1) (by decide)) hM.a0 (by omega) (by decide) ?_
          refine qa_iconst (v := nI 1) hΓ dX6_addRelay_64 ic_1 ?_
          refine qz_iadd hΓ dX6_addRelay_65 ?_
          refine qM_ast hΓ (N := 203) 0 (by decide) rfl rfl dX6_addRelay_66 hM (by omega) (fun w hM hF => ?_)
          have hF0 := hF0.tr hF
          rw [hU.1]
          obtain ⟨M2, hM, hU⟩ := Mup.setE hM hU
          rw [hU0] at hU
          obtain ⟨M0, hM0⟩ : ∃ X, X = M1 := ⟨_, rfl⟩
          rw [← hM0] at hU hN
          obtain ⟨M1, hM1⟩ : ∃ X, X = M2 := ⟨_, rfl⟩
          rw [← hM1] at hU hM
          refine qa_iconst (v := nI 0) hΓ dX6_addRelay_67 ic_0 ?_
          refine qa_istore hΓ dX6_addRelay_68 (by decide) ?_
          have hn1 : M1 0 1 = M 0 1 + 1 := by rw [hU.1]; exact upN_self _ _ _
          have loop : ∀ (m i : Nat) (w1 : Nat → AC) (M2 : Bk), i ≤ 25 → 25 < i + m → MdAt n w1 k M2 → Mup M0 (zrS (upN (M 0) 1 (M 0 1 + 1)) (M 0 1) i) M2 → Fr k 6 w0 w1 → Γ 70 [aR k, aZ a, aZ b, aZ c, aZ (M 0 1), aZ i] [] (0, 0) n w1 := by
            intro m
            induction m with
            | zero => intro i w1 M2 h1 h2; exact absurd h2 (by omega)
            | succ m ih =>
              intro i w M1 hi hm hM hU hF0
              refine qa_iload hΓ dX6_addRelay_70 rfl ?_
              refine qa_bipush (v := nI 25) hΓ dX6_addRelay_72 bp_25 ?_
              refine qz_icmp_ge (tgt := 92) hΓ dX6_addRelay_74 (by decide) (by omega) (by omega) (fun h_74 => ?_) (fun h_74 => ?_)
              · refine qa_aload_n hΓ dX6_addRelay_92 rfl ?_
                refine qa_iload hΓ dX6_addRelay_93 rfl ?_
                refine qa_iconst (v := nI 0) hΓ dX6_addRelay_95 ic_0 ?_
                refine qa_iload_n hΓ dX6_addRelay_96 rfl ?_
                refine qc_V0q hΓ dX6_addRelay_97 lk_X6_49 vw_X6_puts (by omega) (c_X6_puts l (d - 1) hM _ _ _ (by omega) (by omega)) rfl hM.lt hM.o rfl rfl (Nat.le_of_ble_eq_true rfl) (fun w hq => ?_)
                obtain ⟨hM, hF⟩ := hq
                have hF0 := hF0.tr hF
                obtain ⟨M1, hM, hU⟩ := Mup.putE hM hU
                refine qa_aload_n hΓ dX6_addRelay_100 rfl ?_
                refine qa_iload hΓ dX6_addRelay_101 rfl ?_
                refine qa_iconst (v := nI 1) hΓ dX6_addRelay_103 ic_1 ?_
                refine qa_iload_n hΓ dX6_addRelay_104 rfl ?_
                refine qc_V0q hΓ dX6_addRelay_105 lk_X6_49 vw_X6_puts (by omega) (c_X6_puts l (d - 1) hM _ _ _ (by omega) (by omega)) rfl hM.lt hM.o rfl rfl (Nat.le_of_ble_eq_true rfl) (fun w hq => ?_)
                obtain ⟨hM, hF⟩ := hq
                have hF0 := hF0.tr hF
                obtain ⟨M1, hM, hU⟩ := Mup.putE hM hU
                refine qa_aload_n hΓ dX6_addRelay_108 rfl ?_
                refine qa_iload hΓ dX6_addRelay_109 rfl ?_
                refine qa_iconst (v := nI 2) hΓ dX6_addRelay_111 ic_2 ?_
                refine qa_iload_n hΓ dX6_addRelay_112 rfl ?_
                refine qc_V0q hΓ dX6_addRelay_113 lk_X6_49 vw_X6_puts (by omega) (c_X6_puts l (d - 1) hM _ _ _ (by omega) (by omega)) rfl hM.lt hM.o rfl rfl (Nat.le_of_ble_eq_true rfl) (fun w hq => ?_)
                obtain ⟨hM, hF⟩ := hq
                have hF0 := hF0.tr hF
                obtain ⟨M1, hM, hU⟩ := Mup.putE hM hU
                refine qa_iload hΓ dX6_addRelay_116 rfl ?_
                exact qr_i hR dX6_addRelay_118 ⟨_, M1, rfl, hM, hw0 ▸ hF0, by
                  unfold spAdd
                  rw [if_pos hC, if_neg h_39, tn_nI (by omega), tn_nI (by omega), tn_nI (by omega)]
                  exact ⟨rfl, Op.of hN (by rw [show i = 25 by omega] at hU; exact hU)⟩⟩
              · refine qa_aload_n hΓ dX6_addRelay_77 rfl ?_
                refine qa_iload hΓ dX6_addRelay_78 rfl ?_
                refine qa_iload hΓ dX6_addRelay_80 rfl ?_
                refine qa_iconst (v := nI 0) hΓ dX6_addRelay_82 ic_0 ?_
                refine qc_V0q hΓ dX6_addRelay_83 lk_X6_49 vw_X6_puts (by omega) (c_X6_puts l (d - 1) hM _ _ _ (by omega) (by omega)) rfl hM.lt hM.o rfl rfl (Nat.le_of_ble_eq_true rfl) (fun w hq => ?_)
                obtain ⟨hM, hF⟩ := hq
                have hF0 := hF0.tr hF
                obtain ⟨M1, hM, hU⟩ := Mup.putE hM hU
                refine qz_iinc hΓ dX6_addRelay_86 ii_1 rfl (by decide) ?_
                refine qa_goto (tgt := 70) hΓ dX6_addRelay_89 (by decide) ?_
                refine ih (i + 1) w M1 (by omega) (by omega) hM ?_ hF0
                refine (?_ : zrS _ _ (i + 1) = _) ▸ hU
                funext j
                unfold zrS upN ix
                dsimp only
                by_cases q : j = 3 + 25 * M 0 1 + i
                · rw [if_pos q, if_pos (by omega)]
                · rw [if_neg q]
                  by_cases q2 : 3 + 25 * M 0 1 ≤ j ∧ j < 3 + 25 * M 0 1 + i
                  · rw [if_pos q2, if_pos (by omega)]
                  · rw [if_neg q2, if_neg (by omega)]
          exact loop 26 0 w M1 (by omega) (by omega) hM (by refine (?_ : zrS _ _ 0 = _) ▸ hU; funext j; unfold zrS; rw [if_neg (by omega)]) hF0
        · refine qa_bipush (v := (-3)) hΓ dX6_addRelay_42 bp_m3 ?_
          exact qr_i hR dX6_addRelay_44 ⟨-3, M, rfl, hM, Fr.rf, by unfold spAdd; rw [if_pos hC, if_pos h_39]; exact ⟨rfl, Sm.rf M⟩⟩
      · refine qa_iconst (v := (-1)) hΓ dX6_addRelay_29 ic_m1 ?_
        exact qr_i hR dX6_addRelay_30 ⟨-1, M, rfl, hM, Fr.rf, by unfold spAdd; rw [if_neg (fun q => by first | exact of_decide_eq_false h_7 (q.1) | exact of_decide_eq_false h_17 (q.2.1) | exact of_decide_eq_false h_26 (q.2.2))]; exact ⟨rfl, Sm.rf M⟩⟩

set_option maxRecDepth 100000 in
set_option maxHeartbeats 4000000 in
theorem c_X6_setDelays (l : Launch) (d : Nat) (hd : 2 ≤ d) {n k : Nat} {w : Nat → AC} {M : Bk} (hM : MdAt n w k M) {B : Nat} (hW : Wt (M 0) B) (hB : B < 900000000) (hp : M 5 0 ≤ 6) (rl u v x : Int32) : Sq l yX6_setDelays cX6_setDelays 6 (some .int) d [aR k, aI rl, aI u, aI v, aI x] n w (QM (spSD M rl u v x) n k w) := by
  refine Sp.of (plainFor_of_name (by decide)) (Nat.le_of_ble_eq_true rfl) (fun Γ hΓ hR => ?_)
  show Γ 0 [aR k, aI rl, aI u, aI v, aI x, none] [] (0, 0) n w
  refine qa_aload_n hΓ dX6_setDelays_0 rfl ?_
  refine qa_iload_n hΓ dX6_setDelays_1 rfl ?_
  refine qc_V1 hΓ dX6_setDelays_2 lk_X6_82 vw_X6_isRelay (by omega) (c_X6_isRelay l (d - 1) (by omega) hM _) rfl hM.lt hM.o rfl rfl (Nat.le_of_ble_eq_true rfl) ?_
  refine qb_if_eq (tgt := 38) hΓ dX6_setDelays_5 (by decide) (fun h_5 => ?_) (fun h_5 => ?_)
  · refine qa_iconst (v := (-1)) hΓ dX6_setDelays_38 ic_m1 ?_
    exact qr_i hR dX6_setDelays_39 ⟨-1, M, rfl, hM, Fr.rf, by unfold spSD; rw [if_neg (fun q => by first | exact of_decide_eq_false h_5 (q.1) | exact of_decide_eq_false h_15 (q.2.1) | exact of_decide_eq_false h_25 (q.2.2.1) | exact of_decide_eq_false h_35 (q.2.2.2))]; exact ⟨rfl, Sm.rf M⟩⟩
  · refine qa_iload_n hΓ dX6_setDelays_8 rfl ?_
    refine qa_iconst (v := nI 1) hΓ dX6_setDelays_9 ic_1 ?_
    refine qa_bipush (v := nI 20) hΓ dX6_setDelays_10 bp_20 ?_
    refine qc_S1 hΓ dX6_setDelays_12 lk_X6_33 vw_X6_in (by omega) (c_X6_in l (d - 1) _ _ _) rfl rfl (Nat.le_of_ble_eq_true rfl) ?_
    refine qb_if_eq (tgt := 38) hΓ dX6_setDelays_15 (by decide) (fun h_15 => ?_) (fun h_15 => ?_)
    · refine qa_iconst (v := (-1)) hΓ dX6_setDelays_38 ic_m1 ?_
      exact qr_i hR dX6_setDelays_39 ⟨-1, M, rfl, hM, Fr.rf, by unfold spSD; rw [if_neg (fun q => by first | exact of_decide_eq_false h_5 (q.1) | exact of_decide_eq_false h_15 (q.2.1) | exact of_decide_eq_false h_25 (q.2.2.1) | exact of_decide_eq_false h_35 (q.2.2.2))]; exact ⟨rfl, Sm.rf M⟩⟩
    · refine qa_iload_n hΓ dX6_setDelays_18 rfl ?_
      refine qa_iconst (v := nI 1) hΓ dX6_setDelays_19 ic_1 ?_
      refine qa_bipush (v := nI 20) hΓ dX6_setDelays_20 bp_20 ?_
      refine qc_S1 hΓ dX6_setDelays_22 lk_X6_33 vw_X6_in (by omega) (c_X6_in l (d - 1) _ _ _) rfl rfl (Nat.le_of_ble_eq_true rfl) ?_
      refine qb_if_eq (tgt := 38) hΓ dX6_setDelays_25 (by decide) (fun h_25 => ?_) (fun h_25 => ?_)
      · refine qa_iconst (v := (-1)) hΓ dX6_setDelays_38 ic_m1 ?_
        exact qr_i hR dX6_setDelays_39 ⟨-1, M, rfl, hM, Fr.rf, by unfold spSD; rw [if_neg (fun q => by first | exact of_decide_eq_false h_5 (q.1) | exact of_decide_eq_false h_15 (q.2.1) | exact of_decide_eq_false h_25 (q.2.2.1) | exact of_decide_eq_false h_35 (q.2.2.2))]; exact ⟨rfl, Sm.rf M⟩⟩
      · refine qa_iload hΓ dX6_setDelays_28 rfl ?_
        refine qa_iconst (v := nI 0) hΓ dX6_setDelays_30 ic_0 ?_
        refine qa_iconst (v := nI 5) hΓ dX6_setDelays_31 ic_5 ?_
        refine qc_S1 hΓ dX6_setDelays_32 lk_X6_33 vw_X6_in (by omega) (c_X6_in l (d - 1) _ _ _) rfl rfl (Nat.le_of_ble_eq_true rfl) ?_
        refine qb_if_ne (tgt := 40) hΓ dX6_setDelays_35 (by decide) (fun h_35 => ?_) (fun h_35 => ?_)
        · have hC : isR (M 0 1) rl ∧ okD u v x := ⟨of_decide_eq_true h_5, of_decide_eq_true h_15, of_decide_eq_true h_25, of_decide_eq_true h_35⟩
          obtain ⟨r, hr, rfl⟩ := isR_of (by have := hW.2.1; omega) hC.1
          obtain ⟨a, ha1, ha2, rfl⟩ := rng (by decide) hC.2.1 (by decide)
          obtain ⟨b, hb1, hb2, rfl⟩ := rng (by decide) hC.2.2.1 (by decide)
          obtain ⟨c, hc1, hc2, rfl⟩ := rng (by decide) hC.2.2.2 (by decide)
          have h8 := hW.2.1
          have q0 := hW.b hr (x := 0) (by decide)
          have q1 := hW.b hr (x := 1) (by decide)
          have q2 := hW.b hr (x := 2) (by decide)
          refine qa_aload_n hΓ dX6_setDelays_40 rfl ?_
          refine qc_V0q hΓ dX6_setDelays_41 lk_X6_79 vw_X6_notes (by omega) (c_X6_notes l (d - 1) hM hp) rfl hM.lt hM.o rfl rfl (Nat.le_of_ble_eq_true rfl) (fun w hq => ?_)
          obtain ⟨M1, hM, hN, hF0⟩ := hq
          have hU := hN.mup
          refine qa_aload_n hΓ dX6_setDelays_44 rfl ?_
          refine qa_iload_n hΓ dX6_setDelays_45 rfl ?_
          refine qa_iconst (v := nI 0) hΓ dX6_setDelays_46 ic_0 ?_
          refine qc_V1 hΓ dX6_setDelays_47 lk_X6_37 vw_X6_of (by omega) (c_X6_ofU l (d - 1) hM hU _ _ (by omega) (by omega)) rfl hM.lt hM.o rfl rfl (Nat.le_of_ble_eq_true rfl) ?_
          refine qa_iload_n hΓ dX6_setDelays_50 rfl ?_
          refine qz_icmp_ne (tgt := 79) hΓ dX6_setDelays_51 (by decide) (by omega) (by omega) (fun h_51 => ?_) (fun h_51 => ?_)
          · refine qa_iconst (v := nI 0) hΓ dX6_setDelays_79 ic_0 ?_
            refine qa_istore hΓ dX6_setDelays_80 (by decide) ?_
            refine qa_aload_n hΓ dX6_setDelays_82 rfl ?_
            refine qa_iload_n hΓ dX6_setDelays_83 rfl ?_
            refine qa_iconst (v := nI 0) hΓ dX6_setDelays_84 ic_0 ?_
            refine qa_iload_n hΓ dX6_setDelays_85 rfl ?_
            refine qc_V0q hΓ dX6_setDelays_86 lk_X6_49 vw_X6_puts (by omega) (c_X6_puts l (d - 1) hM _ _ _ (by omega) (by omega)) rfl hM.lt hM.o rfl rfl (Nat.le_of_ble_eq_true rfl) (fun w hq => ?_)
            obtain ⟨hM, hF⟩ := hq
            have hF0 := hF0.tr hF
            obtain ⟨M1, hM, hU⟩ := Mup.putE hM hU
            refine qa_aload_n hΓ dX6_setDelays_89 rfl ?_
            refine qa_iload_n hΓ dX6_setDelays_90 rfl ?_
            refine qa_iconst (v := nI 1) hΓ dX6_setDelays_91 ic_1 ?_
            refine qa_iload_n hΓ dX6_setDelays_92 rfl ?_
            refine qc_V0q hΓ dX6_setDelays_93 lk_X6_49 vw_X6_puts (by omega) (c_X6_puts l (d - 1) hM _ _ _ (by omega) (by omega)) rfl hM.lt hM.o rfl rfl (Nat.le_of_ble_eq_true rfl) (fun w hq => ?_)
            obtain ⟨hM, hF⟩ := hq
            have hF0 := hF0.tr hF
            obtain ⟨M1, hM, hU⟩ := Mup.putE hM hU
            refine qa_aload_n hΓ dX6_setDelays_96 rfl ?_
            refine qa_iload_n hΓ dX6_setDelays_97 rfl ?_
            refine qa_iconst (v := nI 2) hΓ dX6_setDelays_98 ic_2 ?_
            refine qa_iload hΓ dX6_setDelays_99 rfl ?_
            refine qc_V0q hΓ dX6_setDelays_101 lk_X6_49 vw_X6_puts (by omega) (c_X6_puts l (d - 1) hM _ _ _ (by omega) (by omega)) rfl hM.lt hM.o rfl rfl (Nat.le_of_ble_eq_true rfl) (fun w hq => ?_)
            obtain ⟨hM, hF⟩ := hq
            have hF0 := hF0.tr hF
            obtain ⟨M1, hM, hU⟩ := Mup.putE hM hU
            refine qa_iload hΓ dX6_setDelays_104 rfl ?_
            refine qz_if_eq (tgt := 113) hΓ dX6_setDelays_106 (by decide) (by decide) (fun _ => ?_) (fun h => absurd h (by decide))
            refine qa_iconst (v := nI 1) hΓ dX6_setDelays_113 ic_1 ?_
            exact qr_i hR dX6_setDelays_114 ⟨_, M1, rfl, hM, hF0, by
              unfold spSD
              rw [if_pos hC, tn_nI (by omega), tn_nI (by omega), tn_nI (by omega), tn_nI (by omega)]
              exact ⟨⟨fun q => absurd q (show ¬ sameD _ _ _ _ _ from (fun q => by first | exact h_51 q.1 | exact h_61 q.2.1 | exact h_72 q.2.2)), fun _ => rfl⟩, Op.of hN hU⟩⟩
          · refine qa_aload_n hΓ dX6_setDelays_54 rfl ?_
            refine qa_iload_n hΓ dX6_setDelays_55 rfl ?_
            refine qa_iconst (v := nI 1) hΓ dX6_setDelays_56 ic_1 ?_
            refine qc_V1 hΓ dX6_setDelays_57 lk_X6_37 vw_X6_of (by omega) (c_X6_ofU l (d - 1) hM hU _ _ (by omega) (by omega)) rfl hM.lt hM.o rfl rfl (Nat.le_of_ble_eq_true rfl) ?_
            refine qa_iload_n hΓ dX6_setDelays_60 rfl ?_
            refine qz_icmp_ne (tgt := 79) hΓ dX6_setDelays_61 (by decide) (by omega) (by omega) (fun h_61 => ?_) (fun h_61 => ?_)
            · refine qa_iconst (v := nI 0) hΓ dX6_setDelays_79 ic_0 ?_
              refine qa_istore hΓ dX6_setDelays_80 (by decide) ?_
              refine qa_aload_n hΓ dX6_setDelays_82 rfl ?_
              refine qa_iload_n hΓ dX6_setDelays_83 rfl ?_
              refine qa_iconst (v := nI 0) hΓ dX6_setDelays_84 ic_0 ?_
              refine qa_iload_n hΓ dX6_setDelays_85 rfl ?_
              refine qc_V0q hΓ dX6_setDelays_86 lk_X6_49 vw_X6_puts (by omega) (c_X6_puts l (d - 1) hM _ _ _ (by omega) (by omega)) rfl hM.lt hM.o rfl rfl (Nat.le_of_ble_eq_true rfl) (fun w hq => ?_)
              obtain ⟨hM, hF⟩ := hq
              have hF0 := hF0.tr hF
              obtain ⟨M1, hM, hU⟩ := Mup.putE hM hU
              refine qa_aload_n hΓ dX6_setDelays_89 rfl ?_
              refine qa_iload_n hΓ dX6_setDelays_90 rfl ?_
              refine qa_iconst (v := nI 1) hΓ dX6_setDelays_91 ic_1 ?_
              refine qa_iload_n hΓ dX6_setDelays_92 rfl ?_
              refine qc_V0q hΓ dX6_setDelays_93 lk_X6_49 vw_X6_puts (by omega) (c_X6_puts l (d - 1) hM _ _ _ (by omega) (by omega)) rfl hM.lt hM.o rfl rfl (Nat.le_of_ble_eq_true rfl) (fun w hq => ?_)
              obtain ⟨hM, hF⟩ := hq
              have hF0 := hF0.tr hF
              obtain ⟨M1, hM, hU⟩ := Mup.putE hM hU
              refine qa_aload_n hΓ dX6_setDelays_96 rfl ?_
              refine qa_iload_n hΓ dX6_setDelays_97 rfl ?_
              refine qa_iconst (v := nI 2) hΓ dX6_setDelays_98 ic_2 ?_
              refine qa_iload hΓ dX6_setDelays_99 rfl ?_
              refine qc_V0q hΓ dX6_setDelays_101 lk_X6_49 vw_X6_puts (by omega) (c_X6_puts l (d - 1) hM _ _ _ (by omega) (by omega)) rfl hM.lt hM.o rfl rfl (Nat.le_of_ble_eq_true rfl) (fun w hq => ?_)
              obtain ⟨hM, hF⟩ := hq
              have hF0 := hF0.tr hF
              obtain ⟨M1, hM, hU⟩ := Mup.putE hM hU
              refine qa_iload hΓ dX6_setDelays_104 rfl ?_
              refine qz_if_eq (tgt := 113) hΓ dX6_setDelays_106 (by decide) (by decide) (fun _ => ?_) (fun h => absurd h (by decide))
              refine qa_iconst (v := nI 1) hΓ dX6_setDelays_113 ic_1 ?_
              exact qr_i hR dX6_setDelays_114 ⟨_, M1, rfl, hM, hF0, by
                unfold spSD
                rw [if_pos hC, tn_nI (by omega), tn_nI (by omega), tn_nI (by omega), tn_nI (by omega)]
                exact ⟨⟨fun q => absurd q (show ¬ sameD _ _ _ _ _ from (fun q => by first | exact h_51 q.1 | exact h_61 q.2.1 | exact h_72 q.2.2)), fun _ => rfl⟩, Op.of hN hU⟩⟩
            · refine qa_aload_n hΓ dX6_setDelays_64 rfl ?_
              refine qa_iload_n hΓ dX6_setDelays_65 rfl ?_
              refine qa_iconst (v := nI 2) hΓ dX6_setDelays_66 ic_2 ?_
              refine qc_V1 hΓ dX6_setDelays_67 lk_X6_37 vw_X6_of (by omega) (c_X6_ofU l (d - 1) hM hU _ _ (by omega) (by omega)) rfl hM.lt hM.o rfl rfl (Nat.le_of_ble_eq_true rfl) ?_
              refine qa_iload hΓ dX6_setDelays_70 rfl ?_
              refine qz_icmp_ne (tgt := 79) hΓ dX6_setDelays_72 (by decide) (by omega) (by omega) (fun h_72 => ?_) (fun h_72 => ?_)
              · refine qa_iconst (v := nI 0) hΓ dX6_setDelays_79 ic_0 ?_
                refine qa_istore hΓ dX6_setDelays_80 (by decide) ?_
                refine qa_aload_n hΓ dX6_setDelays_82 rfl ?_
                refine qa_iload_n hΓ dX6_setDelays_83 rfl ?_
                refine qa_iconst (v := nI 0) hΓ dX6_setDelays_84 ic_0 ?_
                refine qa_iload_n hΓ dX6_setDelays_85 rfl ?_
                refine qc_V0q hΓ dX6_setDelays_86 lk_X6_49 vw_X6_puts (by omega) (c_X6_puts l (d - 1) hM _ _ _ (by omega) (by omega)) rfl hM.lt hM.o rfl rfl (Nat.le_of_ble_eq_true rfl) (fun w hq => ?_)
                obtain ⟨hM, hF⟩ := hq
                have hF0 := hF0.tr hF
                obtain ⟨M1, hM, hU⟩ := Mup.putE hM hU
                refine qa_aload_n hΓ dX6_setDelays_89 rfl ?_
                refine qa_iload_n hΓ dX6_setDelays_90 rfl ?_
                refine qa_iconst (v := nI 1) hΓ dX6_setDelays_91 ic_1 ?_
                refine qa_iload_n hΓ dX6_setDelays_92 rfl ?_
                refine qc_V0q hΓ dX6_setDelays_93 lk_X6_49 vw_X6_puts (by omega) (c_X6_puts l (d - 1) hM _ _ _ (by omega) (by omega)) rfl hM.lt hM.o rfl rfl (Nat.le_of_ble_eq_true rfl) (fun w hq => ?_)
                obtain ⟨hM, hF⟩ := hq
                have hF0 := hF0.tr hF
                obtain ⟨M1, hM, hU⟩ := Mup.putE hM hU
                refine qa_aload_n hΓ dX6_setDelays_96 rfl ?_
                refine qa_iload_n hΓ dX6_setDelays_97 rfl ?_
                refine qa_iconst (v := nI 2) hΓ dX6_setDelays_98 ic_2 ?_
                refine qa_iload hΓ dX6_setDelays_99 rfl ?_
                refine qc_V0q hΓ dX6_setDelays_101 lk_X6_49 vw_X6_puts (by omega) (c_X6_puts l (d - 1) hM _ _ _ (by omega) (by omega)) rfl hM.lt hM.o rfl rfl (Nat.le_of_ble_eq_true rfl) (fun w hq => ?_)
                obtain ⟨hM, hF⟩ := hq
                have hF0 := hF0.tr hF
                obtain ⟨M1, hM, hU⟩ := Mup.putE hM hU
                refine qa_iload hΓ dX6_setDelays_104 rfl ?_
                refine qz_if_eq (tgt := 113) hΓ dX6_setDelays_106 (by decide) (by decide) (fun _ => ?_) (fun h => absurd h (by decide))
                refine qa_iconst (v := nI 1) hΓ dX6_setDelays_113 ic_1 ?_
                exact qr_i hR dX6_setDelays_114 ⟨_, M1, rfl, hM, hF0, by
                  unfold spSD
                  rw [if_pos hC, tn_nI (by omega), tn_nI (by omega), tn_nI (by omega), tn_nI (by omega)]
                  exact ⟨⟨fun q => absurd q (show ¬ sameD _ _ _ _ _ from (fun q => by first | exact h_51 q.1 | exact h_61 q.2.1 | exact h_72 q.2.2)), fun _ => rfl⟩, Op.of hN hU⟩⟩
              · refine qa_iconst (v := nI 1) hΓ dX6_setDelays_75 ic_1 ?_
                refine qa_goto (tgt := 80) hΓ dX6_setDelays_76 (by decide) ?_
                refine qa_istore hΓ dX6_setDelays_80 (by decide) ?_
                refine qa_aload_n hΓ dX6_setDelays_82 rfl ?_
                refine qa_iload_n hΓ dX6_setDelays_83 rfl ?_
                refine qa_iconst (v := nI 0) hΓ dX6_setDelays_84 ic_0 ?_
                refine qa_iload_n hΓ dX6_setDelays_85 rfl ?_
                refine qc_V0q hΓ dX6_setDelays_86 lk_X6_49 vw_X6_puts (by omega) (c_X6_puts l (d - 1) hM _ _ _ (by omega) (by omega)) rfl hM.lt hM.o rfl rfl (Nat.le_of_ble_eq_true rfl) (fun w hq => ?_)
                obtain ⟨hM, hF⟩ := hq
                have hF0 := hF0.tr hF
                obtain ⟨M1, hM, hU⟩ := Mup.putE hM hU
                refine qa_aload_n hΓ dX6_setDelays_89 rfl ?_
                refine qa_iload_n hΓ dX6_setDelays_90 rfl ?_
                refine qa_iconst (v := nI 1) hΓ dX6_setDelays_91 ic_1 ?_
                refine qa_iload_n hΓ dX6_setDelays_92 rfl ?_
                refine qc_V0q hΓ dX6_setDelays_93 lk_X6_49 vw_X6_puts (by omega) (c_X6_puts l (d - 1) hM _ _ _ (by omega) (by omega)) rfl hM.lt hM.o rfl rfl (Nat.le_of_ble_eq_true rfl) (fun w hq => ?_)
                obtain ⟨hM, hF⟩ := hq
                have hF0 := hF0.tr hF
                obtain ⟨M1, hM, hU⟩ := Mup.putE hM hU
                refine qa_aload_n hΓ dX6_setDelays_96 rfl ?_
                refine qa_iload_n hΓ dX6_setDelays_97 rfl ?_
                refine qa_iconst (v := nI 2) hΓ dX6_setDelays_98 ic_2 ?_
                refine qa_iload hΓ dX6_setDelays_99 rfl ?_
                refine qc_V0q hΓ dX6_setDelays_101 lk_X6_49 vw_X6_puts (by omega) (c_X6_puts l (d - 1) hM _ _ _ (by omega) (by omega)) rfl hM.lt hM.o rfl rfl (Nat.le_of_ble_eq_true rfl) (fun w hq => ?_)
                obtain ⟨hM, hF⟩ := hq
                have hF0 := hF0.tr hF
                obtain ⟨M1, hM, hU⟩ := Mup.putE hM hU
                refine qa_iload hΓ dX6_setDelays_104 rfl ?_
                refine qz_if_eq (tgt := 113) hΓ dX6_setDelays_106 (by decide) (by decide) (fun h => absurd h (by decide)) (fun _ => ?_)
                refine qa_iconst (v := nI 0) hΓ dX6_setDelays_109 ic_0 ?_
                refine qa_goto (tgt := 114) hΓ dX6_setDelays_110 (by decide) ?_
                exact qr_i hR dX6_setDelays_114 ⟨_, M1, rfl, hM, hF0, by
                  unfold spSD
                  rw [if_pos hC, tn_nI (by omega), tn_nI (by omega), tn_nI (by omega), tn_nI (by omega)]
                  exact ⟨⟨fun _ => rfl, fun q => absurd (show sameD _ _ _ _ _ from ⟨h_51, h_61, h_72⟩) q⟩, Op.of hN hU⟩⟩
        · refine qa_iconst (v := (-1)) hΓ dX6_setDelays_38 ic_m1 ?_
          exact qr_i hR dX6_setDelays_39 ⟨-1, M, rfl, hM, Fr.rf, by unfold spSD; rw [if_neg (fun q => by first | exact of_decide_eq_false h_5 (q.1) | exact of_decide_eq_false h_15 (q.2.1) | exact of_decide_eq_false h_25 (q.2.2.1) | exact of_decide_eq_false h_35 (q.2.2.2))]; exact ⟨rfl, Sm.rf M⟩⟩

set_option maxRecDepth 100000 in
set_option maxHeartbeats 4000000 in
theorem c_X6_setFault (l : Launch) (d : Nat) (hd : 3 ≤ d) {n k : Nat} {w : Nat → AC} {M : Bk} (hM : MdAt n w k M) {B : Nat} (hW : Wt (M 0) B) (hB : B < 900000000) (hp : M 5 0 ≤ 6) (rl v : Int32) : Sq l yX6_setFault cX6_setFault 4 (some .int) d [aR k, aI rl, aI v] n w (QM (spPut 6 2 M rl v) n k w) := by
  refine Sp.of (plainFor_of_name (by decide)) (Nat.le_of_ble_eq_true rfl) (fun Γ hΓ hR => ?_)
  show Γ 0 [aR k, aI rl, aI v, none] [] (0, 0) n w
  refine qa_aload_n hΓ dX6_setFault_0 rfl ?_
  refine qa_iload_n hΓ dX6_setFault_1 rfl ?_
  refine qc_V1 hΓ dX6_setFault_2 lk_X6_82 vw_X6_isRelay (by omega) (c_X6_isRelay l (d - 1) (by omega) hM _) rfl hM.lt hM.o rfl rfl (Nat.le_of_ble_eq_true rfl) ?_
  refine qb_if_eq (tgt := 17) hΓ dX6_setFault_5 (by decide) (fun h_5 => ?_) (fun h_5 => ?_)
  · refine qa_iconst (v := (-1)) hΓ dX6_setFault_17 ic_m1 ?_
    exact qr_i hR dX6_setFault_18 ⟨-1, M, rfl, hM, Fr.rf, by unfold spPut; rw [if_neg (fun q => by first | exact of_decide_eq_false h_5 (q.1) | exact of_decide_eq_false h_14 (q.2))]; exact ⟨rfl, Sm.rf M⟩⟩
  · refine qa_iload_n hΓ dX6_setFault_8 rfl ?_
    refine qa_iconst (v := nI 0) hΓ dX6_setFault_9 ic_0 ?_
    refine qa_iconst (v := nI 2) hΓ dX6_setFault_10 ic_2 ?_
    refine qc_S1 hΓ dX6_setFault_11 lk_X6_33 vw_X6_in (by omega) (c_X6_in l (d - 1) _ _ _) rfl rfl (Nat.le_of_ble_eq_true rfl) ?_
    refine qb_if_ne (tgt := 19) hΓ dX6_setFault_14 (by decide) (fun h_14 => ?_) (fun h_14 => ?_)
    · have hC : isR (M 0 1) rl ∧ (nI 0 ≤ v ∧ v ≤ nI 2) := ⟨of_decide_eq_true h_5, of_decide_eq_true h_14⟩
      obtain ⟨r, hr, rfl⟩ := isR_of (by have := hW.2.1; omega) hC.1
      obtain ⟨f, hf1, hf2, rfl⟩ := rng (by decide) hC.2 (by decide)
      have h8 := hW.2.1
      have hW1 : Wt (upN (M 0) (ix r 6) f) B := hW.up (by decide) (by simpa [bdF] using hf2)
      refine qa_aload_n hΓ dX6_setFault_19 rfl ?_
      refine qc_V0q hΓ dX6_setFault_20 lk_X6_79 vw_X6_notes (by omega) (c_X6_notes l (d - 1) hM hp) rfl hM.lt hM.o rfl rfl (Nat.le_of_ble_eq_true rfl) (fun w hq => ?_)
      obtain ⟨M1, hM, hN, hF0⟩ := hq
      have hU := hN.mup
      refine qa_aload_n hΓ dX6_setFault_23 rfl ?_
      refine qa_iload_n hΓ dX6_setFault_24 rfl ?_
      refine qa_bipush (v := nI 6) hΓ dX6_setFault_25 bp_6 ?_
      refine qc_V1 hΓ dX6_setFault_27 lk_X6_37 vw_X6_of (by omega) (c_X6_ofU l (d - 1) hM hU _ _ (by omega) (by omega)) rfl hM.lt hM.o rfl rfl (Nat.le_of_ble_eq_true rfl) ?_
      refine qa_istore_n hΓ dX6_setFault_30 (by decide) ?_
      refine qa_aload_n hΓ dX6_setFault_31 rfl ?_
      refine qa_iload_n hΓ dX6_setFault_32 rfl ?_
      refine qa_bipush (v := nI 6) hΓ dX6_setFault_33 bp_6 ?_
      refine qa_iload_n hΓ dX6_setFault_35 rfl ?_
      refine qc_V0q hΓ dX6_setFault_36 lk_X6_49 vw_X6_puts (by omega) (c_X6_puts l (d - 1) hM _ _ _ (by omega) (by omega)) rfl hM.lt hM.o rfl rfl (Nat.le_of_ble_eq_true rfl) (fun w hq => ?_)
      obtain ⟨hM, hF⟩ := hq
      have hF0 := hF0.tr hF
      obtain ⟨M1, hM, hU⟩ := Mup.putE hM hU
      refine qa_aload_n hΓ dX6_setFault_39 rfl ?_
      refine qa_dup hΓ dX6_setFault_40 ?_
      refine qa_get hΓ dX6_setFault_41 fk_X6_65 hM.lt hM.o rfl ?_
      refine qa_aload_n hΓ dX6_setFault_44 rfl ?_
      refine qc_V1q hΓ dX6_setFault_45 lk_X6_68 vw_X6_looks (by omega) (c_X6_looks l (d - 1) (by omega) hM (by rw [hU.1]; exact hW1) (by omega)) rfl hM.lt hM.o rfl rfl (Nat.le_of_ble_eq_true rfl) (fun w hq => ?_)
      obtain ⟨M2, hM, hU2, hF⟩ := hq
      have hF0 := hF0.tr hF
      have hUo := hU
      have hU := hU.lookE hU2
      refine qz_iadd hΓ dX6_setFault_48 ?_
      refine qM_put hΓ 2 dX6_setFault_49 fk_X6_65 (by decide) hM (fun w hM hF => ?_)
      have hF0 := hF0.tr hF
      obtain ⟨M1, hM, hU⟩ := Mup.chgE hM hU
      refine qa_iload_n hΓ dX6_setFault_52 rfl ?_
      exact qr_i hR dX6_setFault_53 ⟨_, M1, rfl, hM, hF0, by
        unfold spPut
        rw [if_pos hC, tn_nI (by omega), tn_nI (by omega)]
        exact ⟨rfl, Op.of hN hU⟩⟩
    · refine qa_iconst (v := (-1)) hΓ dX6_setFault_17 ic_m1 ?_
      exact qr_i hR dX6_setFault_18 ⟨-1, M, rfl, hM, Fr.rf, by unfold spPut; rw [if_neg (fun q => by first | exact of_decide_eq_false h_5 (q.1) | exact of_decide_eq_false h_14 (q.2))]; exact ⟨rfl, Sm.rf M⟩⟩

set_option maxRecDepth 100000 in
set_option maxHeartbeats 4000000 in
theorem c_X6_stick (l : Launch) (d : Nat) (hd : 3 ≤ d) {n k : Nat} {w : Nat → AC} {M : Bk} (hM : MdAt n w k M) {B : Nat} (hW : Wt (M 0) B) (hB : B < 900000000) (hp : M 5 0 ≤ 6) (rl v : Int32) : Sq l yX6_stick cX6_stick 4 (some .int) d [aR k, aI rl, aI v] n w (QM (spPut 7 1 M rl v) n k w) := by
  refine Sp.of (plainFor_of_name (by decide)) (Nat.le_of_ble_eq_true rfl) (fun Γ hΓ hR => ?_)
  show Γ 0 [aR k, aI rl, aI v, none] [] (0, 0) n w
  refine qa_aload_n hΓ dX6_stick_0 rfl ?_
  refine qa_iload_n hΓ dX6_stick_1 rfl ?_
  refine qc_V1 hΓ dX6_stick_2 lk_X6_82 vw_X6_isRelay (by omega) (c_X6_isRelay l (d - 1) (by omega) hM _) rfl hM.lt hM.o rfl rfl (Nat.le_of_ble_eq_true rfl) ?_
  refine qb_if_eq (tgt := 17) hΓ dX6_stick_5 (by decide) (fun h_5 => ?_) (fun h_5 => ?_)
  · refine qa_iconst (v := (-1)) hΓ dX6_stick_17 ic_m1 ?_
    exact qr_i hR dX6_stick_18 ⟨-1, M, rfl, hM, Fr.rf, by unfold spPut; rw [if_neg (fun q => by first | exact of_decide_eq_false h_5 (q.1) | exact of_decide_eq_false h_14 (q.2))]; exact ⟨rfl, Sm.rf M⟩⟩
  · refine qa_iload_n hΓ dX6_stick_8 rfl ?_
    refine qa_iconst (v := nI 0) hΓ dX6_stick_9 ic_0 ?_
    refine qa_iconst (v := nI 1) hΓ dX6_stick_10 ic_1 ?_
    refine qc_S1 hΓ dX6_stick_11 lk_X6_33 vw_X6_in (by omega) (c_X6_in l (d - 1) _ _ _) rfl rfl (Nat.le_of_ble_eq_true rfl) ?_
    refine qb_if_ne (tgt := 19) hΓ dX6_stick_14 (by decide) (fun h_14 => ?_) (fun h_14 => ?_)
    · have hC : isR (M 0 1) rl ∧ (nI 0 ≤ v ∧ v ≤ nI 1) := ⟨of_decide_eq_true h_5, of_decide_eq_true h_14⟩
      obtain ⟨r, hr, rfl⟩ := isR_of (by have := hW.2.1; omega) hC.1
      obtain ⟨f, hf1, hf2, rfl⟩ := rng (by decide) hC.2 (by decide)
      have h8 := hW.2.1
      have hW1 : Wt (upN (M 0) (ix r 7) f) B := hW.up (by decide) (by simpa [bdF] using hf2)
      refine qa_aload_n hΓ dX6_stick_19 rfl ?_
      refine qc_V0q hΓ dX6_stick_20 lk_X6_79 vw_X6_notes (by omega) (c_X6_notes l (d - 1) hM hp) rfl hM.lt hM.o rfl rfl (Nat.le_of_ble_eq_true rfl) (fun w hq => ?_)
      obtain ⟨M1, hM, hN, hF0⟩ := hq
      have hU := hN.mup
      refine qa_aload_n hΓ dX6_stick_23 rfl ?_
      refine qa_iload_n hΓ dX6_stick_24 rfl ?_
      refine qa_bipush (v := nI 7) hΓ dX6_stick_25 bp_7 ?_
      refine qc_V1 hΓ dX6_stick_27 lk_X6_37 vw_X6_of (by omega) (c_X6_ofU l (d - 1) hM hU _ _ (by omega) (by omega)) rfl hM.lt hM.o rfl rfl (Nat.le_of_ble_eq_true rfl) ?_
      refine qa_istore_n hΓ dX6_stick_30 (by decide) ?_
      refine qa_aload_n hΓ dX6_stick_31 rfl ?_
      refine qa_iload_n hΓ dX6_stick_32 rfl ?_
      refine qa_bipush (v := nI 7) hΓ dX6_stick_33 bp_7 ?_
      refine qa_iload_n hΓ dX6_stick_35 rfl ?_
      refine qc_V0q hΓ dX6_stick_36 lk_X6_49 vw_X6_puts (by omega) (c_X6_puts l (d - 1) hM _ _ _ (by omega) (by omega)) rfl hM.lt hM.o rfl rfl (Nat.le_of_ble_eq_true rfl) (fun w hq => ?_)
      obtain ⟨hM, hF⟩ := hq
      have hF0 := hF0.tr hF
      obtain ⟨M1, hM, hU⟩ := Mup.putE hM hU
      refine qa_aload_n hΓ dX6_stick_39 rfl ?_
      refine qa_dup hΓ dX6_stick_40 ?_
      refine qa_get hΓ dX6_stick_41 fk_X6_65 hM.lt hM.o rfl ?_
      refine qa_aload_n hΓ dX6_stick_44 rfl ?_
      refine qc_V1q hΓ dX6_stick_45 lk_X6_68 vw_X6_looks (by omega) (c_X6_looks l (d - 1) (by omega) hM (by rw [hU.1]; exact hW1) (by omega)) rfl hM.lt hM.o rfl rfl (Nat.le_of_ble_eq_true rfl) (fun w hq => ?_)
      obtain ⟨M2, hM, hU2, hF⟩ := hq
      have hF0 := hF0.tr hF
      have hUo := hU
      have hU := hU.lookE hU2
      refine qz_iadd hΓ dX6_stick_48 ?_
      refine qM_put hΓ 2 dX6_stick_49 fk_X6_65 (by decide) hM (fun w hM hF => ?_)
      have hF0 := hF0.tr hF
      obtain ⟨M1, hM, hU⟩ := Mup.chgE hM hU
      refine qa_iload_n hΓ dX6_stick_52 rfl ?_
      exact qr_i hR dX6_stick_53 ⟨_, M1, rfl, hM, hF0, by
        unfold spPut
        rw [if_pos hC, tn_nI (by omega), tn_nI (by omega)]
        exact ⟨rfl, Op.of hN hU⟩⟩
    · refine qa_iconst (v := (-1)) hΓ dX6_stick_17 ic_m1 ?_
      exact qr_i hR dX6_stick_18 ⟨-1, M, rfl, hM, Fr.rf, by unfold spPut; rw [if_neg (fun q => by first | exact of_decide_eq_false h_5 (q.1) | exact of_decide_eq_false h_14 (q.2))]; exact ⟨rfl, Sm.rf M⟩⟩

set_option maxRecDepth 100000 in
set_option maxHeartbeats 4000000 in
theorem c_X6_press (l : Launch) (d : Nat) (hd : 3 ≤ d) {n k : Nat} {w : Nat → AC} {M : Bk} (hM : MdAt n w k M) {B : Nat} (hW : Wt (M 0) B) (hB : B < 900000000) (hp : M 5 0 ≤ 6) (ky on : Int32) : Sq l yX6_press cX6_press 3 (some .int) d [aR k, aI ky, aI on] n w (QM (spPr M ky on) n k w) := by
  refine Sp.of (plainFor_of_name (by decide)) (Nat.le_of_ble_eq_true rfl) (fun Γ hΓ hR => ?_)
  show Γ 0 [aR k, aI ky, aI on] [] (0, 0) n w
  refine qa_iload_n hΓ dX6_press_0 rfl ?_
  refine qa_iconst (v := nI 0) hΓ dX6_press_1 ic_0 ?_
  refine qa_bipush (v := nI 7) hΓ dX6_press_2 bp_7 ?_
  refine qc_S1 hΓ dX6_press_4 lk_X6_33 vw_X6_in (by omega) (c_X6_in l (d - 1) _ _ _) rfl rfl (Nat.le_of_ble_eq_true rfl) ?_
  refine qb_if_eq (tgt := 19) hΓ dX6_press_7 (by decide) (fun h_7 => ?_) (fun h_7 => ?_)
  · refine qa_iconst (v := (-1)) hΓ dX6_press_19 ic_m1 ?_
    exact qr_i hR dX6_press_20 ⟨-1, M, rfl, hM, Fr.rf, by unfold spPr; rw [if_neg (fun q => by first | exact of_decide_eq_false h_7 (q.1) | exact of_decide_eq_false h_16 (q.2))]; exact ⟨rfl, Sm.rf M⟩⟩
  · refine qa_iload_n hΓ dX6_press_10 rfl ?_
    refine qa_iconst (v := nI 0) hΓ dX6_press_11 ic_0 ?_
    refine qa_iconst (v := nI 1) hΓ dX6_press_12 ic_1 ?_
    refine qc_S1 hΓ dX6_press_13 lk_X6_33 vw_X6_in (by omega) (c_X6_in l (d - 1) _ _ _) rfl rfl (Nat.le_of_ble_eq_true rfl) ?_
    refine qb_if_ne (tgt := 21) hΓ dX6_press_16 (by decide) (fun h_16 => ?_) (fun h_16 => ?_)
    · have hC : (nI 0 ≤ ky ∧ ky ≤ nI 7) ∧ (nI 0 ≤ on ∧ on ≤ nI 1) := ⟨of_decide_eq_true h_7, of_decide_eq_true h_16⟩
      obtain ⟨ky, hk1, hk2, rfl⟩ := rng (by decide) hC.1 (by decide)
      obtain ⟨on, ho1, ho2, rfl⟩ := rng (by decide) hC.2 (by decide)
      have h256 := hW.1
      have hW1 : Wt (prS (M 0) ky) B := hW.pr (by omega)
      refine qa_aload_n hΓ dX6_press_21 rfl ?_
      refine qa_get hΓ dX6_press_22 fk_X6_7 hM.lt hM.o rfl ?_
      refine qa_iconst (v := nI 0) hΓ dX6_press_25 ic_0 ?_
      refine qz_iald hΓ dX6_press_26 (hM.lti (i := 1) (by decide)) hM.a0 (by omega) (by decide) ?_
      refine qa_iload_n hΓ dX6_press_27 rfl ?_
      refine qz_ishr hΓ dX6_press_28 (by omega) (by omega) ?_
      refine qa_iconst (v := nI 1) hΓ dX6_press_29 ic_1 ?_
      refine qz_iand hΓ dX6_press_30 ?_
      refine qa_iload_n hΓ dX6_press_31 rfl ?_
      rw [bt1]
      have hbt := Bool.toNat_le1 ((M 0 0).testBit ky)
      refine qz_icmp_ne (tgt := 38) hΓ dX6_press_32 (by decide) (by omega) (by omega) (fun h_32 => ?_) (fun h_32 => ?_)
      · refine qa_aload_n hΓ dX6_press_38 rfl ?_
        refine qc_V0q hΓ dX6_press_39 lk_X6_79 vw_X6_notes (by omega) (c_X6_notes l (d - 1) hM hp) rfl hM.lt hM.o rfl rfl (Nat.le_of_ble_eq_true rfl) (fun w hq => ?_)
        obtain ⟨M1, hM, hN, hF0⟩ := hq
        have hU := hN.mup
        refine qa_aload_n hΓ dX6_press_42 rfl ?_
        refine qa_get hΓ dX6_press_43 fk_X6_7 hM.lt hM.o rfl ?_
        refine qa_iconst (v := nI 0) hΓ dX6_press_46 ic_0 ?_
        refine qa_dup2 hΓ dX6_press_47 ?_
        refine qz_iald hΓ dX6_press_48 (hM.lti (i := 1) (by decide)) hM.a0 (by omega) (by decide) ?_
        refine qa_iconst (v := nI 1) hΓ dX6_press_49 ic_1 ?_
        refine qa_iload_n hΓ dX6_press_50 rfl ?_
        refine qz_ishl hΓ dX6_press_51 (by omega) ?_
        refine qz_ixor hΓ dX6_press_52 ?_
        refine qM_ast hΓ (N := 203) 0 (by decide) rfl rfl dX6_press_53 hM (by omega) (fun w hM hF => ?_)
        have hF0 := hF0.tr hF
        rw [hU.1] at hM
        obtain ⟨M1, hM, hU⟩ := Mup.setE hM hU
        refine qa_aload_n hΓ dX6_press_54 rfl ?_
        refine qc_V1q hΓ dX6_press_55 lk_X6_68 vw_X6_looks (by omega) (c_X6_looks l (d - 1) (by omega) hM (by rw [hU.1]; exact hW1) (by omega)) rfl hM.lt hM.o rfl rfl (Nat.le_of_ble_eq_true rfl) (fun w hq => ?_)
        obtain ⟨M2, hM, hU2, hF⟩ := hq
        have hF0 := hF0.tr hF
        have hUo := hU
        have hU := hU.lookE hU2
        exact qr_i hR dX6_press_58 ⟨_, M2, rfl, hM, hF0, by
          unfold spPr
          rw [if_pos hC, tn_nI (by omega), tn_nI (by omega), if_neg h_32]
          rw [hUo.1]
          exact ⟨rfl, Op.of hN hU⟩⟩
      · refine qa_bipush (v := (-2)) hΓ dX6_press_35 bp_m2 ?_
        exact qr_i hR dX6_press_37 ⟨-2, M, rfl, hM, Fr.rf, by
          unfold spPr
          rw [if_pos hC, tn_nI (by omega), tn_nI (by omega), if_pos h_32]
          exact ⟨rfl, Sm.rf M⟩⟩
    · refine qa_iconst (v := (-1)) hΓ dX6_press_19 ic_m1 ?_
      exact qr_i hR dX6_press_20 ⟨-1, M, rfl, hM, Fr.rf, by unfold spPr; rw [if_neg (fun q => by first | exact of_decide_eq_false h_7 (q.1) | exact of_decide_eq_false h_16 (q.2))]; exact ⟨rfl, Sm.rf M⟩⟩

set_option maxRecDepth 100000 in
set_option maxHeartbeats 4000000 in
theorem c_X6_step (l : Launch) (d : Nat) (hd : 4 ≤ d) {n k : Nat} {w : Nat → AC} {M : Bk} (hM : MdAt n w k M) {B : Nat} (hW : Wt (M 0) B) (hB : B < 900000000) (hp : M 5 0 ≤ 6) : Sq l yX6_step cX6_step 2 (some .int) d [aR k] n w (QM (spStep M) n k w) := by
  refine Sp.of (plainFor_of_name (by decide)) (Nat.le_of_ble_eq_true rfl) (fun Γ hΓ hR => ?_)
  show Γ 0 [aR k, none] [] (0, 0) n w
  refine qa_aload_n hΓ dX6_step_0 rfl ?_
  refine qa_iconst (v := nI 0) hΓ dX6_step_1 ic_0 ?_
  refine qc_V1 hΓ dX6_step_2 lk_X6_71 vw_X6_next (by omega) (c_X6_next l (d - 1) (by omega) hM hW (by omega) false) rfl hM.lt hM.o rfl rfl (Nat.le_of_ble_eq_true rfl) ?_
  refine qa_istore_n hΓ dX6_step_5 (by decide) ?_
  refine qa_iload_n hΓ dX6_step_6 rfl ?_
  refine qa_bipush (v := (-9)) hΓ dX6_step_7 bp_m9 ?_
  cases ho : nx (M 0) false with
  | none =>
    refine qa_icmp_ne (tgt := 15) hΓ dX6_step_9 (by decide) (fun h => absurd rfl h) (fun _ => ?_)
    refine qa_bipush (v := (-2)) hΓ dX6_step_12 bp_m2 ?_
    exact qr_i hR dX6_step_14 ⟨-2, M, rfl, hM, Fr.rf, by
      unfold spStep
      rw [ho]
      exact ⟨rfl, Sm.rf M⟩⟩
  | some q =>
    have hq9 := nx_lt ho
    have h8 := hW.2.1
    refine qa_icmp_ne (tgt := 15) hΓ dX6_step_9 (by decide) (fun _ => ?_) (fun h => absurd h (nI_m9 q (by omega)))
    show Γ 15 [aR k, aZ q] [] (0, 0) n w
    refine qa_aload_n hΓ dX6_step_15 rfl ?_
    refine qc_V0q hΓ dX6_step_16 lk_X6_79 vw_X6_notes (by omega) (c_X6_notes l (d - 1) hM hp) rfl hM.lt hM.o rfl rfl (Nat.le_of_ble_eq_true rfl) (fun w hq => ?_)
    obtain ⟨M1, hM, hN, hF0⟩ := hq
    have hU := hN.mup
    refine qa_aload_n hΓ dX6_step_19 rfl ?_
    refine qa_iload_n hΓ dX6_step_20 rfl ?_
    refine qc_V0q hΓ dX6_step_21 lk_X6_75 vw_X6_happens (by omega) (c_X6_happens l (d - 1) (by omega) hM (by rw [hU.1]; exact hW) (by omega) q (by rw [hU.1]; exact hq9) (nx_kind ho)) rfl hM.lt hM.o rfl rfl (Nat.le_of_ble_eq_true rfl) (fun w hq => ?_)
    obtain ⟨M2, hM, hU2, hF⟩ := hq
    have hF0 := hF0.tr hF
    rw [hU.1] at hU2
    have hU := hU.tr hU2
    refine qa_bipush (v := nI 10) hΓ dX6_step_24 bp_10 ?_
    refine qa_iload_n hΓ dX6_step_26 rfl ?_
    refine qa_iconst (v := nI 4) hΓ dX6_step_27 ic_4 ?_
    refine qz_idiv hΓ dX6_step_28 (by omega) (by decide) (by decide) ?_
    refine qz_imul hΓ dX6_step_29 ?_
    refine qa_iload_n hΓ dX6_step_30 rfl ?_
    refine qa_iconst (v := nI 4) hΓ dX6_step_31 ic_4 ?_
    refine qz_irem hΓ dX6_step_32 (by omega) (by decide) (by decide) ?_
    refine qz_iadd hΓ dX6_step_33 ?_
    exact qr_i hR dX6_step_34 ⟨_, M2, rfl, hM, hF0, by
      unfold spStep
      rw [ho]
      exact ⟨rfl, Op.of hN hU⟩⟩

set_option maxRecDepth 100000 in
set_option maxHeartbeats 4000000 in
theorem c_X6_settle (l : Launch) (d : Nat) (hd : 5 ≤ d) {n k : Nat} {w : Nat → AC} {M : Bk} (hM : MdAt n w k M) {B : Nat} (hW : Wt (M 0) B) (hB : B < 900000000) (hp : M 5 0 ≤ 6) (ev : Int32) : Sq l yX6_settle cX6_settle 2 (some .int) d [aR k, aI ev] n w (QM (spSettle M ev) n k w) := by
  refine Sp.of (plainFor_of_name (by decide)) (Nat.le_of_ble_eq_true rfl) (fun Γ hΓ hR => ?_)
  show Γ 0 [aR k, aI ev] [] (0, 0) n w
  refine qa_iload_n hΓ dX6_settle_0 rfl ?_
  refine qa_iconst (v := nI 1) hΓ dX6_settle_1 ic_1 ?_
  refine qa_sipush (v := nI 200) hΓ dX6_settle_2 sp_200 ?_
  refine qc_S1 hΓ dX6_settle_5 lk_X6_33 vw_X6_in (by omega) (c_X6_in l (d - 1) _ _ _) rfl rfl (Nat.le_of_ble_eq_true rfl) ?_
  refine qb_if_ne (tgt := 13) hΓ dX6_settle_8 (by decide) (fun h_8 => ?_) (fun h_8 => ?_)
  · have hC : nI 1 ≤ ev ∧ ev ≤ nI 200 := of_decide_eq_true h_8
    obtain ⟨ev, he1, he2, rfl⟩ := rng (by decide) hC (by decide)
    refine qa_aload_n hΓ dX6_settle_13 rfl ?_
    refine qc_V0q hΓ dX6_settle_14 lk_X6_79 vw_X6_notes (by omega) (c_X6_notes l (d - 1) hM hp) rfl hM.lt hM.o rfl rfl (Nat.le_of_ble_eq_true rfl) (fun w hq => ?_)
    obtain ⟨M1, hM, hN, hF0⟩ := hq
    have hU := hN.mup
    refine qa_aload_n hΓ dX6_settle_17 rfl ?_
    refine qa_iconst (v := nI 0) hΓ dX6_settle_18 ic_0 ?_
    refine qa_iload_n hΓ dX6_settle_19 rfl ?_
    refine qc_V1q hΓ dX6_settle_20 lk_X6_127 vw_X6_settles (by omega) (c_X6_settles l (d - 1) (by omega) hM (by rw [hU.1]; exact hW) false _ (by omega) (by omega)) rfl hM.lt hM.o rfl rfl (Nat.le_of_ble_eq_true rfl) (fun w hq => ?_)
    obtain ⟨M2, hM, hU2, hF⟩ := hq
    have hF0 := hF0.tr hF
    have hUo := hU
    rw [hU.1] at hU2
    have hU := hU.tr hU2
    exact qr_i hR dX6_settle_23 ⟨_, M2, rfl, hM, hF0, by
      unfold spSettle
      rw [if_pos hC, tn_nI (by omega), hUo.1]
      exact ⟨rfl, Op.of hN hU⟩⟩
  · refine qa_iconst (v := (-1)) hΓ dX6_settle_11 ic_m1 ?_
    exact qr_i hR dX6_settle_12 ⟨-1, M, rfl, hM, Fr.rf, by unfold spSettle; rw [if_neg (fun q => by first | exact of_decide_eq_false h_8 (q))]; exact ⟨rfl, Sm.rf M⟩⟩
end
section
/-! The model: conditions and branches -/
theorem c_X6_ofUE (l : Launch) (d : Nat) {n k : Nat} {w : Nat → AC} {M0 M : Bk} {s : Nat → Nat} (hM : MdAt n w k M) (hU : Mup M0 s M) (r x : Nat) (hr : r < 8) (hx : x < 25) {y : Nat} (e : vv s r x = y) : Sq l yX6_of cX6_of 3 (some .int) d [aR k, aZ r, aZ x] n w (Rs (some (aZ y)) w) := by
  subst e
  exact c_X6_ofU l d hM hU r x hr hx
theorem shS_x (t : Nat → Nat) (r lo hi x : Nat) (h : x < lo ∨ hi ≤ x) (hx : x < 25) : vv (shS t r lo hi) r x = vv t r x := by
  unfold vv shS
  rw [if_neg (by omega)]
theorem shS_step (t : Nat → Nat) (r lo kk : Nat) (h : lo ≤ kk) : upN (shS t r lo kk) (ix r kk) (vv (shS t r lo kk) r (kk + 2)) = shS t r lo (kk + 1) := by
  funext j
  unfold upN vv
  by_cases q : j = ix r kk
  · rw [if_pos q]
    unfold shS
    rw [if_neg (by unfold ix at q; omega), if_pos (by unfold ix at q; omega)]
    congr 1
    unfold ix at q
    omega
  · rw [if_neg q]
    unfold shS
    unfold ix at q
    by_cases q2 : 3 + 25 * r + lo ≤ j ∧ j < 3 + 25 * r + kk
    · rw [if_pos q2, if_pos (by omega)]
    · rw [if_neg q2, if_neg (by omega)]
set_option maxRecDepth 100000 in
set_option maxHeartbeats 4000000 in
theorem c_X6_setCondition (l : Launch) (d : Nat) (hd : 3 ≤ d) {n k : Nat} {w : Nat → AC} {M : Bk} (hM : MdAt n w k M) {B : Nat} (hW : Wt (M 0) B) (hB : B < 900000000) (hp : M 5 0 ≤ 6) (rl br su hw : Int32) : Sq l yX6_setCondition cX6_setCondition 6 (some .int) d [aR k, aI rl, aI br, aI su, aI hw] n w (QM (spSC M rl br su hw) n k w) := by
  refine Sp.of (plainFor_of_name (by decide)) (Nat.le_of_ble_eq_true rfl) (fun Γ hΓ hR => ?_)
  show Γ 0 [aR k, aI rl, aI br, aI su, aI hw, none] [] (0, 0) n w
  refine qa_aload_n hΓ dX6_setCondition_0 rfl ?_
  refine qa_iload_n hΓ dX6_setCondition_1 rfl ?_
  refine qc_V1 hΓ dX6_setCondition_2 lk_X6_82 vw_X6_isRelay (by omega) (c_X6_isRelay l (d - 1) (by omega) hM _) rfl hM.lt hM.o rfl rfl (Nat.le_of_ble_eq_true rfl) ?_
  refine qb_if_eq (tgt := 41) hΓ dX6_setCondition_5 (by decide) (fun h_5 => ?_) (fun h_5 => ?_)
  · refine qa_iconst (v := (-1)) hΓ dX6_setCondition_41 ic_m1 ?_
    exact qr_i hR dX6_setCondition_42 ⟨-1, M, rfl, hM, Fr.rf, by unfold spSC; rw [if_neg (fun q => of_decide_eq_false h_5 q.1)]; exact ⟨rfl, Sm.rf M⟩⟩
  · obtain ⟨r, hr, rfl⟩ := isR_of (by have := hW.2.1; omega) (of_decide_eq_true h_5)
    have h8 := hW.2.1
    have hm6 : vv (M 0) r 12 ≤ 6 := by have := hW.2.2.2 r hr 12 (by decide); simpa [bdF] using this
    refine qa_iload_n hΓ dX6_setCondition_8 rfl ?_
    refine qa_iconst (v := nI 0) hΓ dX6_setCondition_9 ic_0 ?_
    refine qa_aload_n hΓ dX6_setCondition_10 rfl ?_
    refine qa_iload_n hΓ dX6_setCondition_11 rfl ?_
    refine qa_bipush (v := nI 12) hΓ dX6_setCondition_12 bp_12 ?_
    refine qc_V1 hΓ dX6_setCondition_14 lk_X6_37 vw_X6_of (by omega) (c_X6_of l (d - 1) hM r _ (by omega) (by decide)) rfl hM.lt hM.o rfl rfl (Nat.le_of_ble_eq_true rfl) ?_
    refine qc_S1 hΓ dX6_setCondition_17 lk_X6_33 vw_X6_in (by omega) (c_X6_in l (d - 1) _ _ _) rfl rfl (Nat.le_of_ble_eq_true rfl) ?_
    refine qb_if_eq (tgt := 41) hΓ dX6_setCondition_20 (by decide) (fun h_20 => ?_) (fun h_20 => ?_)
    · refine qa_iconst (v := (-1)) hΓ dX6_setCondition_41 ic_m1 ?_
      exact qr_i hR dX6_setCondition_42 ⟨-1, M, rfl, hM, Fr.rf, by unfold spSC; rw [tn_nI (by omega), if_neg (fun q => by first | exact of_decide_eq_false h_20 q.2.1 | exact of_decide_eq_false h_28 q.2.2.1 | exact of_decide_eq_false h_38 q.2.2.2)]; exact ⟨rfl, Sm.rf M⟩⟩
    · refine qa_aload_n hΓ dX6_setCondition_23 rfl ?_
      refine qa_iload_n hΓ dX6_setCondition_24 rfl ?_
      refine qc_V1 hΓ dX6_setCondition_25 lk_X6_85 vw_X6_isSubject (by omega) (c_X6_isSubject l (d - 1) (by omega) hM _ h8) rfl hM.lt hM.o rfl rfl (Nat.le_of_ble_eq_true rfl) ?_
      refine qb_if_eq (tgt := 41) hΓ dX6_setCondition_28 (by decide) (fun h_28 => ?_) (fun h_28 => ?_)
      · refine qa_iconst (v := (-1)) hΓ dX6_setCondition_41 ic_m1 ?_
        exact qr_i hR dX6_setCondition_42 ⟨-1, M, rfl, hM, Fr.rf, by unfold spSC; rw [tn_nI (by omega), if_neg (fun q => by first | exact of_decide_eq_false h_20 q.2.1 | exact of_decide_eq_false h_28 q.2.2.1 | exact of_decide_eq_false h_38 q.2.2.2)]; exact ⟨rfl, Sm.rf M⟩⟩
      · refine qa_iload hΓ dX6_setCondition_31 rfl ?_
        refine qa_iconst (v := nI 0) hΓ dX6_setCondition_33 ic_0 ?_
        refine qa_iconst (v := nI 2) hΓ dX6_setCondition_34 ic_2 ?_
        refine qc_S1 hΓ dX6_setCondition_35 lk_X6_33 vw_X6_in (by omega) (c_X6_in l (d - 1) _ _ _) rfl rfl (Nat.le_of_ble_eq_true rfl) ?_
        refine qb_if_ne (tgt := 43) hΓ dX6_setCondition_38 (by decide) (fun h_38 => ?_) (fun h_38 => ?_)
        · have hC0 := And.intro (of_decide_eq_true h_5) (And.intro (of_decide_eq_true h_20) (And.intro (of_decide_eq_true h_28) (of_decide_eq_true h_38)))
          obtain ⟨b, hb1, hb2, rfl⟩ := rng (by omega) hC0.2.1 (by decide)
          obtain ⟨x, hx1, hx2, rfl⟩ := rng (by omega) hC0.2.2.1 (by decide)
          obtain ⟨how, hh1, hh2, rfl⟩ := rng (by decide) hC0.2.2.2 (by decide)
          refine qa_iload_n hΓ dX6_setCondition_43 rfl ?_
          refine qa_bipush (v := nI 6) hΓ dX6_setCondition_44 bp_6 ?_
          refine qz_icmp_ne (tgt := 52) hΓ dX6_setCondition_46 (by decide) (by omega) (by omega) (fun h_46 => ?_) (fun h_46 => ?_)
          · refine qa_aload_n hΓ dX6_setCondition_52 rfl ?_
            refine qc_V0q hΓ dX6_setCondition_53 lk_X6_79 vw_X6_notes (by omega) (c_X6_notes l (d - 1) hM hp) rfl hM.lt hM.o rfl rfl (Nat.le_of_ble_eq_true rfl) (fun w hq => ?_)
            obtain ⟨M1, hM, hN, hF0⟩ := hq
            have hU := hN.mup
            obtain ⟨M0, hM0⟩ : ∃ X, X = M1 := ⟨_, rfl⟩
            refine qa_iload_n hΓ dX6_setCondition_56 rfl ?_
            refine qa_aload_n hΓ dX6_setCondition_57 rfl ?_
            refine qa_iload_n hΓ dX6_setCondition_58 rfl ?_
            refine qa_bipush (v := nI 12) hΓ dX6_setCondition_59 bp_12 ?_
            refine qc_V1 hΓ dX6_setCondition_61 lk_X6_37 vw_X6_of (by omega) (c_X6_ofU l (d - 1) hM hU _ _ (by omega) (by omega)) rfl hM.lt hM.o rfl rfl (Nat.le_of_ble_eq_true rfl) ?_
            refine qz_icmp_ne (tgt := 72) hΓ dX6_setCondition_64 (by decide) (by omega) (by omega) (fun h_64 => ?_) (fun h_64 => ?_)
            · have hU : Mup M0 (scS (M 0) r b) M1 := by unfold scS; rw [if_neg h_64]; exact hM0 ▸ hU
              have hm9 : b < vv (M 0) r 12 := by omega
              have e12 : vv (M1 0) r 12 = vv (M 0) r 12 := by rw [hU.1]; unfold scS; rw [if_neg h_64]
              have hn1 : M1 0 1 = M 0 1 := by rw [hU.1]; exact scS_hd _ _ _ (by decide)
              have hWs : Wt (scS (M 0) r b) B := hW.scS (by omega)
              have hr1 : r < scS (M 0) r b 1 := by rw [scS_hd _ _ _ (by decide)]; exact hr
              have hW2 : Wt (cnS (scS (M 0) r b) r b x how) B := hWs.cnS hr1 (by omega) (by omega)
              refine qa_aload_n hΓ dX6_setCondition_72 rfl ?_
              refine qa_iload_n hΓ dX6_setCondition_73 rfl ?_
              refine qa_iload_n hΓ dX6_setCondition_74 rfl ?_
              refine qa_iload_n hΓ dX6_setCondition_75 rfl ?_
              refine qc_V1 hΓ dX6_setCondition_76 lk_X6_91 vw_X6_how (by omega) (c_X6_how l (d - 1) (by omega) hM r b x (by omega) (by omega) (by omega) (fun y hy => by have := hWs.b hr1 hy; rw [hU.1]; omega)) rfl hM.lt hM.o rfl rfl (Nat.le_of_ble_eq_true rfl) ?_
              rw [hU.1]
              refine qa_istore hΓ dX6_setCondition_79 (by decide) ?_
              refine qa_aload_n hΓ dX6_setCondition_81 rfl ?_
              refine qa_iload_n hΓ dX6_setCondition_82 rfl ?_
              refine qa_iload_n hΓ dX6_setCondition_83 rfl ?_
              refine qa_iload_n hΓ dX6_setCondition_84 rfl ?_
              refine qa_iload hΓ dX6_setCondition_85 rfl ?_
              refine qc_V0q hΓ dX6_setCondition_87 lk_X6_95 vw_X6_conditions (by omega) (c_X6_conditions l (d - 1) (by omega) hM (by rw [hU.1]; exact hWs) (by omega) r b x how (by omega) (by omega) (by omega) (by omega)) rfl hM.lt hM.o rfl rfl (Nat.le_of_ble_eq_true rfl) (fun w hq => ?_)
              obtain ⟨M2, hM, hU2, hF⟩ := hq
              have hF0 := hF0.tr hF
              rw [hU.1] at hU2
              have hU := hU.tr hU2
              refine qa_aload_n hΓ dX6_setCondition_90 rfl ?_
              refine qa_dup hΓ dX6_setCondition_91 ?_
              refine qa_get hΓ dX6_setCondition_92 fk_X6_65 hM.lt hM.o rfl ?_
              refine qa_aload_n hΓ dX6_setCondition_95 rfl ?_
              refine qc_V1q hΓ dX6_setCondition_96 lk_X6_68 vw_X6_looks (by omega) (c_X6_looks l (d - 1) (by omega) hM (by rw [hU.1]; exact hW2) (by omega)) rfl hM.lt hM.o rfl rfl (Nat.le_of_ble_eq_true rfl) (fun w hq => ?_)
              obtain ⟨M2, hM, hU2, hF⟩ := hq
              have hF0 := hF0.tr hF
              have hUo := hU
              have hU := hU.lookE hU2
              refine qz_iadd hΓ dX6_setCondition_99 ?_
              refine qM_put hΓ 2 dX6_setCondition_100 fk_X6_65 (by decide) hM (fun w hM hF => ?_)
              have hF0 := hF0.tr hF
              obtain ⟨M1, hM, hU⟩ := Mup.chgE hM hU
              refine qa_iload hΓ dX6_setCondition_103 rfl ?_
              exact qr_i hR dX6_setCondition_105 ⟨_, M1, rfl, hM, hF0, by
                unfold spSC
                rw [tn_nI (by omega), if_pos hC0, tn_nI (by omega), if_neg h_46, tn_nI (by omega), tn_nI (by omega)]
                exact ⟨rfl, Op.of hN (hM0 ▸ hU)⟩⟩
            · refine qa_aload_n hΓ dX6_setCondition_67 rfl ?_
              refine qa_iload_n hΓ dX6_setCondition_68 rfl ?_
              refine qc_V0q hΓ dX6_setCondition_69 lk_X6_88 vw_X6_opensBranch (by omega) (c_X6_opensBranch l (d - 1) (by omega) hM r (by omega) (by rw [hU.1]; omega)) rfl hM.lt hM.o rfl rfl (Nat.le_of_ble_eq_true rfl) (fun w hq => ?_)
              obtain ⟨M2, hM, hU2, hF⟩ := hq
              have hF0 := hF0.tr hF
              rw [hU.1] at hU2
              have hU := hU.tr hU2
              have hU : Mup M0 (scS (M 0) r b) M2 := by unfold scS; rw [if_pos h_64]; exact hM0 ▸ hU
              obtain ⟨M1, hM1⟩ : ∃ X, X = M2 := ⟨_, rfl⟩
              rw [← hM1] at hM hU
              have hn1 : M1 0 1 = M 0 1 := by rw [hU.1]; exact scS_hd _ _ _ (by decide)
              have hWs : Wt (scS (M 0) r b) B := hW.scS (by omega)
              have hr1 : r < scS (M 0) r b 1 := by rw [scS_hd _ _ _ (by decide)]; exact hr
              have hW2 : Wt (cnS (scS (M 0) r b) r b x how) B := hWs.cnS hr1 (by omega) (by omega)
              refine qa_aload_n hΓ dX6_setCondition_72 rfl ?_
              refine qa_iload_n hΓ dX6_setCondition_73 rfl ?_
              refine qa_iload_n hΓ dX6_setCondition_74 rfl ?_
              refine qa_iload_n hΓ dX6_setCondition_75 rfl ?_
              refine qc_V1 hΓ dX6_setCondition_76 lk_X6_91 vw_X6_how (by omega) (c_X6_how l (d - 1) (by omega) hM r b x (by omega) (by omega) (by omega) (fun y hy => by have := hWs.b hr1 hy; rw [hU.1]; omega)) rfl hM.lt hM.o rfl rfl (Nat.le_of_ble_eq_true rfl) ?_
              rw [hU.1]
              refine qa_istore hΓ dX6_setCondition_79 (by decide) ?_
              refine qa_aload_n hΓ dX6_setCondition_81 rfl ?_
              refine qa_iload_n hΓ dX6_setCondition_82 rfl ?_
              refine qa_iload_n hΓ dX6_setCondition_83 rfl ?_
              refine qa_iload_n hΓ dX6_setCondition_84 rfl ?_
              refine qa_iload hΓ dX6_setCondition_85 rfl ?_
              refine qc_V0q hΓ dX6_setCondition_87 lk_X6_95 vw_X6_conditions (by omega) (c_X6_conditions l (d - 1) (by omega) hM (by rw [hU.1]; exact hWs) (by omega) r b x how (by omega) (by omega) (by omega) (by omega)) rfl hM.lt hM.o rfl rfl (Nat.le_of_ble_eq_true rfl) (fun w hq => ?_)
              obtain ⟨M2, hM, hU2, hF⟩ := hq
              have hF0 := hF0.tr hF
              rw [hU.1] at hU2
              have hU := hU.tr hU2
              refine qa_aload_n hΓ dX6_setCondition_90 rfl ?_
              refine qa_dup hΓ dX6_setCondition_91 ?_
              refine qa_get hΓ dX6_setCondition_92 fk_X6_65 hM.lt hM.o rfl ?_
              refine qa_aload_n hΓ dX6_setCondition_95 rfl ?_
              refine qc_V1q hΓ dX6_setCondition_96 lk_X6_68 vw_X6_looks (by omega) (c_X6_looks l (d - 1) (by omega) hM (by rw [hU.1]; exact hW2) (by omega)) rfl hM.lt hM.o rfl rfl (Nat.le_of_ble_eq_true rfl) (fun w hq => ?_)
              obtain ⟨M2, hM, hU2, hF⟩ := hq
              have hF0 := hF0.tr hF
              have hUo := hU
              have hU := hU.lookE hU2
              refine qz_iadd hΓ dX6_setCondition_99 ?_
              refine qM_put hΓ 2 dX6_setCondition_100 fk_X6_65 (by decide) hM (fun w hM hF => ?_)
              have hF0 := hF0.tr hF
              obtain ⟨M1, hM, hU⟩ := Mup.chgE hM hU
              refine qa_iload hΓ dX6_setCondition_103 rfl ?_
              exact qr_i hR dX6_setCondition_105 ⟨_, M1, rfl, hM, hF0, by
                unfold spSC
                rw [tn_nI (by omega), if_pos hC0, tn_nI (by omega), if_neg h_46, tn_nI (by omega), tn_nI (by omega)]
                exact ⟨rfl, Op.of hN (hM0 ▸ hU)⟩⟩
          · refine qa_bipush (v := (-3)) hΓ dX6_setCondition_49 bp_m3 ?_
            exact qr_i hR dX6_setCondition_51 ⟨-3, M, rfl, hM, Fr.rf, by
              unfold spSC
              rw [tn_nI (by omega), if_pos hC0, tn_nI (by omega), if_pos h_46]
              exact ⟨rfl, Sm.rf M⟩⟩
        · refine qa_iconst (v := (-1)) hΓ dX6_setCondition_41 ic_m1 ?_
          exact qr_i hR dX6_setCondition_42 ⟨-1, M, rfl, hM, Fr.rf, by unfold spSC; rw [tn_nI (by omega), if_neg (fun q => by first | exact of_decide_eq_false h_20 q.2.1 | exact of_decide_eq_false h_28 q.2.2.1 | exact of_decide_eq_false h_38 q.2.2.2)]; exact ⟨rfl, Sm.rf M⟩⟩

set_option maxRecDepth 100000 in
set_option maxHeartbeats 4000000 in
theorem c_X6_removeBranch (l : Launch) (d : Nat) (hd : 3 ≤ d) {n k : Nat} {w : Nat → AC} {M : Bk} (hM : MdAt n w k M) {B : Nat} (hW : Wt (M 0) B) (hB : B < 900000000) (hp : M 5 0 ≤ 6) (rl br : Int32) : Sq l yX6_removeBranch cX6_removeBranch 4 (some .int) d [aR k, aI rl, aI br] n w (QM (spRB M rl br) n k w) := by
  refine Sp.of (plainFor_of_name (by decide)) (Nat.le_of_ble_eq_true rfl) (fun Γ hΓ hR => ?_)
  show Γ 0 [aR k, aI rl, aI br, none] [] (0, 0) n w
  obtain ⟨W0, hW0⟩ : ∃ X, X = w := ⟨_, rfl⟩
  refine qa_aload_n hΓ dX6_removeBranch_0 rfl ?_
  refine qa_iload_n hΓ dX6_removeBranch_1 rfl ?_
  refine qc_V1 hΓ dX6_removeBranch_2 lk_X6_82 vw_X6_isRelay (by omega) (c_X6_isRelay l (d - 1) (by omega) hM _) rfl hM.lt hM.o rfl rfl (Nat.le_of_ble_eq_true rfl) ?_
  refine qb_if_eq (tgt := 25) hΓ dX6_removeBranch_5 (by decide) (fun h_5 => ?_) (fun h_5 => ?_)
  · refine qa_iconst (v := (-1)) hΓ dX6_removeBranch_25 ic_m1 ?_
    exact qr_i hR dX6_removeBranch_26 ⟨-1, M, rfl, hM, Fr.rf, by unfold spRB; rw [if_neg (fun q => of_decide_eq_false h_5 q.1)]; exact ⟨rfl, Sm.rf M⟩⟩
  · obtain ⟨r, hr, rfl⟩ := isR_of (by have := hW.2.1; omega) (of_decide_eq_true h_5)
    have h8 := hW.2.1
    have hm6 : vv (M 0) r 12 ≤ 6 := by have := hW.2.2.2 r hr 12 (by decide); simpa [bdF] using this
    refine qa_iload_n hΓ dX6_removeBranch_8 rfl ?_
    refine qa_iconst (v := nI 0) hΓ dX6_removeBranch_9 ic_0 ?_
    refine qa_aload_n hΓ dX6_removeBranch_10 rfl ?_
    refine qa_iload_n hΓ dX6_removeBranch_11 rfl ?_
    refine qa_bipush (v := nI 12) hΓ dX6_removeBranch_12 bp_12 ?_
    refine qc_V1 hΓ dX6_removeBranch_14 lk_X6_37 vw_X6_of (by omega) (c_X6_of l (d - 1) hM r _ (by omega) (by decide)) rfl hM.lt hM.o rfl rfl (Nat.le_of_ble_eq_true rfl) ?_
    refine qa_iconst (v := nI 1) hΓ dX6_removeBranch_17 ic_1 ?_
    refine qa_isub hΓ dX6_removeBranch_18 ?_
    refine qc_S1 hΓ dX6_removeBranch_19 lk_X6_33 vw_X6_in (by omega) (c_X6_in l (d - 1) _ _ _) rfl rfl (Nat.le_of_ble_eq_true rfl) ?_
    refine qb_if_ne (tgt := 27) hΓ dX6_removeBranch_22 (by decide) (fun h_22 => ?_) (fun h_22 => ?_)
    · have hC0 := And.intro (of_decide_eq_true h_5) (of_decide_eq_true h_22)
      obtain ⟨b, hb, rfl⟩ := isR_of (by omega) hC0.2
      refine qa_aload_n hΓ dX6_removeBranch_27 rfl ?_
      refine qc_V0q hΓ dX6_removeBranch_28 lk_X6_79 vw_X6_notes (by omega) (c_X6_notes l (d - 1) hM hp) rfl hM.lt hM.o rfl rfl (Nat.le_of_ble_eq_true rfl) (fun w hq => ?_)
      obtain ⟨M1, hM, hN, hF0⟩ := hq
      have hU := hN.mup
      obtain ⟨M0, hM0⟩ : ∃ X, X = M1 := ⟨_, rfl⟩
      have hU : Mup M0 (M 0) M1 := hM0 ▸ hU
      rw [← hW0] at hF0
      refine qa_aload_n hΓ dX6_removeBranch_31 rfl ?_
      refine qa_iload_n hΓ dX6_removeBranch_32 rfl ?_
      refine qa_bipush (v := nI 12) hΓ dX6_removeBranch_33 bp_12 ?_
      refine qa_aload_n hΓ dX6_removeBranch_35 rfl ?_
      refine qa_iload_n hΓ dX6_removeBranch_36 rfl ?_
      refine qa_bipush (v := nI 12) hΓ dX6_removeBranch_37 bp_12 ?_
      refine qc_V1 hΓ dX6_removeBranch_39 lk_X6_37 vw_X6_of (by omega) (c_X6_ofU l (d - 1) hM hU _ _ (by omega) (by omega)) rfl hM.lt hM.o rfl rfl (Nat.le_of_ble_eq_true rfl) ?_
      refine qa_iconst (v := nI 1) hΓ dX6_removeBranch_42 ic_1 ?_
      refine qz_isub hΓ dX6_removeBranch_43 (by omega) ?_
      refine qc_V0q hΓ dX6_removeBranch_44 lk_X6_49 vw_X6_puts (by omega) (c_X6_puts l (d - 1) hM _ _ _ (by omega) (by omega)) rfl hM.lt hM.o rfl rfl (Nat.le_of_ble_eq_true rfl) (fun w hq => ?_)
      obtain ⟨hM, hF⟩ := hq
      have hF0 := hF0.tr hF
      obtain ⟨M1, hM, hU⟩ := Mup.putE hM hU
      refine qa_bipush (v := nI 13) hΓ dX6_removeBranch_47 bp_13 ?_
      refine qa_iconst (v := nI 2) hΓ dX6_removeBranch_49 ic_2 ?_
      refine qa_iload_n hΓ dX6_removeBranch_50 rfl ?_
      refine qz_imul hΓ dX6_removeBranch_51 ?_
      refine qz_iadd hΓ dX6_removeBranch_52 ?_
      refine qa_istore_n hΓ dX6_removeBranch_53 (by decide) ?_
      have hMn : vv (upN (M 0) (ix r 12) (vv (M 0) r 12 - 1)) r 12 = vv (M 0) r 12 - 1 := vv_same _ _ _ _
      obtain ⟨w0, hw0⟩ : ∃ X, Fr k 6 X w ∧ ∀ w2, Fr k 6 X w2 → Fr k 6 W0 w2 := ⟨_, hF0, fun _ h => h⟩
      obtain ⟨hF0, hw0⟩ := hw0
      obtain ⟨t, ht⟩ : ∃ X, X = upN (M 0) (ix r 12) (vv (M 0) r 12 - 1) := ⟨_, rfl⟩
      rw [← ht] at hU hMn
      have loop : ∀ (m kk : Nat) (w1 : Nat → AC) (M2 : Bk), 13 + 2 * b ≤ kk → kk ≤ 13 + 2 * (vv (M 0) r 12 - 1) → 13 + 2 * (vv (M 0) r 12 - 1) < kk + m → MdAt n w1 k M2 → Mup M0 (shS t r (13 + 2 * b) kk) M2 → Fr k 6 w0 w1 → Γ 54 [aR k, aZ r, aZ b, aZ kk] [] (0, 0) n w1 := by
        intro m
        induction m with
        | zero => intro kk w1 M2 h0 h1 h2; exact absurd h2 (by omega)
        | succ m ih =>
          intro kk w M1 h0 hi hm hM hU hF0
          refine qa_iload_n hΓ dX6_removeBranch_54 rfl ?_
          refine qa_bipush (v := nI 13) hΓ dX6_removeBranch_55 bp_13 ?_
          refine qa_iconst (v := nI 2) hΓ dX6_removeBranch_57 ic_2 ?_
          refine qa_aload_n hΓ dX6_removeBranch_58 rfl ?_
          refine qa_iload_n hΓ dX6_removeBranch_59 rfl ?_
          refine qa_bipush (v := nI 12) hΓ dX6_removeBranch_60 bp_12 ?_
          refine qc_V1 hΓ dX6_removeBranch_62 lk_X6_37 vw_X6_of (by omega) (c_X6_ofUE l (d - 1) hM hU r 12 (by omega) (by decide) ((shS_x _ _ _ _ _ (by omega) (by decide)).trans hMn)) rfl hM.lt hM.o rfl rfl (Nat.le_of_ble_eq_true rfl) ?_
          refine qz_imul hΓ dX6_removeBranch_65 ?_
          refine qz_iadd hΓ dX6_removeBranch_66 ?_
          refine qz_icmp_ge (tgt := 90) hΓ dX6_removeBranch_67 (by decide) (by omega) (by omega) (fun h_67 => ?_) (fun h_67 => ?_)
          · have hk9 : kk = 13 + 2 * (vv (M 0) r 12 - 1) := by omega
            subst hk9
            have hrm : shS t r (13 + 2 * b) (13 + 2 * (vv (M 0) r 12 - 1)) = rmS (M 0) r b := by rw [ht]; rfl
            rw [hrm] at hU
            have hW1 : Wt (rmS (M 0) r b) B := hW.rmS hm6
            refine qa_aload_n hΓ dX6_removeBranch_90 rfl ?_
            refine qa_dup hΓ dX6_removeBranch_91 ?_
            refine qa_get hΓ dX6_removeBranch_92 fk_X6_65 hM.lt hM.o rfl ?_
            refine qa_aload_n hΓ dX6_removeBranch_95 rfl ?_
            refine qc_V1q hΓ dX6_removeBranch_96 lk_X6_68 vw_X6_looks (by omega) (c_X6_looks l (d - 1) (by omega) hM (by rw [hU.1]; exact hW1) (by omega)) rfl hM.lt hM.o rfl rfl (Nat.le_of_ble_eq_true rfl) (fun w hq => ?_)
            obtain ⟨M2, hM, hU2, hF⟩ := hq
            have hF0 := hF0.tr hF
            have hUo := hU
            have hU := hU.lookE hU2
            refine qz_iadd hΓ dX6_removeBranch_99 ?_
            refine qM_put hΓ 2 dX6_removeBranch_100 fk_X6_65 (by decide) hM (fun w hM hF => ?_)
            have hF0 := hF0.tr hF
            obtain ⟨M1, hM, hU⟩ := Mup.chgE hM hU
            refine qa_aload_n hΓ dX6_removeBranch_103 rfl ?_
            refine qa_iload_n hΓ dX6_removeBranch_104 rfl ?_
            refine qa_bipush (v := nI 12) hΓ dX6_removeBranch_105 bp_12 ?_
            refine qc_V1 hΓ dX6_removeBranch_107 lk_X6_37 vw_X6_of (by omega) (c_X6_ofUE l (d - 1) hM hU r 12 (by omega) (by decide) (y := vv (M 0) r 12 - 1) ((lk_oth _ _ (by decide) (by decide) _).trans (by rw [← hrm]; exact (shS_x _ _ _ _ _ (by omega) (by decide)).trans hMn))) rfl hM.lt hM.o rfl rfl (Nat.le_of_ble_eq_true rfl) ?_
            exact qr_i hR dX6_removeBranch_110 ⟨_, M1, rfl, hM, hW0 ▸ (hw0 _ hF0), by
              unfold spRB
              rw [tn_nI (by omega), if_pos hC0, tn_nI (by omega)]
              exact ⟨rfl, Op.of hN (hM0 ▸ hU)⟩⟩
          · refine qa_aload_n hΓ dX6_removeBranch_70 rfl ?_
            refine qa_iload_n hΓ dX6_removeBranch_71 rfl ?_
            refine qa_iload_n hΓ dX6_removeBranch_72 rfl ?_
            refine qa_aload_n hΓ dX6_removeBranch_73 rfl ?_
            refine qa_iload_n hΓ dX6_removeBranch_74 rfl ?_
            refine qa_iload_n hΓ dX6_removeBranch_75 rfl ?_
            refine qa_iconst (v := nI 2) hΓ dX6_removeBranch_76 ic_2 ?_
            refine qz_iadd hΓ dX6_removeBranch_77 ?_
            refine qc_V1 hΓ dX6_removeBranch_78 lk_X6_37 vw_X6_of (by omega) (c_X6_ofU l (d - 1) hM hU _ _ (by omega) (by omega)) rfl hM.lt hM.o rfl rfl (Nat.le_of_ble_eq_true rfl) ?_
            refine qc_V0q hΓ dX6_removeBranch_81 lk_X6_49 vw_X6_puts (by omega) (c_X6_puts l (d - 1) hM _ _ _ (by omega) (by omega)) rfl hM.lt hM.o rfl rfl (Nat.le_of_ble_eq_true rfl) (fun w hq => ?_)
            obtain ⟨hM, hF⟩ := hq
            have hF0 := hF0.tr hF
            obtain ⟨M1, hM, hU⟩ := Mup.putE hM hU
            refine qz_iinc hΓ dX6_removeBranch_84 ii_1 rfl (by decide) ?_
            refine qa_goto (tgt := 54) hΓ dX6_removeBranch_87 (by decide) ?_
            rw [shS_step _ _ _ _ h0] at hU
            exact ih (kk + 1) w M1 (by omega) (by omega) (by omega) hM hU hF0
      exact loop 20 (13 + 2 * b) w M1 (by omega) (by omega) (by omega) hM (by refine (?_ : t = shS t r _ _) ▸ hU; funext j; unfold shS; rw [if_neg (by omega)]) hF0
    · refine qa_iconst (v := (-1)) hΓ dX6_removeBranch_25 ic_m1 ?_
      exact qr_i hR dX6_removeBranch_26 ⟨-1, M, rfl, hM, Fr.rf, by unfold spRB; rw [tn_nI (by omega), if_neg (fun q => of_decide_eq_false h_22 q.2)]; exact ⟨rfl, Sm.rf M⟩⟩
end
section
theorem zz_last : True := trivial
end
