section
-- ===== PART A: goes FIRST, ahead of the names: the tables' words, and 'selects' of the private methods out of them =====
/-- a private method of a class that the tables say can be made, by its rows of tables_1 -/
def lw_okq (q : MethodName × Nat) : Prop := (q.1.cls ≠ "java/lang/invoke/MethodHandle" ∧ q.1.cls ≠ "java/lang/invoke/VarHandle") ∧ Cond.instantiable q.1.cls q.2 ∈ tables_1 ∧ Cond.privateMethod q.1 ∈ tables_1 ∧ Cond.instanceMethod q.1 ∈ tables_1
theorem lw_p0 : lw_okq (⟨"RelayBank$Past", "bankAt", "(I)LRelayBank$Bank;"⟩, 3) := ⟨⟨by decide +kernel, by decide +kernel⟩, List.mem_of_getElem? (i := 84) (by decide +kernel), List.mem_of_getElem? (i := 177) (by decide +kernel), List.mem_of_getElem? (i := 178) (by decide +kernel)⟩
theorem lw_p1 : lw_okq (⟨"RelayBank$Bank", "putBranch", "(III)V"⟩, 15) := ⟨⟨by decide +kernel, by decide +kernel⟩, List.mem_of_getElem? (i := 19) (by decide +kernel), List.mem_of_getElem? (i := 235) (by decide +kernel), List.mem_of_getElem? (i := 236) (by decide +kernel)⟩
theorem lw_p2 : lw_okq (⟨"RelayBank$Bank", "lookAtCoils", "()I"⟩, 15) := ⟨⟨by decide +kernel, by decide +kernel⟩, List.mem_of_getElem? (i := 19) (by decide +kernel), List.mem_of_getElem? (i := 239) (by decide +kernel), List.mem_of_getElem? (i := 240) (by decide +kernel)⟩
theorem lw_p3 : lw_okq (⟨"RelayBank$Bank", "turnCoil", "(I)V"⟩, 15) := ⟨⟨by decide +kernel, by decide +kernel⟩, List.mem_of_getElem? (i := 19) (by decide +kernel), List.mem_of_getElem? (i := 259) (by decide +kernel), List.mem_of_getElem? (i := 260) (by decide +kernel)⟩
theorem lw_p4 : lw_okq (⟨"RelayBank$CircuitReader", "take", "(C)Z"⟩, 4) := ⟨⟨by decide +kernel, by decide +kernel⟩, List.mem_of_getElem? (i := 120) (by decide +kernel), List.mem_of_getElem? (i := 298) (by decide +kernel), List.mem_of_getElem? (i := 299) (by decide +kernel)⟩
theorem lw_p5 : lw_okq (⟨"RelayBank$CircuitReader", "goTo", "(I)Z"⟩, 4) := ⟨⟨by decide +kernel, by decide +kernel⟩, List.mem_of_getElem? (i := 120) (by decide +kernel), List.mem_of_getElem? (i := 302) (by decide +kernel), List.mem_of_getElem? (i := 303) (by decide +kernel)⟩
theorem lw_p6 : lw_okq (⟨"RelayBank$CircuitReader", "beginBranch", "(C)Z"⟩, 4) := ⟨⟨by decide +kernel, by decide +kernel⟩, List.mem_of_getElem? (i := 120) (by decide +kernel), List.mem_of_getElem? (i := 306) (by decide +kernel), List.mem_of_getElem? (i := 307) (by decide +kernel)⟩
theorem lw_p7 : lw_okq (⟨"RelayBank$CircuitReader", "beginCondition", "(C)Z"⟩, 4) := ⟨⟨by decide +kernel, by decide +kernel⟩, List.mem_of_getElem? (i := 120) (by decide +kernel), List.mem_of_getElem? (i := 311) (by decide +kernel), List.mem_of_getElem? (i := 312) (by decide +kernel)⟩
theorem lw_p8 : lw_okq (⟨"RelayBank$CircuitReader", "takeLetter", "(CI)Z"⟩, 4) := ⟨⟨by decide +kernel, by decide +kernel⟩, List.mem_of_getElem? (i := 120) (by decide +kernel), List.mem_of_getElem? (i := 315) (by decide +kernel), List.mem_of_getElem? (i := 316) (by decide +kernel)⟩
theorem lw_p9 : lw_okq (⟨"RelayBank$CircuitReader", "subjectOf", "(C)I"⟩, 4) := ⟨⟨by decide +kernel, by decide +kernel⟩, List.mem_of_getElem? (i := 120) (by decide +kernel), List.mem_of_getElem? (i := 319) (by decide +kernel), List.mem_of_getElem? (i := 320) (by decide +kernel)⟩
theorem lw_p10 : lw_okq (⟨"RelayBank$Bank", "moveArmature", "(I)V"⟩, 15) := ⟨⟨by decide +kernel, by decide +kernel⟩, List.mem_of_getElem? (i := 19) (by decide +kernel), List.mem_of_getElem? (i := 384) (by decide +kernel), List.mem_of_getElem? (i := 385) (by decide +kernel)⟩
theorem lw_p11 : lw_okq (⟨"RelayBank$Bank", "eventsBefore", "(I)I"⟩, 15) := ⟨⟨by decide +kernel, by decide +kernel⟩, List.mem_of_getElem? (i := 19) (by decide +kernel), List.mem_of_getElem? (i := 440) (by decide +kernel), List.mem_of_getElem? (i := 441) (by decide +kernel)⟩
theorem lw_p12 : lw_okq (⟨"RelayBank", "endingOf", "(LRelayBank$Bank;IZ)I"⟩, 6) := ⟨⟨by decide +kernel, by decide +kernel⟩, List.mem_of_getElem? (i := 11) (by decide +kernel), List.mem_of_getElem? (i := 448) (by decide +kernel), List.mem_of_getElem? (i := 449) (by decide +kernel)⟩
theorem lw_p13 : lw_okq (⟨"RelayBank", "raceIn", "(LRelayBank$Bank;)I"⟩, 6) := ⟨⟨by decide +kernel, by decide +kernel⟩, List.mem_of_getElem? (i := 11) (by decide +kernel), List.mem_of_getElem? (i := 460) (by decide +kernel), List.mem_of_getElem? (i := 461) (by decide +kernel)⟩
theorem lw_p14 : lw_okq (⟨"RelayBankModel", "notes", "()V"⟩, 9) := ⟨⟨by decide +kernel, by decide +kernel⟩, List.mem_of_getElem? (i := 492) (by decide +kernel), List.mem_of_getElem? (i := 538) (by decide +kernel), List.mem_of_getElem? (i := 539) (by decide +kernel)⟩
theorem lw_p15 : lw_okq (⟨"RelayBankModel", "puts", "(III)V"⟩, 9) := ⟨⟨by decide +kernel, by decide +kernel⟩, List.mem_of_getElem? (i := 492) (by decide +kernel), List.mem_of_getElem? (i := 542) (by decide +kernel), List.mem_of_getElem? (i := 543) (by decide +kernel)⟩
def lw_privs_1 : List (MethodName × Nat) := [(⟨"RelayBank$Past", "bankAt", "(I)LRelayBank$Bank;"⟩, 3), (⟨"RelayBank$Bank", "putBranch", "(III)V"⟩, 15), (⟨"RelayBank$Bank", "lookAtCoils", "()I"⟩, 15), (⟨"RelayBank$Bank", "turnCoil", "(I)V"⟩, 15), (⟨"RelayBank$CircuitReader", "take", "(C)Z"⟩, 4), (⟨"RelayBank$CircuitReader", "goTo", "(I)Z"⟩, 4), (⟨"RelayBank$CircuitReader", "beginBranch", "(C)Z"⟩, 4), (⟨"RelayBank$CircuitReader", "beginCondition", "(C)Z"⟩, 4), (⟨"RelayBank$CircuitReader", "takeLetter", "(CI)Z"⟩, 4), (⟨"RelayBank$CircuitReader", "subjectOf", "(C)I"⟩, 4), (⟨"RelayBank$Bank", "moveArmature", "(I)V"⟩, 15), (⟨"RelayBank$Bank", "eventsBefore", "(I)I"⟩, 15), (⟨"RelayBank", "endingOf", "(LRelayBank$Bank;IZ)I"⟩, 6), (⟨"RelayBank", "raceIn", "(LRelayBank$Bank;)I"⟩, 6), (⟨"RelayBankModel", "notes", "()V"⟩, 9), (⟨"RelayBankModel", "puts", "(III)V"⟩, 9)]
theorem lw_r1 : ∀ q ∈ lw_privs_1, lw_okq q := List.forall_mem_cons.mpr ⟨lw_p0, List.forall_mem_cons.mpr ⟨lw_p1, List.forall_mem_cons.mpr ⟨lw_p2, List.forall_mem_cons.mpr ⟨lw_p3, List.forall_mem_cons.mpr ⟨lw_p4, List.forall_mem_cons.mpr ⟨lw_p5, List.forall_mem_cons.mpr ⟨lw_p6, List.forall_mem_cons.mpr ⟨lw_p7, List.forall_mem_cons.mpr ⟨lw_p8, List.forall_mem_cons.mpr ⟨lw_p9, List.forall_mem_cons.mpr ⟨lw_p10, List.forall_mem_cons.mpr ⟨lw_p11, List.forall_mem_cons.mpr ⟨lw_p12, List.forall_mem_cons.mpr ⟨lw_p13, List.forall_mem_cons.mpr ⟨lw_p14, List.forall_mem_cons.mpr ⟨lw_p15, fun _ h => absurd h List.not_mem_nil⟩⟩⟩⟩⟩⟩⟩⟩⟩⟩⟩⟩⟩⟩⟩⟩
theorem lw_p16 : lw_okq (⟨"RelayBankModel", "isRelay", "(I)Z"⟩, 9) := ⟨⟨by decide +kernel, by decide +kernel⟩, List.mem_of_getElem? (i := 492) (by decide +kernel), List.mem_of_getElem? (i := 550) (by decide +kernel), List.mem_of_getElem? (i := 551) (by decide +kernel)⟩
theorem lw_p17 : lw_okq (⟨"RelayBankModel", "of", "(II)I"⟩, 9) := ⟨⟨by decide +kernel, by decide +kernel⟩, List.mem_of_getElem? (i := 492) (by decide +kernel), List.mem_of_getElem? (i := 554) (by decide +kernel), List.mem_of_getElem? (i := 555) (by decide +kernel)⟩
theorem lw_p18 : lw_okq (⟨"RelayBankModel", "isSubject", "(I)Z"⟩, 9) := ⟨⟨by decide +kernel, by decide +kernel⟩, List.mem_of_getElem? (i := 492) (by decide +kernel), List.mem_of_getElem? (i := 562) (by decide +kernel), List.mem_of_getElem? (i := 563) (by decide +kernel)⟩
theorem lw_p19 : lw_okq (⟨"RelayBankModel", "opensBranch", "(I)V"⟩, 9) := ⟨⟨by decide +kernel, by decide +kernel⟩, List.mem_of_getElem? (i := 492) (by decide +kernel), List.mem_of_getElem? (i := 566) (by decide +kernel), List.mem_of_getElem? (i := 567) (by decide +kernel)⟩
theorem lw_p20 : lw_okq (⟨"RelayBankModel", "how", "(III)I"⟩, 9) := ⟨⟨by decide +kernel, by decide +kernel⟩, List.mem_of_getElem? (i := 492) (by decide +kernel), List.mem_of_getElem? (i := 570) (by decide +kernel), List.mem_of_getElem? (i := 571) (by decide +kernel)⟩
theorem lw_p21 : lw_okq (⟨"RelayBankModel", "conditions", "(IIII)V"⟩, 9) := ⟨⟨by decide +kernel, by decide +kernel⟩, List.mem_of_getElem? (i := 492) (by decide +kernel), List.mem_of_getElem? (i := 574) (by decide +kernel), List.mem_of_getElem? (i := 575) (by decide +kernel)⟩
theorem lw_p22 : lw_okq (⟨"RelayBankModel", "looks", "()I"⟩, 9) := ⟨⟨by decide +kernel, by decide +kernel⟩, List.mem_of_getElem? (i := 492) (by decide +kernel), List.mem_of_getElem? (i := 578) (by decide +kernel), List.mem_of_getElem? (i := 579) (by decide +kernel)⟩
theorem lw_p23 : lw_okq (⟨"RelayBankModel", "closed", "()I"⟩, 9) := ⟨⟨by decide +kernel, by decide +kernel⟩, List.mem_of_getElem? (i := 492) (by decide +kernel), List.mem_of_getElem? (i := 582) (by decide +kernel), List.mem_of_getElem? (i := 583) (by decide +kernel)⟩
theorem lw_p24 : lw_okq (⟨"RelayBankModel", "conducts", "(II)Z"⟩, 9) := ⟨⟨by decide +kernel, by decide +kernel⟩, List.mem_of_getElem? (i := 492) (by decide +kernel), List.mem_of_getElem? (i := 586) (by decide +kernel), List.mem_of_getElem? (i := 587) (by decide +kernel)⟩
theorem lw_p25 : lw_okq (⟨"RelayBankModel", "keeps", "()V"⟩, 9) := ⟨⟨by decide +kernel, by decide +kernel⟩, List.mem_of_getElem? (i := 492) (by decide +kernel), List.mem_of_getElem? (i := 606) (by decide +kernel), List.mem_of_getElem? (i := 607) (by decide +kernel)⟩
theorem lw_p26 : lw_okq (⟨"RelayBankModel", "reads", "(I)Z"⟩, 9) := ⟨⟨by decide +kernel, by decide +kernel⟩, List.mem_of_getElem? (i := 492) (by decide +kernel), List.mem_of_getElem? (i := 610) (by decide +kernel), List.mem_of_getElem? (i := 611) (by decide +kernel)⟩
theorem lw_p27 : lw_okq (⟨"RelayBankModel", "here", "()I"⟩, 9) := ⟨⟨by decide +kernel, by decide +kernel⟩, List.mem_of_getElem? (i := 492) (by decide +kernel), List.mem_of_getElem? (i := 614) (by decide +kernel), List.mem_of_getElem? (i := 615) (by decide +kernel)⟩
theorem lw_p28 : lw_okq (⟨"RelayBankModel", "readsBranch", "(I)Z"⟩, 9) := ⟨⟨by decide +kernel, by decide +kernel⟩, List.mem_of_getElem? (i := 492) (by decide +kernel), List.mem_of_getElem? (i := 618) (by decide +kernel), List.mem_of_getElem? (i := 619) (by decide +kernel)⟩
theorem lw_p29 : lw_okq (⟨"RelayBankModel", "isEnd", "()Z"⟩, 9) := ⟨⟨by decide +kernel, by decide +kernel⟩, List.mem_of_getElem? (i := 492) (by decide +kernel), List.mem_of_getElem? (i := 622) (by decide +kernel), List.mem_of_getElem? (i := 623) (by decide +kernel)⟩
theorem lw_p30 : lw_okq (⟨"RelayBankModel", "readsCondition", "(II)Z"⟩, 9) := ⟨⟨by decide +kernel, by decide +kernel⟩, List.mem_of_getElem? (i := 492) (by decide +kernel), List.mem_of_getElem? (i := 626) (by decide +kernel), List.mem_of_getElem? (i := 627) (by decide +kernel)⟩
theorem lw_p31 : lw_okq (⟨"RelayBankModel", "subject", "(I)I"⟩, 9) := ⟨⟨by decide +kernel, by decide +kernel⟩, List.mem_of_getElem? (i := 492) (by decide +kernel), List.mem_of_getElem? (i := 630) (by decide +kernel), List.mem_of_getElem? (i := 631) (by decide +kernel)⟩
def lw_privs_2 : List (MethodName × Nat) := [(⟨"RelayBankModel", "isRelay", "(I)Z"⟩, 9), (⟨"RelayBankModel", "of", "(II)I"⟩, 9), (⟨"RelayBankModel", "isSubject", "(I)Z"⟩, 9), (⟨"RelayBankModel", "opensBranch", "(I)V"⟩, 9), (⟨"RelayBankModel", "how", "(III)I"⟩, 9), (⟨"RelayBankModel", "conditions", "(IIII)V"⟩, 9), (⟨"RelayBankModel", "looks", "()I"⟩, 9), (⟨"RelayBankModel", "closed", "()I"⟩, 9), (⟨"RelayBankModel", "conducts", "(II)Z"⟩, 9), (⟨"RelayBankModel", "keeps", "()V"⟩, 9), (⟨"RelayBankModel", "reads", "(I)Z"⟩, 9), (⟨"RelayBankModel", "here", "()I"⟩, 9), (⟨"RelayBankModel", "readsBranch", "(I)Z"⟩, 9), (⟨"RelayBankModel", "isEnd", "()Z"⟩, 9), (⟨"RelayBankModel", "readsCondition", "(II)Z"⟩, 9), (⟨"RelayBankModel", "subject", "(I)I"⟩, 9)]
theorem lw_r2 : ∀ q ∈ lw_privs_2, lw_okq q := List.forall_mem_cons.mpr ⟨lw_p16, List.forall_mem_cons.mpr ⟨lw_p17, List.forall_mem_cons.mpr ⟨lw_p18, List.forall_mem_cons.mpr ⟨lw_p19, List.forall_mem_cons.mpr ⟨lw_p20, List.forall_mem_cons.mpr ⟨lw_p21, List.forall_mem_cons.mpr ⟨lw_p22, List.forall_mem_cons.mpr ⟨lw_p23, List.forall_mem_cons.mpr ⟨lw_p24, List.forall_mem_cons.mpr ⟨lw_p25, List.forall_mem_cons.mpr ⟨lw_p26, List.forall_mem_cons.mpr ⟨lw_p27, List.forall_mem_cons.mpr ⟨lw_p28, List.forall_mem_cons.mpr ⟨lw_p29, List.forall_mem_cons.mpr ⟨lw_p30, List.forall_mem_cons.mpr ⟨lw_p31, fun _ h => absurd h List.not_mem_nil⟩⟩⟩⟩⟩⟩⟩⟩⟩⟩⟩⟩⟩⟩⟩⟩
theorem lw_p32 : lw_okq (⟨"RelayBankModel", "exchanges", "()V"⟩, 9) := ⟨⟨by decide +kernel, by decide +kernel⟩, List.mem_of_getElem? (i := 492) (by decide +kernel), List.mem_of_getElem? (i := 634) (by decide +kernel), List.mem_of_getElem? (i := 635) (by decide +kernel)⟩
theorem lw_p33 : lw_okq (⟨"RelayBankModel", "next", "(Z)I"⟩, 9) := ⟨⟨by decide +kernel, by decide +kernel⟩, List.mem_of_getElem? (i := 492) (by decide +kernel), List.mem_of_getElem? (i := 654) (by decide +kernel), List.mem_of_getElem? (i := 655) (by decide +kernel)⟩
theorem lw_p34 : lw_okq (⟨"RelayBankModel", "waits", "(I)Z"⟩, 9) := ⟨⟨by decide +kernel, by decide +kernel⟩, List.mem_of_getElem? (i := 492) (by decide +kernel), List.mem_of_getElem? (i := 658) (by decide +kernel), List.mem_of_getElem? (i := 659) (by decide +kernel)⟩
theorem lw_p35 : lw_okq (⟨"RelayBankModel", "isAhead", "(IIZ)Z"⟩, 9) := ⟨⟨by decide +kernel, by decide +kernel⟩, List.mem_of_getElem? (i := 492) (by decide +kernel), List.mem_of_getElem? (i := 662) (by decide +kernel), List.mem_of_getElem? (i := 663) (by decide +kernel)⟩
theorem lw_p36 : lw_okq (⟨"RelayBankModel", "timeOf", "(I)I"⟩, 9) := ⟨⟨by decide +kernel, by decide +kernel⟩, List.mem_of_getElem? (i := 492) (by decide +kernel), List.mem_of_getElem? (i := 666) (by decide +kernel), List.mem_of_getElem? (i := 667) (by decide +kernel)⟩
theorem lw_p37 : lw_okq (⟨"RelayBankModel", "happens", "(I)V"⟩, 9) := ⟨⟨by decide +kernel, by decide +kernel⟩, List.mem_of_getElem? (i := 492) (by decide +kernel), List.mem_of_getElem? (i := 670) (by decide +kernel), List.mem_of_getElem? (i := 671) (by decide +kernel)⟩
theorem lw_p38 : lw_okq (⟨"RelayBankModel", "settles", "(ZI)I"⟩, 9) := ⟨⟨by decide +kernel, by decide +kernel⟩, List.mem_of_getElem? (i := 492) (by decide +kernel), List.mem_of_getElem? (i := 678) (by decide +kernel), List.mem_of_getElem? (i := 679) (by decide +kernel)⟩
theorem lw_p39 : lw_okq (⟨"RelayBankModel", "set", "(I)I"⟩, 9) := ⟨⟨by decide +kernel, by decide +kernel⟩, List.mem_of_getElem? (i := 492) (by decide +kernel), List.mem_of_getElem? (i := 691) (by decide +kernel), List.mem_of_getElem? (i := 692) (by decide +kernel)⟩
theorem lw_p40 : lw_okq (⟨"RelayBankModel", "ofItself", "(I)I"⟩, 9) := ⟨⟨by decide +kernel, by decide +kernel⟩, List.mem_of_getElem? (i := 492) (by decide +kernel), List.mem_of_getElem? (i := 699) (by decide +kernel), List.mem_of_getElem? (i := 700) (by decide +kernel)⟩
theorem lw_p41 : lw_okq (⟨"RelayBankModel", "ends", "(ZI)I"⟩, 9) := ⟨⟨by decide +kernel, by decide +kernel⟩, List.mem_of_getElem? (i := 492) (by decide +kernel), List.mem_of_getElem? (i := 715) (by decide +kernel), List.mem_of_getElem? (i := 716) (by decide +kernel)⟩
theorem lw_p42 : lw_okq (⟨"RelayBankModel", "restores", "()V"⟩, 9) := ⟨⟨by decide +kernel, by decide +kernel⟩, List.mem_of_getElem? (i := 492) (by decide +kernel), List.mem_of_getElem? (i := 719) (by decide +kernel), List.mem_of_getElem? (i := 720) (by decide +kernel)⟩
theorem lw_p43 : lw_okq (⟨"RelayBankModel", "races", "()I"⟩, 9) := ⟨⟨by decide +kernel, by decide +kernel⟩, List.mem_of_getElem? (i := 492) (by decide +kernel), List.mem_of_getElem? (i := 727) (by decide +kernel), List.mem_of_getElem? (i := 728) (by decide +kernel)⟩
theorem lw_p44 : lw_okq (⟨"RelayBankModel", "isStable", "(I)Z"⟩, 9) := ⟨⟨by decide +kernel, by decide +kernel⟩, List.mem_of_getElem? (i := 492) (by decide +kernel), List.mem_of_getElem? (i := 743) (by decide +kernel), List.mem_of_getElem? (i := 744) (by decide +kernel)⟩
def lw_privs_3 : List (MethodName × Nat) := [(⟨"RelayBankModel", "exchanges", "()V"⟩, 9), (⟨"RelayBankModel", "next", "(Z)I"⟩, 9), (⟨"RelayBankModel", "waits", "(I)Z"⟩, 9), (⟨"RelayBankModel", "isAhead", "(IIZ)Z"⟩, 9), (⟨"RelayBankModel", "timeOf", "(I)I"⟩, 9), (⟨"RelayBankModel", "happens", "(I)V"⟩, 9), (⟨"RelayBankModel", "settles", "(ZI)I"⟩, 9), (⟨"RelayBankModel", "set", "(I)I"⟩, 9), (⟨"RelayBankModel", "ofItself", "(I)I"⟩, 9), (⟨"RelayBankModel", "ends", "(ZI)I"⟩, 9), (⟨"RelayBankModel", "restores", "()V"⟩, 9), (⟨"RelayBankModel", "races", "()I"⟩, 9), (⟨"RelayBankModel", "isStable", "(I)Z"⟩, 9)]
theorem lw_r3 : ∀ q ∈ lw_privs_3, lw_okq q := List.forall_mem_cons.mpr ⟨lw_p32, List.forall_mem_cons.mpr ⟨lw_p33, List.forall_mem_cons.mpr ⟨lw_p34, List.forall_mem_cons.mpr ⟨lw_p35, List.forall_mem_cons.mpr ⟨lw_p36, List.forall_mem_cons.mpr ⟨lw_p37, List.forall_mem_cons.mpr ⟨lw_p38, List.forall_mem_cons.mpr ⟨lw_p39, List.forall_mem_cons.mpr ⟨lw_p40, List.forall_mem_cons.mpr ⟨lw_p41, List.forall_mem_cons.mpr ⟨lw_p42, List.forall_mem_cons.mpr ⟨lw_p43, List.forall_mem_cons.mpr ⟨lw_p44, fun _ h => absurd h List.not_mem_nil⟩⟩⟩⟩⟩⟩⟩⟩⟩⟩⟩⟩⟩
def lw_privs : List (MethodName × Nat) := lw_privs_1 ++ (lw_privs_2 ++ (lw_privs_3))
def lw_tbl : List Cond := k2_sels lw_privs ++ tables_1
theorem lw_privs_ok : ∀ q ∈ lw_privs, lw_okq q := by
  show ∀ q ∈ lw_privs_1 ++ (lw_privs_2 ++ (lw_privs_3)), lw_okq q
  exact List.forall_mem_append.mpr ⟨lw_r1, List.forall_mem_append.mpr ⟨lw_r2, lw_r3⟩⟩
-- ===== end of PART A; then your names; then what follows =====
end
section
/-! ===== BEGIN words of one list among another's, by their places ===== -/
theorem goodIn_r {big : List Cond} (ws : List Cond) (ps : List Nat) (hp : ws = ps.filterMap (fun i => big[i]?)) (h : ws.all goodWord = true) : GoodIn big ws := by
  intro w hw
  have h1 := List.all_eq_true.mp h w hw
  rw [hp] at hw
  obtain ⟨i, -, hi⟩ := List.mem_filterMap.mp hw
  have hm : w ∈ big := by first | exact List.mem_of_getElem? hi | exact List.getElem?_mem hi
  exact ⟨hm, good_of_word h1⟩
theorem goodIn_app {big a b : List Cond} (ha : GoodIn big a) (hb : GoodIn big b) : GoodIn big (a ++ b) := fun w h => (List.mem_append.mp h).elim (ha w) (hb w)
theorem goodIn_ca {big a b : List Cond} {c : Cond} (ha : GoodIn big (c :: a)) (hb : GoodIn big b) : GoodIn big (c :: (a ++ b)) := fun w h => (List.mem_cons.mp h).elim (fun e => ha w (List.mem_cons.mpr (Or.inl e))) (fun h => (List.mem_append.mp h).elim (fun h => ha w (List.mem_cons.mpr (Or.inr h))) (hb w))
theorem goodIn_sub {big ws : List Cond} (hm : ∀ w ∈ ws, w ∈ big) (h : ws.all goodWord = true) : GoodIn big ws := fun w hw => ⟨hm w hw, good_of_word (List.all_eq_true.mp h w hw)⟩
/-! ===== END ===== -/

/-! ===== BEGIN printed: names, fields, word lists, decode rows ===== -/
def RX0 : String := "RelayBank$Bank"
def TX0 : u_T := fun k => match k with
  | 0 => ("RelayBank$Bank", "pickUps", "[I", true)
  | 1 => ("RelayBank$Bank", "releases", "[I", true)
  | 2 => ("RelayBank$Bank", "bounces", "[I", true)
  | 3 => ("RelayBank$Bank", "sizes", "[I", true)
  | 4 => ("RelayBank$Bank", "branches", "[I", true)
  | 5 => ("RelayBank$Bank", "dues", "[I", true)
  | 6 => ("RelayBank$Bank", "relays", "I", false)
  | 7 => ("RelayBank$Bank", "time", "I", false)
  | 8 => ("RelayBank$Bank", "keys", "I", false)
  | 9 => ("RelayBank$Bank", "fed", "I", false)
  | 10 => ("RelayBank$Bank", "attracted", "I", false)
  | 11 => ("RelayBank$Bank", "bouncing", "I", false)
  | 12 => ("RelayBank$Bank", "stuck", "I", false)
  | 13 => ("RelayBank$Bank", "alwaysOpen", "I", false)
  | _ => ("RelayBank$Bank", "alwaysClosed", "I", false)
def tyX0 : Nat → FieldType := fun k => match k with
  | 0 => .array .int
  | 1 => .array .int
  | 2 => .array .int
  | 3 => .array .int
  | 4 => .array .int
  | 5 => .array .int
  | 6 => .int
  | 7 => .int
  | 8 => .int
  | 9 => .int
  | 10 => .int
  | 11 => .int
  | 12 => .int
  | 13 => .int
  | _ => .int
abbrev wsX00 : List Cond := u_ws RX0 TX0 15
theorem nmX0 : ∀ a, a < 15 → ∀ b, b < 15 → a ≠ b → (TX0 a).2.1 ≠ (TX0 b).2.1 := by decide +kernel
theorem tyX0_ok : ∀ k, k < 15 → parseFieldDescriptor (TX0 k).2.2.1 = some (tyX0 k) := by decide +kernel
abbrev cX0_init : ByteArray := prog_2_method_1_code
def yX0_init : MethodName := ⟨RX0, "<init>", "()V"⟩
abbrev cX0_copy : ByteArray := prog_2_method_2_code
def yX0_copy : MethodName := ⟨RX0, "copy", "(LRelayBank$Bank;)V"⟩
abbrev cX0_has : ByteArray := prog_2_method_3_code
def yX0_has : MethodName := ⟨RX0, "has", "(I)Z"⟩
abbrev cX0_add : ByteArray := prog_2_method_4_code
def yX0_add : MethodName := ⟨RX0, "add", "(III)I"⟩
abbrev cX0_putDelays : ByteArray := prog_2_method_5_code
def yX0_putDelays : MethodName := ⟨RX0, "putDelays", "(IIII)Z"⟩
abbrev cX0_branchesOf : ByteArray := prog_2_method_6_code
def yX0_branchesOf : MethodName := ⟨RX0, "branchesOf", "(I)I"⟩
abbrev cX0_branchAt : ByteArray := prog_2_method_7_code
def yX0_branchAt : MethodName := ⟨RX0, "branchAt", "(II)I"⟩
abbrev cX0_putBranch : ByteArray := prog_2_method_8_code
def yX0_putBranch : MethodName := ⟨RX0, "putBranch", "(III)V"⟩
abbrev cX0_putCondition : ByteArray := prog_2_method_9_code
def yX0_putCondition : MethodName := ⟨RX0, "putCondition", "(IIII)I"⟩
abbrev cX0_dropBranch : ByteArray := prog_2_method_10_code
def yX0_dropBranch : MethodName := ⟨RX0, "dropBranch", "(II)I"⟩
abbrev cX0_putCircuit : ByteArray := prog_2_method_11_code
def yX0_putCircuit : MethodName := ⟨RX0, "putCircuit", "(I[II)V"⟩
abbrev cX0_concerns : ByteArray := prog_2_method_12_code
def yX0_concerns : MethodName := ⟨RX0, "concerns", "(II)Z"⟩
abbrev cX0_turnKey : ByteArray := prog_2_method_13_code
def yX0_turnKey : MethodName := ⟨RX0, "turnKey", "(I)I"⟩
abbrev cX0_faultOf : ByteArray := prog_2_method_14_code
def yX0_faultOf : MethodName := ⟨RX0, "faultOf", "(I)I"⟩
abbrev cX0_putFault : ByteArray := prog_2_method_15_code
def yX0_putFault : MethodName := ⟨RX0, "putFault", "(II)V"⟩
abbrev cX0_closedContacts : ByteArray := prog_2_method_16_code
def yX0_closedContacts : MethodName := ⟨RX0, "closedContacts", "()I"⟩
abbrev cX0_failing : ByteArray := prog_2_method_17_code
def yX0_failing : MethodName := ⟨RX0, "failing", "()I"⟩
abbrev cX0_conducts : ByteArray := prog_2_method_18_code
def yX0_conducts : MethodName := ⟨RX0, "conducts", "(II)Z"⟩
abbrev cX0_isStable : ByteArray := prog_2_method_19_code
def yX0_isStable : MethodName := ⟨RX0, "isStable", "()Z"⟩
abbrev cX0_lookAtCoils : ByteArray := prog_2_method_20_code
def yX0_lookAtCoils : MethodName := ⟨RX0, "lookAtCoils", "()I"⟩
abbrev cX0_turnCoil : ByteArray := prog_2_method_21_code
def yX0_turnCoil : MethodName := ⟨RX0, "turnCoil", "(I)V"⟩
abbrev cX0_relayOf : ByteArray := prog_2_method_22_code
def yX0_relayOf : MethodName := ⟨RX0, "relayOf", "(I)I"⟩
abbrev cX0_isBounceEnd : ByteArray := prog_2_method_23_code
def yX0_isBounceEnd : MethodName := ⟨RX0, "isBounceEnd", "(I)Z"⟩
abbrev cX0_kindOf : ByteArray := prog_2_method_24_code
def yX0_kindOf : MethodName := ⟨RX0, "kindOf", "(I)I"⟩
abbrev cX0_waiting : ByteArray := prog_2_method_25_code
def yX0_waiting : MethodName := ⟨RX0, "waiting", "()I"⟩
abbrev cX0_isQuiet : ByteArray := prog_2_method_26_code
def yX0_isQuiet : MethodName := ⟨RX0, "isQuiet", "()Z"⟩
abbrev cX0_nextSlot : ByteArray := prog_2_method_27_code
def yX0_nextSlot : MethodName := ⟨RX0, "nextSlot", "(Z)I"⟩
abbrev cX0_slotAt : ByteArray := prog_2_method_28_code
def yX0_slotAt : MethodName := ⟨RX0, "slotAt", "(I)I"⟩
abbrev cX0_eventsBefore : ByteArray := prog_2_method_29_code
def yX0_eventsBefore : MethodName := ⟨RX0, "eventsBefore", "(I)I"⟩
abbrev cX0_happen : ByteArray := prog_2_method_30_code
def yX0_happen : MethodName := ⟨RX0, "happen", "(I)V"⟩
abbrev cX0_moveArmature : ByteArray := prog_2_method_31_code
def yX0_moveArmature : MethodName := ⟨RX0, "moveArmature", "(I)V"⟩
abbrev cX0_run : ByteArray := prog_2_method_32_code
def yX0_run : MethodName := ⟨RX0, "run", "(IIZ)I"⟩
def RX1 : String := "RelayBank$Branch"
def TX1 : u_T := fun k => match k with
  | _ => ("", "", "", false)
def tyX1 : Nat → FieldType := fun k => match k with
  | _ => .int
abbrev wsX10 : List Cond := u_ws RX1 TX1 0
theorem nmX1 : ∀ a, a < 0 → ∀ b, b < 0 → a ≠ b → (TX1 a).2.1 ≠ (TX1 b).2.1 := by decide +kernel
theorem tyX1_ok : ∀ k, k < 0 → parseFieldDescriptor (TX1 k).2.2.1 = some (tyX1 k) := by decide +kernel
abbrev cX1_bit : ByteArray := prog_3_method_2_code
def yX1_bit : MethodName := ⟨RX1, "bit", "(II)I"⟩
abbrev cX1_howOf : ByteArray := prog_3_method_3_code
def yX1_howOf : MethodName := ⟨RX1, "howOf", "(II)I"⟩
abbrev cX1_with : ByteArray := prog_3_method_4_code
def yX1_with : MethodName := ⟨RX1, "with", "(III)I"⟩
def RX2 : String := "RelayBank$CircuitReader"
def TX2 : u_T := fun k => match k with
  | 0 => ("RelayBank$CircuitReader", "branches", "[I", true)
  | 1 => ("RelayBank$CircuitReader", "size", "I", false)
  | 2 => ("RelayBank$CircuitReader", "relays", "I", false)
  | _ => ("RelayBank$CircuitReader", "place", "I", false)
def tyX2 : Nat → FieldType := fun k => match k with
  | 0 => .array .int
  | 1 => .int
  | 2 => .int
  | _ => .int
abbrev wsX20 : List Cond := u_ws RX2 TX2 4
theorem nmX2 : ∀ a, a < 4 → ∀ b, b < 4 → a ≠ b → (TX2 a).2.1 ≠ (TX2 b).2.1 := by decide +kernel
theorem tyX2_ok : ∀ k, k < 4 → parseFieldDescriptor (TX2 k).2.2.1 = some (tyX2 k) := by decide +kernel
abbrev cX2_init : ByteArray := prog_4_method_1_code
def yX2_init : MethodName := ⟨RX2, "<init>", "()V"⟩
abbrev cX2_read : ByteArray := prog_4_method_2_code
def yX2_read : MethodName := ⟨RX2, "read", "(LRelayBank$Text;I)I"⟩
abbrev cX2_take : ByteArray := prog_4_method_3_code
def yX2_take : MethodName := ⟨RX2, "take", "(C)Z"⟩
abbrev cX2_goTo : ByteArray := prog_4_method_4_code
def yX2_goTo : MethodName := ⟨RX2, "goTo", "(I)Z"⟩
abbrev cX2_beginBranch : ByteArray := prog_4_method_5_code
def yX2_beginBranch : MethodName := ⟨RX2, "beginBranch", "(C)Z"⟩
abbrev cX2_beginCondition : ByteArray := prog_4_method_6_code
def yX2_beginCondition : MethodName := ⟨RX2, "beginCondition", "(C)Z"⟩
abbrev cX2_takeLetter : ByteArray := prog_4_method_7_code
def yX2_takeLetter : MethodName := ⟨RX2, "takeLetter", "(CI)Z"⟩
abbrev cX2_subjectOf : ByteArray := prog_4_method_8_code
def yX2_subjectOf : MethodName := ⟨RX2, "subjectOf", "(C)I"⟩
def RX3 : String := "RelayBank$Past"
def TX3 : u_T := fun k => match k with
  | 0 => ("RelayBank$Past", "banks", "[LRelayBank$Bank;", true)
  | 1 => ("RelayBank$Past", "oldest", "I", false)
  | _ => ("RelayBank$Past", "size", "I", false)
def tyX3 : Nat → FieldType := fun k => match k with
  | 0 => .array (.object "RelayBank$Bank")
  | 1 => .int
  | _ => .int
abbrev wsX30 : List Cond := u_ws RX3 TX3 3
theorem nmX3 : ∀ a, a < 3 → ∀ b, b < 3 → a ≠ b → (TX3 a).2.1 ≠ (TX3 b).2.1 := by decide +kernel
theorem tyX3_ok : ∀ k, k < 3 → parseFieldDescriptor (TX3 k).2.2.1 = some (tyX3 k) := by decide +kernel
abbrev cX3_init : ByteArray := prog_5_method_1_code
def yX3_init : MethodName := ⟨RX3, "<init>", "()V"⟩
abbrev cX3_bankAt : ByteArray := prog_5_method_2_code
def yX3_bankAt : MethodName := ⟨RX3, "bankAt", "(I)LRelayBank$Bank;"⟩
abbrev cX3_save : ByteArray := prog_5_method_3_code
def yX3_save : MethodName := ⟨RX3, "save", "(LRelayBank$Bank;)V"⟩
abbrev cX3_restore : ByteArray := prog_5_method_4_code
def yX3_restore : MethodName := ⟨RX3, "restore", "(LRelayBank$Bank;)Z"⟩
def RX4 : String := "RelayBank$Text"
def TX4 : u_T := fun k => match k with
  | 0 => ("RelayBank$Text", "characters", "[C", true)
  | _ => ("RelayBank$Text", "length", "I", false)
def tyX4 : Nat → FieldType := fun k => match k with
  | 0 => .array .char
  | _ => .int
abbrev wsX40 : List Cond := u_ws RX4 TX4 2
theorem nmX4 : ∀ a, a < 2 → ∀ b, b < 2 → a ≠ b → (TX4 a).2.1 ≠ (TX4 b).2.1 := by decide +kernel
theorem tyX4_ok : ∀ k, k < 2 → parseFieldDescriptor (TX4 k).2.2.1 = some (tyX4 k) := by decide +kernel
abbrev cX4_init : ByteArray := prog_6_method_1_code
def yX4_init : MethodName := ⟨RX4, "<init>", "()V"⟩
abbrev cX4_append : ByteArray := prog_6_method_2_code
def yX4_append : MethodName := ⟨RX4, "append", "(C)V"⟩
abbrev cX4_characterAt : ByteArray := prog_6_method_3_code
def yX4_characterAt : MethodName := ⟨RX4, "characterAt", "(I)C"⟩
def RX5 : String := "RelayBank"
def TX5 : u_T := fun k => match k with
  | 0 => ("RelayBank", "now", "LRelayBank$Bank;", true)
  | 1 => ("RelayBank", "past", "LRelayBank$Past;", true)
  | 2 => ("RelayBank", "text", "LRelayBank$Text;", true)
  | 3 => ("RelayBank", "reader", "LRelayBank$CircuitReader;", true)
  | 4 => ("RelayBank", "changed", "LRelayBank$Bank;", true)
  | _ => ("RelayBank", "trial", "LRelayBank$Bank;", true)
def tyX5 : Nat → FieldType := fun k => match k with
  | 0 => .object "RelayBank$Bank"
  | 1 => .object "RelayBank$Past"
  | 2 => .object "RelayBank$Text"
  | 3 => .object "RelayBank$CircuitReader"
  | 4 => .object "RelayBank$Bank"
  | _ => .object "RelayBank$Bank"
abbrev wsX50 : List Cond := u_ws RX5 TX5 6
theorem nmX5 : ∀ a, a < 6 → ∀ b, b < 6 → a ≠ b → (TX5 a).2.1 ≠ (TX5 b).2.1 := by decide +kernel
theorem tyX5_ok : ∀ k, k < 6 → parseFieldDescriptor (TX5 k).2.2.1 = some (tyX5 k) := by decide +kernel
abbrev cX5_init : ByteArray := prog_1_method_1_code
def yX5_init : MethodName := ⟨RX5, "<init>", "()V"⟩
abbrev cX5_addRelay : ByteArray := prog_1_method_2_code
def yX5_addRelay : MethodName := ⟨RX5, "addRelay", "(III)I"⟩
abbrev cX5_setDelays : ByteArray := prog_1_method_3_code
def yX5_setDelays : MethodName := ⟨RX5, "setDelays", "(IIII)I"⟩
abbrev cX5_setCondition : ByteArray := prog_1_method_4_code
def yX5_setCondition : MethodName := ⟨RX5, "setCondition", "(IIII)I"⟩
abbrev cX5_removeBranch : ByteArray := prog_1_method_5_code
def yX5_removeBranch : MethodName := ⟨RX5, "removeBranch", "(II)I"⟩
abbrev cX5_appendCharacter : ByteArray := prog_1_method_6_code
def yX5_appendCharacter : MethodName := ⟨RX5, "appendCharacter", "(I)I"⟩
abbrev cX5_clearText : ByteArray := prog_1_method_7_code
def yX5_clearText : MethodName := ⟨RX5, "clearText", "()I"⟩
abbrev cX5_load : ByteArray := prog_1_method_8_code
def yX5_load : MethodName := ⟨RX5, "load", "(I)I"⟩
abbrev cX5_press : ByteArray := prog_1_method_9_code
def yX5_press : MethodName := ⟨RX5, "press", "(II)I"⟩
abbrev cX5_setFault : ByteArray := prog_1_method_10_code
def yX5_setFault : MethodName := ⟨RX5, "setFault", "(II)I"⟩
abbrev cX5_stick : ByteArray := prog_1_method_11_code
def yX5_stick : MethodName := ⟨RX5, "stick", "(II)I"⟩
abbrev cX5_step : ByteArray := prog_1_method_12_code
def yX5_step : MethodName := ⟨RX5, "step", "()I"⟩
abbrev cX5_settle : ByteArray := prog_1_method_13_code
def yX5_settle : MethodName := ⟨RX5, "settle", "(I)I"⟩
abbrev cX5_pass : ByteArray := prog_1_method_14_code
def yX5_pass : MethodName := ⟨RX5, "pass", "(I)I"⟩
abbrev cX5_count : ByteArray := prog_1_method_15_code
def yX5_count : MethodName := ⟨RX5, "count", "(I)I"⟩
abbrev cX5_relay : ByteArray := prog_1_method_16_code
def yX5_relay : MethodName := ⟨RX5, "relay", "(II)I"⟩
abbrev cX5_condition : ByteArray := prog_1_method_17_code
def yX5_condition : MethodName := ⟨RX5, "condition", "(III)I"⟩
abbrev cX5_event : ByteArray := prog_1_method_18_code
def yX5_event : MethodName := ⟨RX5, "event", "(II)I"⟩
abbrev cX5_outcome : ByteArray := prog_1_method_19_code
def yX5_outcome : MethodName := ⟨RX5, "outcome", "(II)I"⟩
abbrev cX5_isRace : ByteArray := prog_1_method_20_code
def yX5_isRace : MethodName := ⟨RX5, "isRace", "()I"⟩
abbrev cX5_raceBy : ByteArray := prog_1_method_21_code
def yX5_raceBy : MethodName := ⟨RX5, "raceBy", "(I)I"⟩
abbrev cX5_hazards : ByteArray := prog_1_method_22_code
def yX5_hazards : MethodName := ⟨RX5, "hazards", "(I)I"⟩
abbrev cX5_stableStates : ByteArray := prog_1_method_23_code
def yX5_stableStates : MethodName := ⟨RX5, "stableStates", "()I"⟩
abbrev cX5_explain : ByteArray := prog_1_method_24_code
def yX5_explain : MethodName := ⟨RX5, "explain", "(I)I"⟩
abbrev cX5_undo : ByteArray := prog_1_method_25_code
def yX5_undo : MethodName := ⟨RX5, "undo", "()I"⟩
abbrev cX5_endingOf : ByteArray := prog_1_method_26_code
def yX5_endingOf : MethodName := ⟨RX5, "endingOf", "(LRelayBank$Bank;IZ)I"⟩
abbrev cX5_raceIn : ByteArray := prog_1_method_27_code
def yX5_raceIn : MethodName := ⟨RX5, "raceIn", "(LRelayBank$Bank;)I"⟩
abbrev cX5_isKey : ByteArray := prog_1_method_28_code
def yX5_isKey : MethodName := ⟨RX5, "isKey", "(I)Z"⟩
abbrev cX5_areDelays : ByteArray := prog_1_method_29_code
def yX5_areDelays : MethodName := ⟨RX5, "areDelays", "(III)Z"⟩
abbrev cX5_isWithin : ByteArray := prog_1_method_30_code
def yX5_isWithin : MethodName := ⟨RX5, "isWithin", "(III)Z"⟩
abbrev cX5_bitOf : ByteArray := prog_1_method_31_code
def yX5_bitOf : MethodName := ⟨RX5, "bitOf", "(II)I"⟩
abbrev cX5_isIn : ByteArray := prog_1_method_32_code
def yX5_isIn : MethodName := ⟨RX5, "isIn", "(II)Z"⟩
abbrev cX5_at : ByteArray := prog_1_method_33_code
def yX5_at : MethodName := ⟨RX5, "at", "([II)I"⟩
abbrev cX5_put : ByteArray := prog_1_method_34_code
def yX5_put : MethodName := ⟨RX5, "put", "([III)V"⟩
def RX6 : String := "RelayBankModel"
def TX6 : u_T := fun k => match k with
  | 0 => ("RelayBankModel", "s", "[I", true)
  | 1 => ("RelayBankModel", "past", "[I", true)
  | 2 => ("RelayBankModel", "pasts", "I", false)
  | 3 => ("RelayBankModel", "kept", "[I", true)
  | 4 => ("RelayBankModel", "held", "[I", true)
  | 5 => ("RelayBankModel", "text", "[B", true)
  | 6 => ("RelayBankModel", "typed", "I", false)
  | 7 => ("RelayBankModel", "changes", "I", false)
  | _ => ("RelayBankModel", "at", "I", false)
def tyX6 : Nat → FieldType := fun k => match k with
  | 0 => .array .int
  | 1 => .array .int
  | 2 => .int
  | 3 => .array .int
  | 4 => .array .int
  | 5 => .array .byte
  | 6 => .int
  | 7 => .int
  | _ => .int
abbrev wsX60 : List Cond := u_ws RX6 TX6 9
theorem nmX6 : ∀ a, a < 9 → ∀ b, b < 9 → a ≠ b → (TX6 a).2.1 ≠ (TX6 b).2.1 := by decide +kernel
theorem tyX6_ok : ∀ k, k < 9 → parseFieldDescriptor (TX6 k).2.2.1 = some (tyX6 k) := by decide +kernel
abbrev cX6_init : ByteArray := prog_8_method_1_code
def yX6_init : MethodName := ⟨RX6, "<init>", "()V"⟩
abbrev cX6_in : ByteArray := prog_8_method_3_code
def yX6_in : MethodName := ⟨RX6, "in", "(III)Z"⟩
abbrev cX6_notes : ByteArray := prog_8_method_4_code
def yX6_notes : MethodName := ⟨RX6, "notes", "()V"⟩
abbrev cX6_undo : ByteArray := prog_8_method_5_code
def yX6_undo : MethodName := ⟨RX6, "undo", "()I"⟩
abbrev cX6_keeps : ByteArray := prog_8_method_6_code
def yX6_keeps : MethodName := ⟨RX6, "keeps", "()V"⟩
abbrev cX6_restores : ByteArray := prog_8_method_7_code
def yX6_restores : MethodName := ⟨RX6, "restores", "()V"⟩
abbrev cX6_isRelay : ByteArray := prog_8_method_8_code
def yX6_isRelay : MethodName := ⟨RX6, "isRelay", "(I)Z"⟩
abbrev cX6_of : ByteArray := prog_8_method_9_code
def yX6_of : MethodName := ⟨RX6, "of", "(II)I"⟩
abbrev cX6_puts : ByteArray := prog_8_method_10_code
def yX6_puts : MethodName := ⟨RX6, "puts", "(III)V"⟩
abbrev cX6_set : ByteArray := prog_8_method_11_code
def yX6_set : MethodName := ⟨RX6, "set", "(I)I"⟩
abbrev cX6_closed : ByteArray := prog_8_method_12_code
def yX6_closed : MethodName := ⟨RX6, "closed", "()I"⟩
abbrev cX6_conducts : ByteArray := prog_8_method_13_code
def yX6_conducts : MethodName := ⟨RX6, "conducts", "(II)Z"⟩
abbrev cX6_looks : ByteArray := prog_8_method_14_code
def yX6_looks : MethodName := ⟨RX6, "looks", "()I"⟩
abbrev cX6_timeOf : ByteArray := prog_8_method_15_code
def yX6_timeOf : MethodName := ⟨RX6, "timeOf", "(I)I"⟩
abbrev cX6_waits : ByteArray := prog_8_method_16_code
def yX6_waits : MethodName := ⟨RX6, "waits", "(I)Z"⟩
abbrev cX6_isAhead : ByteArray := prog_8_method_17_code
def yX6_isAhead : MethodName := ⟨RX6, "isAhead", "(IIZ)Z"⟩
abbrev cX6_next : ByteArray := prog_8_method_18_code
def yX6_next : MethodName := ⟨RX6, "next", "(Z)I"⟩
abbrev cX6_happens : ByteArray := prog_8_method_19_code
def yX6_happens : MethodName := ⟨RX6, "happens", "(I)V"⟩
abbrev cX6_settles : ByteArray := prog_8_method_20_code
def yX6_settles : MethodName := ⟨RX6, "settles", "(ZI)I"⟩
abbrev cX6_addRelay : ByteArray := prog_8_method_21_code
def yX6_addRelay : MethodName := ⟨RX6, "addRelay", "(III)I"⟩
abbrev cX6_setDelays : ByteArray := prog_8_method_22_code
def yX6_setDelays : MethodName := ⟨RX6, "setDelays", "(IIII)I"⟩
abbrev cX6_isSubject : ByteArray := prog_8_method_23_code
def yX6_isSubject : MethodName := ⟨RX6, "isSubject", "(I)Z"⟩
abbrev cX6_how : ByteArray := prog_8_method_24_code
def yX6_how : MethodName := ⟨RX6, "how", "(III)I"⟩
abbrev cX6_conditions : ByteArray := prog_8_method_25_code
def yX6_conditions : MethodName := ⟨RX6, "conditions", "(IIII)V"⟩
abbrev cX6_opensBranch : ByteArray := prog_8_method_26_code
def yX6_opensBranch : MethodName := ⟨RX6, "opensBranch", "(I)V"⟩
abbrev cX6_setCondition : ByteArray := prog_8_method_27_code
def yX6_setCondition : MethodName := ⟨RX6, "setCondition", "(IIII)I"⟩
abbrev cX6_removeBranch : ByteArray := prog_8_method_28_code
def yX6_removeBranch : MethodName := ⟨RX6, "removeBranch", "(II)I"⟩
abbrev cX6_appendCharacter : ByteArray := prog_8_method_29_code
def yX6_appendCharacter : MethodName := ⟨RX6, "appendCharacter", "(I)I"⟩
abbrev cX6_clearText : ByteArray := prog_8_method_30_code
def yX6_clearText : MethodName := ⟨RX6, "clearText", "()I"⟩
abbrev cX6_here : ByteArray := prog_8_method_31_code
def yX6_here : MethodName := ⟨RX6, "here", "()I"⟩
abbrev cX6_subject : ByteArray := prog_8_method_32_code
def yX6_subject : MethodName := ⟨RX6, "subject", "(I)I"⟩
abbrev cX6_readsCondition : ByteArray := prog_8_method_33_code
def yX6_readsCondition : MethodName := ⟨RX6, "readsCondition", "(II)Z"⟩
abbrev cX6_isEnd : ByteArray := prog_8_method_34_code
def yX6_isEnd : MethodName := ⟨RX6, "isEnd", "()Z"⟩
abbrev cX6_readsBranch : ByteArray := prog_8_method_35_code
def yX6_readsBranch : MethodName := ⟨RX6, "readsBranch", "(I)Z"⟩
abbrev cX6_reads : ByteArray := prog_8_method_36_code
def yX6_reads : MethodName := ⟨RX6, "reads", "(I)Z"⟩
abbrev cX6_exchanges : ByteArray := prog_8_method_37_code
def yX6_exchanges : MethodName := ⟨RX6, "exchanges", "()V"⟩
abbrev cX6_load : ByteArray := prog_8_method_38_code
def yX6_load : MethodName := ⟨RX6, "load", "(I)I"⟩
abbrev cX6_press : ByteArray := prog_8_method_39_code
def yX6_press : MethodName := ⟨RX6, "press", "(II)I"⟩
abbrev cX6_setFault : ByteArray := prog_8_method_40_code
def yX6_setFault : MethodName := ⟨RX6, "setFault", "(II)I"⟩
abbrev cX6_stick : ByteArray := prog_8_method_41_code
def yX6_stick : MethodName := ⟨RX6, "stick", "(II)I"⟩
abbrev cX6_step : ByteArray := prog_8_method_42_code
def yX6_step : MethodName := ⟨RX6, "step", "()I"⟩
abbrev cX6_settle : ByteArray := prog_8_method_43_code
def yX6_settle : MethodName := ⟨RX6, "settle", "(I)I"⟩
abbrev cX6_pass : ByteArray := prog_8_method_44_code
def yX6_pass : MethodName := ⟨RX6, "pass", "(I)I"⟩
abbrev cX6_count : ByteArray := prog_8_method_45_code
def yX6_count : MethodName := ⟨RX6, "count", "(I)I"⟩
abbrev cX6_ofItself : ByteArray := prog_8_method_46_code
def yX6_ofItself : MethodName := ⟨RX6, "ofItself", "(I)I"⟩
abbrev cX6_relay : ByteArray := prog_8_method_47_code
def yX6_relay : MethodName := ⟨RX6, "relay", "(II)I"⟩
abbrev cX6_condition : ByteArray := prog_8_method_48_code
def yX6_condition : MethodName := ⟨RX6, "condition", "(III)I"⟩
abbrev cX6_event : ByteArray := prog_8_method_49_code
def yX6_event : MethodName := ⟨RX6, "event", "(II)I"⟩
abbrev cX6_ends : ByteArray := prog_8_method_50_code
def yX6_ends : MethodName := ⟨RX6, "ends", "(ZI)I"⟩
abbrev cX6_outcome : ByteArray := prog_8_method_51_code
def yX6_outcome : MethodName := ⟨RX6, "outcome", "(II)I"⟩
abbrev cX6_races : ByteArray := prog_8_method_52_code
def yX6_races : MethodName := ⟨RX6, "races", "()I"⟩
abbrev cX6_isRace : ByteArray := prog_8_method_53_code
def yX6_isRace : MethodName := ⟨RX6, "isRace", "()I"⟩
abbrev cX6_raceBy : ByteArray := prog_8_method_54_code
def yX6_raceBy : MethodName := ⟨RX6, "raceBy", "(I)I"⟩
abbrev cX6_hazards : ByteArray := prog_8_method_55_code
def yX6_hazards : MethodName := ⟨RX6, "hazards", "(I)I"⟩
abbrev cX6_stableStates : ByteArray := prog_8_method_56_code
def yX6_stableStates : MethodName := ⟨RX6, "stableStates", "()I"⟩
abbrev cX6_isStable : ByteArray := prog_8_method_57_code
def yX6_isStable : MethodName := ⟨RX6, "isStable", "(I)Z"⟩
abbrev cX6_explain : ByteArray := prog_8_method_58_code
def yX6_explain : MethodName := ⟨RX6, "explain", "(I)I"⟩
def RJ9 : String := "java/lang/Math"
def TJ9 : u_T := fun k => match k with
  | _ => ("", "", "", false)
def tyJ9 : Nat → FieldType := fun k => match k with
  | _ => .int
abbrev wsJ90 : List Cond := u_ws RJ9 TJ9 0
theorem nmJ9 : ∀ a, a < 0 → ∀ b, b < 0 → a ≠ b → (TJ9 a).2.1 ≠ (TJ9 b).2.1 := by decide +kernel
theorem tyJ9_ok : ∀ k, k < 0 → parseFieldDescriptor (TJ9 k).2.2.1 = some (tyJ9 k) := by decide +kernel
abbrev cJ9_floorMod_7cf53 : ByteArray := prog_9_method_50_code
def yJ9_floorMod_7cf53 : MethodName := ⟨RJ9, "floorMod", "(II)I"⟩
def RJ10 : String := "java/lang/System"
def TJ10 : u_T := fun k => match k with
  | _ => ("", "", "", false)
def tyJ10 : Nat → FieldType := fun k => match k with
  | _ => .int
abbrev wsJ100 : List Cond := u_ws RJ10 TJ10 0
theorem nmJ10 : ∀ a, a < 0 → ∀ b, b < 0 → a ≠ b → (TJ10 a).2.1 ≠ (TJ10 b).2.1 := by decide +kernel
theorem tyJ10_ok : ∀ k, k < 0 → parseFieldDescriptor (TJ10 k).2.2.1 = some (tyJ10 k) := by decide +kernel
def RL : String := "RelayBankLaw"
abbrev cL_law : ByteArray := code
def yL_law : MethodName := ⟨RL, "law", "([I)Z"⟩
def wsL_law_r1 : List Cond := [Cond.classLink RL 7 RX5, Cond.instantiable RX5 6, Cond.initialized RX5, Cond.classLink RL 10 RX6, Cond.instantiable RX6 9, Cond.initialized RX6, Cond.methodLink RL 9 yX5_init, Cond.instanceMethod yX5_init, Cond.code yX5_init cX5_init 1 none, Cond.methodLink RX5 3 objectInit, Cond.instanceMethod objectInit, Cond.code objectInit ⟨#[0xb1]⟩ 1 none, Cond.classLink RX5 9 RX0, Cond.instantiable RX0 15, Cond.initialized RX0, Cond.fieldLink RX5 12 "RelayBank" "now" "LRelayBank$Bank;", Cond.classLink RX5 16 RX3, Cond.instantiable RX3 3, Cond.initialized RX3, Cond.fieldLink RX5 19 "RelayBank" "past" "LRelayBank$Past;", Cond.classLink RX5 23 RX4, Cond.instantiable RX4 2, Cond.initialized RX4, Cond.fieldLink RX5 26 "RelayBank" "text" "LRelayBank$Text;"]
def wsL_law_r2 : List Cond := [Cond.classLink RX5 30 RX2, Cond.instantiable RX2 4, Cond.initialized RX2, Cond.fieldLink RX5 33 "RelayBank" "reader" "LRelayBank$CircuitReader;", Cond.fieldLink RX5 37 "RelayBank" "changed" "LRelayBank$Bank;", Cond.fieldLink RX5 40 "RelayBank" "trial" "LRelayBank$Bank;", Cond.methodLink RX5 11 yX0_init, Cond.instanceMethod yX0_init, Cond.code yX0_init cX0_init 2 none, Cond.methodLink RX0 3 objectInit, Cond.arrayClass .int, Cond.fieldLink RX0 9 "RelayBank$Bank" "pickUps" "[I", Cond.fieldLink RX0 15 "RelayBank$Bank" "releases" "[I", Cond.fieldLink RX0 18 "RelayBank$Bank" "bounces" "[I", Cond.fieldLink RX0 21 "RelayBank$Bank" "sizes" "[I", Cond.fieldLink RX0 24 "RelayBank$Bank" "branches" "[I", Cond.fieldLink RX0 27 "RelayBank$Bank" "dues" "[I", Cond.constant RX0 30 (2147483647), Cond.methodLink RX5 18 yX3_init, Cond.instanceMethod yX3_init, Cond.code yX3_init cX3_init 2 none, Cond.methodLink RX3 3 objectInit, Cond.classLink RX3 9 RX0, Cond.fieldLink RX3 11 "RelayBank$Past" "banks" "[LRelayBank$Bank;"]
def wsL_law_r3 : List Cond := [Cond.methodLink RX3 17 yX0_init, Cond.instanceMethod yX4_init, Cond.code yX4_init cX4_init 1 none, Cond.methodLink RX4 3 objectInit, Cond.arrayClass .char, Cond.fieldLink RX4 9 "RelayBank$Text" "characters" "[C", Cond.instanceMethod yX2_init, Cond.code yX2_init cX2_init 1 none, Cond.methodLink RX2 3 objectInit, Cond.fieldLink RX2 9 "RelayBank$CircuitReader" "branches" "[I", Cond.methodLink RL 12 yX6_init, Cond.instanceMethod yX6_init, Cond.code yX6_init cX6_init 1 none, Cond.methodLink RX6 1 objectInit, Cond.fieldLink RX6 7 "RelayBankModel" "s" "[I", Cond.fieldLink RX6 13 "RelayBankModel" "past" "[I", Cond.fieldLink RX6 16 "RelayBankModel" "kept" "[I", Cond.fieldLink RX6 19 "RelayBankModel" "held" "[I", Cond.arrayClass .byte, Cond.fieldLink RX6 22 "RelayBankModel" "text" "[B", Cond.fieldLink RX6 26 "RelayBankModel" "typed" "I", Cond.methodLink RL 13 yX5_addRelay, Cond.instanceMethod yX5_addRelay, Cond.selects RX5 yX5_addRelay yX5_addRelay]
def wsL_law_r4 : List Cond := [Cond.code yX5_addRelay cX5_addRelay 4 (some .int), Cond.methodLink RX5 43 yX5_areDelays, Cond.static yX5_areDelays, Cond.code yX5_areDelays cX5_areDelays 3 (some .boolean), Cond.methodLink RX5 71 yX5_isWithin, Cond.static yX5_isWithin, Cond.code yX5_isWithin cX5_isWithin 3 (some .boolean), Cond.methodLink RX5 51 yX3_save, Cond.instanceMethod yX3_save, Cond.selects RX3 yX3_save yX3_save, Cond.code yX3_save cX3_save 3 none, Cond.fieldLink RX3 28 "RelayBank$Past" "size" "I", Cond.fieldLink RX3 18 "RelayBank$Past" "oldest" "I", Cond.methodLink RX3 22 yJ9_floorMod_7cf53, Cond.static yJ9_floorMod_7cf53, Cond.initialized RJ9, Cond.code yJ9_floorMod_7cf53 cJ9_floorMod_7cf53 3 (some .int), Cond.methodLink RX3 31 yX3_bankAt, Cond.instanceMethod yX3_bankAt, Cond.selects RX3 yX3_bankAt yX3_bankAt, Cond.code yX3_bankAt cX3_bankAt 3 (some (.object "RelayBank$Bank")), Cond.methodLink RX3 35 yX0_copy, Cond.instanceMethod yX0_copy, Cond.selects RX0 yX0_copy yX0_copy]
def wsL_law_r5 : List Cond := [Cond.code yX0_copy cX0_copy 2 none, Cond.methodLink RX0 31 arraycopyName, Cond.native arraycopyName, Cond.static arraycopyName, Cond.initialized "java/lang/System", Cond.fieldLink RX0 37 "RelayBank$Bank" "relays" "I", Cond.fieldLink RX0 41 "RelayBank$Bank" "time" "I", Cond.fieldLink RX0 44 "RelayBank$Bank" "keys" "I", Cond.fieldLink RX0 47 "RelayBank$Bank" "fed" "I", Cond.fieldLink RX0 50 "RelayBank$Bank" "attracted" "I", Cond.fieldLink RX0 53 "RelayBank$Bank" "bouncing" "I", Cond.fieldLink RX0 56 "RelayBank$Bank" "stuck" "I", Cond.fieldLink RX0 59 "RelayBank$Bank" "alwaysOpen" "I", Cond.fieldLink RX0 62 "RelayBank$Bank" "alwaysClosed" "I", Cond.methodLink RX5 55 yX0_add, Cond.instanceMethod yX0_add, Cond.selects RX0 yX0_add yX0_add, Cond.code yX0_add cX0_add 5 (some .int), Cond.methodLink RX0 69 yX0_putDelays, Cond.instanceMethod yX0_putDelays, Cond.selects RX0 yX0_putDelays yX0_putDelays, Cond.code yX0_putDelays cX0_putDelays 6 (some .boolean), Cond.static yX5_at, Cond.code yX5_at cX5_at 2 (some .int)]
def wsL_law_r6 : List Cond := [Cond.static yX5_put, Cond.code yX5_put cX5_put 3 none, Cond.methodLink RL 17 yX6_addRelay, Cond.instanceMethod yX6_addRelay, Cond.selects RX6 yX6_addRelay yX6_addRelay, Cond.code yX6_addRelay cX6_addRelay 6 (some .int), Cond.methodLink RX6 33 yX6_in, Cond.static yX6_in, Cond.code yX6_in cX6_in 3 (some .boolean), Cond.methodLink RX6 79 yX6_notes, Cond.instanceMethod yX6_notes, Cond.selects RX6 yX6_notes yX6_notes, Cond.code yX6_notes cX6_notes 2 none, Cond.fieldLink RX6 30 "RelayBankModel" "pasts" "I", Cond.methodLink RX6 49 yX6_puts, Cond.instanceMethod yX6_puts, Cond.selects RX6 yX6_puts yX6_puts, Cond.code yX6_puts cX6_puts 4 none, Cond.methodLink RL 18 yX5_setDelays, Cond.instanceMethod yX5_setDelays, Cond.selects RX5 yX5_setDelays yX5_setDelays, Cond.code yX5_setDelays cX5_setDelays 5 (some .int), Cond.methodLink RX5 59 yX0_has, Cond.instanceMethod yX0_has]
def wsL_law_r7 : List Cond := [Cond.selects RX0 yX0_has yX0_has, Cond.code yX0_has cX0_has 2 (some .boolean), Cond.methodLink RX5 63 yX0_putDelays, Cond.methodLink RL 22 yX6_setDelays, Cond.instanceMethod yX6_setDelays, Cond.selects RX6 yX6_setDelays yX6_setDelays, Cond.code yX6_setDelays cX6_setDelays 6 (some .int), Cond.methodLink RX6 82 yX6_isRelay, Cond.instanceMethod yX6_isRelay, Cond.selects RX6 yX6_isRelay yX6_isRelay, Cond.code yX6_isRelay cX6_isRelay 2 (some .boolean), Cond.methodLink RX6 37 yX6_of, Cond.instanceMethod yX6_of, Cond.selects RX6 yX6_of yX6_of, Cond.code yX6_of cX6_of 3 (some .int), Cond.methodLink RL 23 yX5_setCondition, Cond.instanceMethod yX5_setCondition, Cond.selects RX5 yX5_setCondition yX5_setCondition, Cond.code yX5_setCondition cX5_setCondition 5 (some .int), Cond.methodLink RX5 67 yX0_branchesOf, Cond.instanceMethod yX0_branchesOf, Cond.selects RX0 yX0_branchesOf yX0_branchesOf, Cond.code yX0_branchesOf cX0_branchesOf 2 (some .int), Cond.methodLink RX5 74 yX0_putCondition]
def wsL_law_r8 : List Cond := [Cond.instanceMethod yX0_putCondition, Cond.selects RX0 yX0_putCondition yX0_putCondition, Cond.code yX0_putCondition cX0_putCondition 7 (some .int), Cond.methodLink RX0 81 yX0_branchesOf, Cond.methodLink RX0 85 yX0_branchAt, Cond.instanceMethod yX0_branchAt, Cond.selects RX0 yX0_branchAt yX0_branchAt, Cond.code yX0_branchAt cX0_branchAt 3 (some .int), Cond.methodLink RX0 89 yX1_with, Cond.static yX1_with, Cond.initialized RX1, Cond.code yX1_with cX1_with 4 (some .int), Cond.methodLink RX1 9 yX1_bit, Cond.static yX1_bit, Cond.code yX1_bit cX1_bit 2 (some .int), Cond.methodLink RX0 95 yX0_putBranch, Cond.instanceMethod yX0_putBranch, Cond.selects RX0 yX0_putBranch yX0_putBranch, Cond.code yX0_putBranch cX0_putBranch 4 none, Cond.methodLink RX0 99 yX0_lookAtCoils, Cond.instanceMethod yX0_lookAtCoils, Cond.selects RX0 yX0_lookAtCoils yX0_lookAtCoils, Cond.code yX0_lookAtCoils cX0_lookAtCoils 4 (some .int), Cond.methodLink RX0 114 yX0_failing]
def wsL_law_r9 : List Cond := [Cond.instanceMethod yX0_failing, Cond.selects RX0 yX0_failing yX0_failing, Cond.code yX0_failing cX0_failing 2 (some .int), Cond.constant RX0 113 (65535), Cond.methodLink RX0 110 yX0_closedContacts, Cond.instanceMethod yX0_closedContacts, Cond.selects RX0 yX0_closedContacts yX0_closedContacts, Cond.code yX0_closedContacts cX0_closedContacts 1 (some .int), Cond.methodLink RX0 117 yX0_conducts, Cond.instanceMethod yX0_conducts, Cond.selects RX0 yX0_conducts yX0_conducts, Cond.code yX0_conducts cX0_conducts 6 (some .boolean), Cond.static yX5_isIn, Cond.code yX5_isIn cX5_isIn 2 (some .boolean), Cond.methodLink RX0 120 yX0_turnCoil, Cond.instanceMethod yX0_turnCoil, Cond.selects RX0 yX0_turnCoil yX0_turnCoil, Cond.code yX0_turnCoil cX0_turnCoil 3 none, Cond.methodLink RX0 103 yX1_howOf, Cond.static yX1_howOf, Cond.code yX1_howOf cX1_howOf 2 (some .int), Cond.methodLink RL 26 yX6_setCondition, Cond.instanceMethod yX6_setCondition, Cond.selects RX6 yX6_setCondition yX6_setCondition]
def wsL_law_r10 : List Cond := [Cond.code yX6_setCondition cX6_setCondition 6 (some .int), Cond.fieldLink RX6 65 "RelayBankModel" "changes" "I", Cond.methodLink RX6 85 yX6_isSubject, Cond.instanceMethod yX6_isSubject, Cond.selects RX6 yX6_isSubject yX6_isSubject, Cond.code yX6_isSubject cX6_isSubject 2 (some .boolean), Cond.methodLink RX6 88 yX6_opensBranch, Cond.instanceMethod yX6_opensBranch, Cond.selects RX6 yX6_opensBranch yX6_opensBranch, Cond.code yX6_opensBranch cX6_opensBranch 3 none, Cond.methodLink RX6 91 yX6_how, Cond.instanceMethod yX6_how, Cond.selects RX6 yX6_how yX6_how, Cond.code yX6_how cX6_how 6 (some .int), Cond.methodLink RX6 95 yX6_conditions, Cond.instanceMethod yX6_conditions, Cond.selects RX6 yX6_conditions yX6_conditions, Cond.code yX6_conditions cX6_conditions 8 none, Cond.methodLink RX6 68 yX6_looks, Cond.instanceMethod yX6_looks, Cond.selects RX6 yX6_looks yX6_looks, Cond.code yX6_looks cX6_looks 6 (some .int), Cond.methodLink RX6 41 yX6_closed, Cond.instanceMethod yX6_closed]
def wsL_law_r11 : List Cond := [Cond.selects RX6 yX6_closed yX6_closed, Cond.code yX6_closed cX6_closed 4 (some .int), Cond.methodLink RX6 45 yX6_conducts, Cond.instanceMethod yX6_conducts, Cond.selects RX6 yX6_conducts yX6_conducts, Cond.code yX6_conducts cX6_conducts 7 (some .boolean), Cond.methodLink RL 27 yX5_removeBranch, Cond.instanceMethod yX5_removeBranch, Cond.selects RX5 yX5_removeBranch yX5_removeBranch, Cond.code yX5_removeBranch cX5_removeBranch 3 (some .int), Cond.methodLink RX5 78 yX0_dropBranch, Cond.instanceMethod yX0_dropBranch, Cond.selects RX0 yX0_dropBranch yX0_dropBranch, Cond.code yX0_dropBranch cX0_dropBranch 5 (some .int), Cond.methodLink RL 31 yX6_removeBranch, Cond.instanceMethod yX6_removeBranch, Cond.selects RX6 yX6_removeBranch yX6_removeBranch, Cond.code yX6_removeBranch cX6_removeBranch 4 (some .int), Cond.methodLink RL 32 yX5_appendCharacter, Cond.instanceMethod yX5_appendCharacter, Cond.selects RX5 yX5_appendCharacter yX5_appendCharacter, Cond.code yX5_appendCharacter cX5_appendCharacter 2 (some .int), Cond.methodLink RX5 85 yX4_append, Cond.instanceMethod yX4_append]
def wsL_law_r12 : List Cond := [Cond.selects RX4 yX4_append yX4_append, Cond.code yX4_append cX4_append 2 none, Cond.fieldLink RX4 15 "RelayBank$Text" "length" "I", Cond.methodLink RL 36 yX6_appendCharacter, Cond.instanceMethod yX6_appendCharacter, Cond.selects RX6 yX6_appendCharacter yX6_appendCharacter, Cond.code yX6_appendCharacter cX6_appendCharacter 2 (some .int), Cond.methodLink RL 37 yX5_clearText, Cond.instanceMethod yX5_clearText, Cond.selects RX5 yX5_clearText yX5_clearText, Cond.code yX5_clearText cX5_clearText 2 (some .int), Cond.methodLink RL 41 yX6_clearText, Cond.instanceMethod yX6_clearText, Cond.selects RX6 yX6_clearText yX6_clearText, Cond.code yX6_clearText cX6_clearText 2 (some .int), Cond.methodLink RL 42 yX5_load, Cond.instanceMethod yX5_load, Cond.selects RX5 yX5_load yX5_load, Cond.code yX5_load cX5_load 3 (some .int), Cond.methodLink RX5 89 yX2_read, Cond.instanceMethod yX2_read, Cond.selects RX2 yX2_read yX2_read, Cond.code yX2_read cX2_read 5 (some .int), Cond.fieldLink RX2 15 "RelayBank$CircuitReader" "relays" "I"]
def wsL_law_r13 : List Cond := [Cond.fieldLink RX2 19 "RelayBank$CircuitReader" "size" "I", Cond.fieldLink RX2 22 "RelayBank$CircuitReader" "place" "I", Cond.methodLink RX2 30 yX4_characterAt, Cond.instanceMethod yX4_characterAt, Cond.selects RX4 yX4_characterAt yX4_characterAt, Cond.code yX4_characterAt cX4_characterAt 2 (some .char), Cond.methodLink RX2 34 yX2_take, Cond.instanceMethod yX2_take, Cond.selects RX2 yX2_take yX2_take, Cond.code yX2_take cX2_take 2 (some .boolean), Cond.methodLink RX2 38 yX2_goTo, Cond.instanceMethod yX2_goTo, Cond.selects RX2 yX2_goTo yX2_goTo, Cond.code yX2_goTo cX2_goTo 2 (some .boolean), Cond.methodLink RX2 42 yX2_beginBranch, Cond.instanceMethod yX2_beginBranch, Cond.selects RX2 yX2_beginBranch yX2_beginBranch, Cond.code yX2_beginBranch cX2_beginBranch 2 (some .boolean), Cond.methodLink RX2 45 yX2_beginCondition, Cond.instanceMethod yX2_beginCondition, Cond.selects RX2 yX2_beginCondition yX2_beginCondition, Cond.code yX2_beginCondition cX2_beginCondition 2 (some .boolean), Cond.methodLink RX2 48 yX2_takeLetter, Cond.instanceMethod yX2_takeLetter]
def wsL_law_r14 : List Cond := [Cond.selects RX2 yX2_takeLetter yX2_takeLetter, Cond.code yX2_takeLetter cX2_takeLetter 5 (some .boolean), Cond.methodLink RX2 56 yX2_subjectOf, Cond.instanceMethod yX2_subjectOf, Cond.selects RX2 yX2_subjectOf yX2_subjectOf, Cond.code yX2_subjectOf cX2_subjectOf 2 (some .int), Cond.methodLink RX2 64 yX1_howOf, Cond.methodLink RX2 70 yX1_with, Cond.methodLink RX5 100 yX0_putCircuit, Cond.instanceMethod yX0_putCircuit, Cond.selects RX0 yX0_putCircuit yX0_putCircuit, Cond.code yX0_putCircuit cX0_putCircuit 5 none, Cond.methodLink RL 45 yX6_load, Cond.instanceMethod yX6_load, Cond.selects RX6 yX6_load yX6_load, Cond.code yX6_load cX6_load 3 (some .int), Cond.fieldLink RX6 99 "RelayBankModel" "at" "I", Cond.methodLink RX6 118 yX6_keeps, Cond.instanceMethod yX6_keeps, Cond.selects RX6 yX6_keeps yX6_keeps, Cond.code yX6_keeps cX6_keeps 2 none, Cond.methodLink RX6 121 yX6_reads, Cond.instanceMethod yX6_reads, Cond.selects RX6 yX6_reads yX6_reads]
def wsL_law_r15 : List Cond := [Cond.code yX6_reads cX6_reads 3 (some .boolean), Cond.methodLink RX6 102 yX6_here, Cond.instanceMethod yX6_here, Cond.selects RX6 yX6_here yX6_here, Cond.code yX6_here cX6_here 1 (some .int), Cond.methodLink RX6 115 yX6_readsBranch, Cond.instanceMethod yX6_readsBranch, Cond.selects RX6 yX6_readsBranch yX6_readsBranch, Cond.code yX6_readsBranch cX6_readsBranch 5 (some .boolean), Cond.methodLink RX6 108 yX6_isEnd, Cond.instanceMethod yX6_isEnd, Cond.selects RX6 yX6_isEnd yX6_isEnd, Cond.code yX6_isEnd cX6_isEnd 1 (some .boolean), Cond.methodLink RX6 112 yX6_readsCondition, Cond.instanceMethod yX6_readsCondition, Cond.selects RX6 yX6_readsCondition yX6_readsCondition, Cond.code yX6_readsCondition cX6_readsCondition 5 (some .boolean), Cond.methodLink RX6 105 yX6_subject, Cond.instanceMethod yX6_subject, Cond.selects RX6 yX6_subject yX6_subject, Cond.code yX6_subject cX6_subject 2 (some .int), Cond.methodLink RX6 124 yX6_exchanges, Cond.instanceMethod yX6_exchanges, Cond.selects RX6 yX6_exchanges yX6_exchanges]
def wsL_law_r16 : List Cond := [Cond.code yX6_exchanges cX6_exchanges 3 none, Cond.methodLink RL 46 yX5_press, Cond.instanceMethod yX5_press, Cond.selects RX5 yX5_press yX5_press, Cond.code yX5_press cX5_press 3 (some .int), Cond.methodLink RX5 104 yX5_isKey, Cond.static yX5_isKey, Cond.code yX5_isKey cX5_isKey 1 (some .boolean), Cond.methodLink RX5 110 yX5_isIn, Cond.methodLink RX5 114 yX0_turnKey, Cond.instanceMethod yX0_turnKey, Cond.selects RX0 yX0_turnKey yX0_turnKey, Cond.code yX0_turnKey cX0_turnKey 2 (some .int), Cond.methodLink RL 49 yX6_press, Cond.instanceMethod yX6_press, Cond.selects RX6 yX6_press yX6_press, Cond.code yX6_press cX6_press 3 (some .int), Cond.methodLink RL 50 yX5_setFault, Cond.instanceMethod yX5_setFault, Cond.selects RX5 yX5_setFault yX5_setFault, Cond.code yX5_setFault cX5_setFault 4 (some .int), Cond.methodLink RX5 117 yX0_faultOf, Cond.instanceMethod yX0_faultOf, Cond.selects RX0 yX0_faultOf yX0_faultOf]
def wsL_law_r17 : List Cond := [Cond.code yX0_faultOf cX0_faultOf 2 (some .int), Cond.methodLink RX5 120 yX0_putFault, Cond.instanceMethod yX0_putFault, Cond.selects RX0 yX0_putFault yX0_putFault, Cond.code yX0_putFault cX0_putFault 4 none, Cond.methodLink RL 53 yX6_setFault, Cond.instanceMethod yX6_setFault, Cond.selects RX6 yX6_setFault yX6_setFault, Cond.code yX6_setFault cX6_setFault 4 (some .int), Cond.methodLink RL 54 yX5_stick, Cond.instanceMethod yX5_stick, Cond.selects RX5 yX5_stick yX5_stick, Cond.code yX5_stick cX5_stick 4 (some .int), Cond.methodLink RX5 127 yX5_bitOf, Cond.static yX5_bitOf, Cond.code yX5_bitOf cX5_bitOf 2 (some .int), Cond.methodLink RL 57 yX6_stick, Cond.instanceMethod yX6_stick, Cond.selects RX6 yX6_stick yX6_stick, Cond.code yX6_stick cX6_stick 4 (some .int), Cond.methodLink RL 58 yX5_step, Cond.instanceMethod yX5_step, Cond.selects RX5 yX5_step yX5_step, Cond.code yX5_step cX5_step 3 (some .int)]
def wsL_law_r18 : List Cond := [Cond.methodLink RX5 130 yX0_nextSlot, Cond.instanceMethod yX0_nextSlot, Cond.selects RX0 yX0_nextSlot yX0_nextSlot, Cond.code yX0_nextSlot cX0_nextSlot 8 (some .int), Cond.methodLink RX5 134 yX0_kindOf, Cond.instanceMethod yX0_kindOf, Cond.selects RX0 yX0_kindOf yX0_kindOf, Cond.code yX0_kindOf cX0_kindOf 2 (some .int), Cond.methodLink RX0 124 yX0_isBounceEnd, Cond.static yX0_isBounceEnd, Cond.code yX0_isBounceEnd cX0_isBounceEnd 1 (some .boolean), Cond.methodLink RX0 128 yX0_relayOf, Cond.static yX0_relayOf, Cond.code yX0_relayOf cX0_relayOf 1 (some .int), Cond.methodLink RX5 137 yX0_happen, Cond.instanceMethod yX0_happen, Cond.selects RX0 yX0_happen yX0_happen, Cond.code yX0_happen cX0_happen 3 none, Cond.methodLink RX0 138 yX0_moveArmature, Cond.instanceMethod yX0_moveArmature, Cond.selects RX0 yX0_moveArmature yX0_moveArmature, Cond.code yX0_moveArmature cX0_moveArmature 3 none, Cond.methodLink RX5 141 yX0_relayOf, Cond.methodLink RL 61 yX6_step]
def wsL_law_r19 : List Cond := [Cond.instanceMethod yX6_step, Cond.selects RX6 yX6_step yX6_step, Cond.code yX6_step cX6_step 2 (some .int), Cond.methodLink RX6 71 yX6_next, Cond.instanceMethod yX6_next, Cond.selects RX6 yX6_next yX6_next, Cond.code yX6_next cX6_next 4 (some .int), Cond.methodLink RX6 57 yX6_waits, Cond.instanceMethod yX6_waits, Cond.selects RX6 yX6_waits yX6_waits, Cond.code yX6_waits cX6_waits 3 (some .boolean), Cond.methodLink RX6 61 yX6_isAhead, Cond.instanceMethod yX6_isAhead, Cond.selects RX6 yX6_isAhead yX6_isAhead, Cond.code yX6_isAhead cX6_isAhead 4 (some .boolean), Cond.methodLink RX6 53 yX6_timeOf, Cond.instanceMethod yX6_timeOf, Cond.selects RX6 yX6_timeOf yX6_timeOf, Cond.code yX6_timeOf cX6_timeOf 2 (some .int), Cond.methodLink RX6 75 yX6_happens, Cond.instanceMethod yX6_happens, Cond.selects RX6 yX6_happens yX6_happens, Cond.code yX6_happens cX6_happens 4 none, Cond.methodLink RL 62 yX5_settle]
def wsL_law_r20 : List Cond := [Cond.instanceMethod yX5_settle, Cond.selects RX5 yX5_settle yX5_settle, Cond.code yX5_settle cX5_settle 2 (some .int), Cond.constant RX5 144 (2147483647), Cond.methodLink RX5 145 yX0_run, Cond.instanceMethod yX0_run, Cond.selects RX0 yX0_run yX0_run, Cond.code yX0_run cX0_run 6 (some .int), Cond.methodLink RX0 131 yX0_nextSlot, Cond.methodLink RX0 141 yX0_happen, Cond.methodLink RL 65 yX6_settle, Cond.instanceMethod yX6_settle, Cond.selects RX6 yX6_settle yX6_settle, Cond.code yX6_settle cX6_settle 2 (some .int), Cond.methodLink RX6 127 yX6_settles, Cond.instanceMethod yX6_settles, Cond.selects RX6 yX6_settles yX6_settles, Cond.code yX6_settles cX6_settles 5 (some .int), Cond.methodLink RL 66 yX5_pass, Cond.instanceMethod yX5_pass, Cond.selects RX5 yX5_pass yX5_pass, Cond.code yX5_pass cX5_pass 4 (some .int), Cond.constant RX5 152 (100000), Cond.methodLink RX5 153 yX0_copy]
def wsL_law_r21 : List Cond := [Cond.methodLink RL 69 yX6_pass, Cond.instanceMethod yX6_pass, Cond.selects RX6 yX6_pass yX6_pass, Cond.code yX6_pass cX6_pass 5 (some .int), Cond.constant RX6 131 (100000), Cond.methodLink RL 70 yX5_count, Cond.instanceMethod yX5_count, Cond.selects RX5 yX5_count yX5_count, Cond.code yX5_count cX5_count 2 (some .int), Cond.methodLink RX5 156 yX0_waiting, Cond.instanceMethod yX0_waiting, Cond.selects RX0 yX0_waiting yX0_waiting, Cond.code yX0_waiting cX0_waiting 3 (some .int), Cond.methodLink RX5 166 yX0_closedContacts, Cond.methodLink RL 73 yX6_count, Cond.instanceMethod yX6_count, Cond.selects RX6 yX6_count yX6_count, Cond.code yX6_count cX6_count 4 (some .int), Cond.methodLink RX6 132 yX6_set, Cond.instanceMethod yX6_set, Cond.selects RX6 yX6_set yX6_set, Cond.code yX6_set cX6_set 4 (some .int), Cond.methodLink RL 74 yX5_relay, Cond.instanceMethod yX5_relay]
def wsL_law_r22 : List Cond := [Cond.selects RX5 yX5_relay yX5_relay, Cond.code yX5_relay cX5_relay 3 (some .int), Cond.methodLink RX5 176 yX5_at, Cond.methodLink RX5 186 yX0_concerns, Cond.instanceMethod yX0_concerns, Cond.selects RX0 yX0_concerns yX0_concerns, Cond.code yX0_concerns cX0_concerns 5 (some .boolean), Cond.methodLink RX5 189 yX0_failing, Cond.methodLink RX5 192 yX0_conducts, Cond.methodLink RL 77 yX6_relay, Cond.instanceMethod yX6_relay, Cond.selects RX6 yX6_relay yX6_relay, Cond.code yX6_relay cX6_relay 3 (some .int), Cond.methodLink RX6 135 yX6_ofItself, Cond.instanceMethod yX6_ofItself, Cond.selects RX6 yX6_ofItself yX6_ofItself, Cond.code yX6_ofItself cX6_ofItself 4 (some .int), Cond.methodLink RL 78 yX5_condition, Cond.instanceMethod yX5_condition, Cond.selects RX5 yX5_condition yX5_condition, Cond.code yX5_condition cX5_condition 4 (some .int), Cond.methodLink RX5 195 yX0_branchAt, Cond.methodLink RX5 198 yX1_howOf, Cond.methodLink RL 81 yX6_condition]
def wsL_law_r23 : List Cond := [Cond.instanceMethod yX6_condition, Cond.selects RX6 yX6_condition yX6_condition, Cond.code yX6_condition cX6_condition 4 (some .int), Cond.methodLink RL 82 yX5_event, Cond.instanceMethod yX5_event, Cond.selects RX5 yX5_event yX5_event, Cond.code yX5_event cX5_event 4 (some .int), Cond.methodLink RX5 203 yX0_slotAt, Cond.instanceMethod yX0_slotAt, Cond.selects RX0 yX0_slotAt yX0_slotAt, Cond.code yX0_slotAt cX0_slotAt 3 (some .int), Cond.methodLink RX0 135 yX0_eventsBefore, Cond.instanceMethod yX0_eventsBefore, Cond.selects RX0 yX0_eventsBefore yX0_eventsBefore, Cond.code yX0_eventsBefore cX0_eventsBefore 5 (some .int), Cond.methodLink RL 85 yX6_event, Cond.instanceMethod yX6_event, Cond.selects RX6 yX6_event yX6_event, Cond.code yX6_event cX6_event 6 (some .int), Cond.methodLink RL 86 yX5_outcome, Cond.instanceMethod yX5_outcome, Cond.selects RX5 yX5_outcome yX5_outcome, Cond.code yX5_outcome cX5_outcome 3 (some .int), Cond.methodLink RX5 209 yX5_endingOf]
def wsL_law_r24 : List Cond := [Cond.instanceMethod yX5_endingOf, Cond.selects RX5 yX5_endingOf yX5_endingOf, Cond.code yX5_endingOf cX5_endingOf 4 (some .int), Cond.methodLink RX5 217 yX0_isQuiet, Cond.instanceMethod yX0_isQuiet, Cond.selects RX0 yX0_isQuiet yX0_isQuiet, Cond.code yX0_isQuiet cX0_isQuiet 1 (some .boolean), Cond.methodLink RL 89 yX6_outcome, Cond.instanceMethod yX6_outcome, Cond.selects RX6 yX6_outcome yX6_outcome, Cond.code yX6_outcome cX6_outcome 4 (some .int), Cond.methodLink RX6 138 yX6_ends, Cond.instanceMethod yX6_ends, Cond.selects RX6 yX6_ends yX6_ends, Cond.code yX6_ends cX6_ends 4 (some .int), Cond.methodLink RX6 141 yX6_restores, Cond.instanceMethod yX6_restores, Cond.selects RX6 yX6_restores yX6_restores, Cond.code yX6_restores cX6_restores 2 none, Cond.methodLink RL 90 yX5_isRace, Cond.instanceMethod yX5_isRace, Cond.selects RX5 yX5_isRace yX5_isRace, Cond.code yX5_isRace cX5_isRace 1 (some .int), Cond.methodLink RX5 213 yX5_raceIn]
def wsL_law_r25 : List Cond := [Cond.instanceMethod yX5_raceIn, Cond.selects RX5 yX5_raceIn yX5_raceIn, Cond.code yX5_raceIn cX5_raceIn 3 (some .int), Cond.methodLink RL 93 yX6_isRace, Cond.instanceMethod yX6_isRace, Cond.selects RX6 yX6_isRace yX6_isRace, Cond.code yX6_isRace cX6_isRace 1 (some .int), Cond.methodLink RX6 144 yX6_races, Cond.instanceMethod yX6_races, Cond.selects RX6 yX6_races yX6_races, Cond.code yX6_races cX6_races 4 (some .int), Cond.methodLink RL 94 yX5_raceBy, Cond.instanceMethod yX5_raceBy, Cond.selects RX5 yX5_raceBy yX5_raceBy, Cond.code yX5_raceBy cX5_raceBy 2 (some .int), Cond.methodLink RL 97 yX6_raceBy, Cond.instanceMethod yX6_raceBy, Cond.selects RX6 yX6_raceBy yX6_raceBy, Cond.code yX6_raceBy cX6_raceBy 3 (some .int), Cond.methodLink RL 98 yX5_hazards, Cond.instanceMethod yX5_hazards, Cond.selects RX5 yX5_hazards yX5_hazards, Cond.code yX5_hazards cX5_hazards 4 (some .int), Cond.methodLink RL 101 yX6_hazards]
def wsL_law_r26 : List Cond := [Cond.instanceMethod yX6_hazards, Cond.selects RX6 yX6_hazards yX6_hazards, Cond.code yX6_hazards cX6_hazards 6 (some .int), Cond.methodLink RL 102 yX5_stableStates, Cond.instanceMethod yX5_stableStates, Cond.selects RX5 yX5_stableStates yX5_stableStates, Cond.code yX5_stableStates cX5_stableStates 4 (some .int), Cond.methodLink RX5 221 yX0_isStable, Cond.instanceMethod yX0_isStable, Cond.selects RX0 yX0_isStable yX0_isStable, Cond.code yX0_isStable cX0_isStable 3 (some .boolean), Cond.methodLink RL 105 yX6_stableStates, Cond.instanceMethod yX6_stableStates, Cond.selects RX6 yX6_stableStates yX6_stableStates, Cond.code yX6_stableStates cX6_stableStates 3 (some .int), Cond.methodLink RX6 147 yX6_isStable, Cond.instanceMethod yX6_isStable, Cond.selects RX6 yX6_isStable yX6_isStable, Cond.code yX6_isStable cX6_isStable 6 (some .boolean), Cond.methodLink RL 106 yX5_explain, Cond.instanceMethod yX5_explain, Cond.selects RX5 yX5_explain yX5_explain, Cond.code yX5_explain cX5_explain 5 (some .int), Cond.methodLink RL 109 yX6_explain]
def wsL_law_r27 : List Cond := [Cond.instanceMethod yX6_explain, Cond.selects RX6 yX6_explain yX6_explain, Cond.code yX6_explain cX6_explain 4 (some .int), Cond.methodLink RL 110 yX5_undo, Cond.instanceMethod yX5_undo, Cond.selects RX5 yX5_undo yX5_undo, Cond.code yX5_undo cX5_undo 1 (some .int), Cond.methodLink RX5 224 yX3_restore, Cond.instanceMethod yX3_restore, Cond.selects RX3 yX3_restore yX3_restore, Cond.code yX3_restore cX3_restore 3 (some .boolean), Cond.methodLink RL 113 yX6_undo, Cond.instanceMethod yX6_undo, Cond.selects RX6 yX6_undo yX6_undo, Cond.code yX6_undo cX6_undo 2 (some .int)]
def wsL_law : List Cond := (wsL_law_r1 ++ (wsL_law_r2 ++ (wsL_law_r3 ++ (wsL_law_r4 ++ (wsL_law_r5 ++ (wsL_law_r6 ++ (wsL_law_r7 ++ (wsL_law_r8 ++ (wsL_law_r9 ++ (wsL_law_r10 ++ (wsL_law_r11 ++ (wsL_law_r12 ++ (wsL_law_r13 ++ (wsL_law_r14 ++ (wsL_law_r15 ++ (wsL_law_r16 ++ (wsL_law_r17 ++ (wsL_law_r18 ++ (wsL_law_r19 ++ (wsL_law_r20 ++ (wsL_law_r21 ++ (wsL_law_r22 ++ (wsL_law_r23 ++ (wsL_law_r24 ++ (wsL_law_r25 ++ (wsL_law_r26 ++ wsL_law_r27)))))))))))))))))))))))))) ++ wsX50 ++ wsX60 ++ wsX00 ++ wsX30 ++ wsX40 ++ wsX20 ++ ([] : List Cond)
theorem inlX0 : ∀ w ∈ wsX00, w ∈ wsL_law := fun _ h => List.mem_append_left _ (List.mem_append_left _ (List.mem_append_left _ (List.mem_append_left _ (List.mem_append_right _ h))))
theorem inlX2 : ∀ w ∈ wsX20, w ∈ wsL_law := fun _ h => List.mem_append_left _ (List.mem_append_right _ h)
theorem inlX3 : ∀ w ∈ wsX30, w ∈ wsL_law := fun _ h => List.mem_append_left _ (List.mem_append_left _ (List.mem_append_left _ (List.mem_append_right _ h)))
theorem inlX4 : ∀ w ∈ wsX40, w ∈ wsL_law := fun _ h => List.mem_append_left _ (List.mem_append_left _ (List.mem_append_right _ h))
theorem inlX5 : ∀ w ∈ wsX50, w ∈ wsL_law := fun _ h => List.mem_append_left _ (List.mem_append_left _ (List.mem_append_left _ (List.mem_append_left _ (List.mem_append_left _ (List.mem_append_left _ (List.mem_append_right _ h))))))
theorem inlX6 : ∀ w ∈ wsX60, w ∈ wsL_law := fun _ h => List.mem_append_left _ (List.mem_append_left _ (List.mem_append_left _ (List.mem_append_left _ (List.mem_append_left _ (List.mem_append_right _ h)))))
abbrev vwCl : List vw_C := [(RX0, TX0, 15), (RX2, TX2, 4), (RX3, TX3, 3), (RX4, TX4, 2), (RX5, TX5, 6), (RX6, TX6, 9)]
end
section
theorem mem_ps {big : List Cond} (ws : List Cond) (ps : List Nat) (h : ws.map some = ps.map (fun i => big[i]?)) : ∀ w ∈ ws, w ∈ big := by
  intro w hw
  have h1 : some w ∈ ps.map (fun i => big[i]?) := by rw [← h]; exact List.mem_map.mpr ⟨w, hw, rfl⟩
  obtain ⟨i, -, hi⟩ := List.mem_map.mp h1
  exact List.mem_of_getElem? hi
set_option maxRecDepth 20000 in
theorem wsL_law_i1 : ∀ w ∈ wsL_law_r1, w ∈ lw_tbl := mem_ps _ [55, 56, 46, 536, 537, 51, 57, 58, 59, 60, 61, 62, 63, 64, 47, 185, 128, 129, 48, 186, 148, 149, 49, 187] (by decide +kernel)
set_option maxRecDepth 20000 in
theorem wsL_law_g1 : wsL_law_r1.all goodWord = true := by decide +kernel
set_option maxRecDepth 20000 in
theorem wsL_law_i2 : ∀ w ∈ wsL_law_r2, w ∈ lw_tbl := mem_ps _ [164, 165, 50, 188, 189, 190, 65, 66, 67, 68, 127, 70, 72, 74, 76, 77, 78, 69, 130, 131, 132, 133, 134, 137] (by decide +kernel)
set_option maxRecDepth 20000 in
theorem wsL_law_g2 : wsL_law_r2.all goodWord = true := by decide +kernel
set_option maxRecDepth 20000 in
theorem wsL_law_i3 : ∀ w ∈ wsL_law_r3, w ∈ lw_tbl := mem_ps _ [136, 151, 152, 153, 163, 154, 167, 168, 169, 170, 538, 539, 540, 541, 542, 543, 545, 546, 570, 547, 548, 204, 205, 206] (by decide +kernel)
set_option maxRecDepth 20000 in
theorem wsL_law_g3 : wsL_law_r3.all goodWord = true := by decide +kernel
set_option maxRecDepth 20000 in
theorem wsL_law_i4 : ∀ w ∈ wsL_law_r4, w ∈ lw_tbl := mem_ps _ [207, 208, 209, 210, 211, 212, 213, 214, 215, 216, 217, 139, 138, 218, 219, 52, 220, 221, 223, 0, 224, 225, 226, 227] (by decide +kernel)
set_option maxRecDepth 20000 in
theorem wsL_law_g4 : wsL_law_r4.all goodWord = true := by decide +kernel
set_option maxRecDepth 20000 in
theorem wsL_law_i5 : ∀ w ∈ wsL_law_r5, w ∈ lw_tbl := mem_ps _ [228, 229, 231, 230, 53, 81, 82, 84, 86, 88, 90, 92, 94, 95, 232, 233, 234, 235, 236, 237, 238, 239, 241, 242] (by decide +kernel)
set_option maxRecDepth 20000 in
theorem wsL_law_g5 : wsL_law_r5.all goodWord = true := by decide +kernel
set_option maxRecDepth 20000 in
theorem wsL_law_i6 : ∀ w ∈ wsL_law_r6, w ∈ lw_tbl := mem_ps _ [244, 245, 575, 576, 577, 578, 579, 580, 581, 582, 584, 14, 585, 544, 586, 588, 15, 589, 246, 247, 248, 249, 250, 251] (by decide +kernel)
set_option maxRecDepth 20000 in
theorem wsL_law_g6 : wsL_law_r6.all goodWord = true := by decide +kernel
set_option maxRecDepth 20000 in
theorem wsL_law_i7 : ∀ w ∈ wsL_law_r7, w ∈ lw_tbl := mem_ps _ [252, 253, 255, 590, 591, 592, 593, 594, 596, 16, 597, 598, 600, 17, 601, 256, 257, 258, 259, 260, 261, 262, 263, 264] (by decide +kernel)
set_option maxRecDepth 20000 in
theorem wsL_law_g7 : wsL_law_r7.all goodWord = true := by decide +kernel
set_option maxRecDepth 20000 in
theorem wsL_law_i8 : ∀ w ∈ wsL_law_r8, w ∈ lw_tbl := mem_ps _ [265, 266, 267, 268, 269, 270, 271, 272, 273, 274, 54, 275, 276, 277, 278, 279, 281, 1, 282, 283, 285, 2, 286, 287] (by decide +kernel)
set_option maxRecDepth 20000 in
theorem wsL_law_g8 : wsL_law_r8.all goodWord = true := by decide +kernel
set_option maxRecDepth 20000 in
theorem wsL_law_i9 : ∀ w ∈ wsL_law_r9, w ∈ lw_tbl := mem_ps _ [288, 289, 290, 295, 291, 292, 293, 294, 296, 297, 298, 299, 301, 302, 303, 305, 3, 306, 307, 308, 309, 602, 603, 604] (by decide +kernel)
set_option maxRecDepth 20000 in
theorem wsL_law_g9 : wsL_law_r9.all goodWord = true := by decide +kernel
set_option maxRecDepth 20000 in
theorem wsL_law_i10 : ∀ w ∈ wsL_law_r10, w ∈ lw_tbl := mem_ps _ [605, 549, 606, 608, 18, 609, 610, 612, 19, 613, 614, 616, 20, 617, 618, 620, 21, 621, 622, 624, 22, 625, 626, 628] (by decide +kernel)
set_option maxRecDepth 20000 in
theorem wsL_law_g10 : wsL_law_r10.all goodWord = true := by decide +kernel
set_option maxRecDepth 20000 in
theorem wsL_law_i11 : ∀ w ∈ wsL_law_r11, w ∈ lw_tbl := mem_ps _ [23, 629, 630, 632, 24, 633, 310, 311, 312, 313, 314, 315, 316, 317, 634, 635, 636, 637, 318, 319, 320, 321, 322, 323] (by decide +kernel)
set_option maxRecDepth 20000 in
theorem wsL_law_g11 : wsL_law_r11.all goodWord = true := by decide +kernel
set_option maxRecDepth 20000 in
theorem wsL_law_i12 : ∀ w ∈ wsL_law_r12, w ∈ lw_tbl := mem_ps _ [324, 325, 155, 638, 639, 640, 641, 326, 327, 328, 329, 642, 643, 644, 645, 330, 331, 332, 333, 334, 335, 336, 337, 174] (by decide +kernel)
set_option maxRecDepth 20000 in
theorem wsL_law_g12 : wsL_law_r12.all goodWord = true := by decide +kernel
set_option maxRecDepth 20000 in
theorem wsL_law_i13 : ∀ w ∈ wsL_law_r13, w ∈ lw_tbl := mem_ps _ [172, 175, 338, 339, 340, 341, 342, 344, 4, 345, 346, 348, 5, 349, 350, 352, 6, 353, 355, 357, 7, 358, 359, 361] (by decide +kernel)
set_option maxRecDepth 20000 in
theorem wsL_law_g13 : wsL_law_r13.all goodWord = true := by decide +kernel
set_option maxRecDepth 20000 in
theorem wsL_law_i14 : ∀ w ∈ wsL_law_r14, w ∈ lw_tbl := mem_ps _ [8, 362, 363, 365, 9, 366, 369, 370, 371, 372, 373, 374, 646, 647, 648, 649, 550, 650, 652, 25, 653, 654, 656, 26] (by decide +kernel)
set_option maxRecDepth 20000 in
theorem wsL_law_g14 : wsL_law_r14.all goodWord = true := by decide +kernel
set_option maxRecDepth 20000 in
theorem wsL_law_i15 : ∀ w ∈ wsL_law_r15, w ∈ lw_tbl := mem_ps _ [657, 658, 660, 27, 661, 662, 664, 28, 665, 666, 668, 29, 669, 670, 672, 30, 673, 674, 676, 31, 677, 678, 680, 32] (by decide +kernel)
set_option maxRecDepth 20000 in
theorem wsL_law_g15 : wsL_law_r15.all goodWord = true := by decide +kernel
set_option maxRecDepth 20000 in
theorem wsL_law_i16 : ∀ w ∈ wsL_law_r16, w ∈ lw_tbl := mem_ps _ [681, 375, 376, 377, 378, 379, 380, 381, 382, 383, 384, 385, 386, 682, 683, 684, 685, 387, 388, 389, 390, 391, 392, 393] (by decide +kernel)
set_option maxRecDepth 20000 in
theorem wsL_law_g16 : wsL_law_r16.all goodWord = true := by decide +kernel
set_option maxRecDepth 20000 in
theorem wsL_law_i17 : ∀ w ∈ wsL_law_r17, w ∈ lw_tbl := mem_ps _ [394, 395, 396, 397, 398, 686, 687, 688, 689, 399, 400, 401, 402, 403, 404, 405, 690, 691, 692, 693, 406, 407, 408, 409] (by decide +kernel)
set_option maxRecDepth 20000 in
theorem wsL_law_g17 : wsL_law_r17.all goodWord = true := by decide +kernel
set_option maxRecDepth 20000 in
theorem wsL_law_i18 : ∀ w ∈ wsL_law_r18, w ∈ lw_tbl := mem_ps _ [410, 411, 412, 413, 414, 415, 416, 417, 418, 419, 420, 421, 422, 423, 424, 425, 426, 427, 428, 430, 10, 431, 432, 694] (by decide +kernel)
set_option maxRecDepth 20000 in
theorem wsL_law_g18 : wsL_law_r18.all goodWord = true := by decide +kernel
set_option maxRecDepth 20000 in
theorem wsL_law_i19 : ∀ w ∈ wsL_law_r19, w ∈ lw_tbl := mem_ps _ [695, 696, 697, 698, 700, 33, 701, 702, 704, 34, 705, 706, 708, 35, 709, 710, 712, 36, 713, 714, 716, 37, 717, 433] (by decide +kernel)
set_option maxRecDepth 20000 in
theorem wsL_law_g19 : wsL_law_r19.all goodWord = true := by decide +kernel
set_option maxRecDepth 20000 in
theorem wsL_law_i20 : ∀ w ∈ wsL_law_r20, w ∈ lw_tbl := mem_ps _ [434, 435, 436, 437, 438, 439, 440, 441, 442, 443, 718, 719, 720, 721, 722, 724, 38, 725, 444, 445, 446, 447, 448, 449] (by decide +kernel)
set_option maxRecDepth 20000 in
theorem wsL_law_g20 : wsL_law_r20.all goodWord = true := by decide +kernel
set_option maxRecDepth 20000 in
theorem wsL_law_i21 : ∀ w ∈ wsL_law_r21, w ∈ lw_tbl := mem_ps _ [726, 727, 728, 729, 730, 450, 451, 452, 453, 454, 455, 456, 457, 458, 731, 732, 733, 734, 735, 737, 39, 738, 459, 460] (by decide +kernel)
set_option maxRecDepth 20000 in
theorem wsL_law_g21 : wsL_law_r21.all goodWord = true := by decide +kernel
set_option maxRecDepth 20000 in
theorem wsL_law_i22 : ∀ w ∈ wsL_law_r22, w ∈ lw_tbl := mem_ps _ [461, 462, 463, 464, 465, 466, 467, 468, 469, 739, 740, 741, 742, 743, 745, 40, 746, 470, 471, 472, 473, 474, 475, 747] (by decide +kernel)
set_option maxRecDepth 20000 in
theorem wsL_law_g22 : wsL_law_r22.all goodWord = true := by decide +kernel
set_option maxRecDepth 20000 in
theorem wsL_law_i23 : ∀ w ∈ wsL_law_r23, w ∈ lw_tbl := mem_ps _ [748, 749, 750, 476, 477, 478, 479, 480, 481, 482, 483, 484, 486, 11, 487, 751, 752, 753, 754, 488, 489, 490, 491, 492] (by decide +kernel)
set_option maxRecDepth 20000 in
theorem wsL_law_g23 : wsL_law_r23.all goodWord = true := by decide +kernel
set_option maxRecDepth 20000 in
theorem wsL_law_i24 : ∀ w ∈ wsL_law_r24, w ∈ lw_tbl := mem_ps _ [494, 12, 495, 496, 497, 498, 499, 755, 756, 757, 758, 759, 761, 41, 762, 763, 765, 42, 766, 500, 501, 502, 503, 504] (by decide +kernel)
set_option maxRecDepth 20000 in
theorem wsL_law_g24 : wsL_law_r24.all goodWord = true := by decide +kernel
set_option maxRecDepth 20000 in
theorem wsL_law_i25 : ∀ w ∈ wsL_law_r25, w ∈ lw_tbl := mem_ps _ [506, 13, 507, 767, 768, 769, 770, 771, 773, 43, 774, 508, 509, 510, 511, 775, 776, 777, 778, 512, 513, 514, 515, 779] (by decide +kernel)
set_option maxRecDepth 20000 in
theorem wsL_law_g25 : wsL_law_r25.all goodWord = true := by decide +kernel
set_option maxRecDepth 20000 in
theorem wsL_law_i26 : ∀ w ∈ wsL_law_r26, w ∈ lw_tbl := mem_ps _ [780, 781, 782, 516, 517, 518, 519, 520, 521, 522, 523, 783, 784, 785, 786, 787, 789, 44, 790, 524, 525, 526, 527, 791] (by decide +kernel)
set_option maxRecDepth 20000 in
theorem wsL_law_g26 : wsL_law_r26.all goodWord = true := by decide +kernel
set_option maxRecDepth 20000 in
theorem wsL_law_i27 : ∀ w ∈ wsL_law_r27, w ∈ lw_tbl := mem_ps _ [792, 793, 794, 528, 529, 530, 531, 532, 533, 534, 535, 571, 572, 573, 574] (by decide +kernel)
set_option maxRecDepth 20000 in
theorem wsL_law_g27 : wsL_law_r27.all goodWord = true := by decide +kernel
theorem wsl_X0_i : ∀ w ∈ wsX00, w ∈ lw_tbl := mem_ps _ [96, 98, 100, 102, 104, 106, 108, 110, 112, 114, 116, 118, 120, 122, 124] (by decide +kernel)
theorem wsl_X0_g : wsX00.all goodWord = true := by decide +kernel
theorem wsl_X2_i : ∀ w ∈ wsX20, w ∈ lw_tbl := mem_ps _ [176, 178, 180, 182] (by decide +kernel)
theorem wsl_X2_g : wsX20.all goodWord = true := by decide +kernel
theorem wsl_X3_i : ∀ w ∈ wsX30, w ∈ lw_tbl := mem_ps _ [141, 143, 145] (by decide +kernel)
theorem wsl_X3_g : wsX30.all goodWord = true := by decide +kernel
theorem wsl_X4_i : ∀ w ∈ wsX40, w ∈ lw_tbl := mem_ps _ [158, 160] (by decide +kernel)
theorem wsl_X4_g : wsX40.all goodWord = true := by decide +kernel
theorem wsl_X5_i : ∀ w ∈ wsX50, w ∈ lw_tbl := mem_ps _ [191, 193, 195, 197, 199, 201] (by decide +kernel)
theorem wsl_X5_g : wsX50.all goodWord = true := by decide +kernel
theorem wsl_X6_i : ∀ w ∈ wsX60, w ∈ lw_tbl := mem_ps _ [551, 553, 555, 557, 559, 561, 563, 565, 567] (by decide +kernel)
theorem wsl_X6_g : wsX60.all goodWord = true := by decide +kernel
theorem wsL_law_in : ∀ w ∈ wsL_law, w ∈ lw_tbl := by
  unfold wsL_law
  exact List.forall_mem_append.mpr ⟨List.forall_mem_append.mpr ⟨List.forall_mem_append.mpr ⟨List.forall_mem_append.mpr ⟨List.forall_mem_append.mpr ⟨List.forall_mem_append.mpr ⟨List.forall_mem_append.mpr ⟨List.forall_mem_append.mpr ⟨wsL_law_i1, List.forall_mem_append.mpr ⟨wsL_law_i2, List.forall_mem_append.mpr ⟨wsL_law_i3, List.forall_mem_append.mpr ⟨wsL_law_i4, List.forall_mem_append.mpr ⟨wsL_law_i5, List.forall_mem_append.mpr ⟨wsL_law_i6, List.forall_mem_append.mpr ⟨wsL_law_i7, List.forall_mem_append.mpr ⟨wsL_law_i8, List.forall_mem_append.mpr ⟨wsL_law_i9, List.forall_mem_append.mpr ⟨wsL_law_i10, List.forall_mem_append.mpr ⟨wsL_law_i11, List.forall_mem_append.mpr ⟨wsL_law_i12, List.forall_mem_append.mpr ⟨wsL_law_i13, List.forall_mem_append.mpr ⟨wsL_law_i14, List.forall_mem_append.mpr ⟨wsL_law_i15, List.forall_mem_append.mpr ⟨wsL_law_i16, List.forall_mem_append.mpr ⟨wsL_law_i17, List.forall_mem_append.mpr ⟨wsL_law_i18, List.forall_mem_append.mpr ⟨wsL_law_i19, List.forall_mem_append.mpr ⟨wsL_law_i20, List.forall_mem_append.mpr ⟨wsL_law_i21, List.forall_mem_append.mpr ⟨wsL_law_i22, List.forall_mem_append.mpr ⟨wsL_law_i23, List.forall_mem_append.mpr ⟨wsL_law_i24, List.forall_mem_append.mpr ⟨wsL_law_i25, List.forall_mem_append.mpr ⟨wsL_law_i26, wsL_law_i27⟩⟩⟩⟩⟩⟩⟩⟩⟩⟩⟩⟩⟩⟩⟩⟩⟩⟩⟩⟩⟩⟩⟩⟩⟩⟩, wsl_X5_i⟩, wsl_X6_i⟩, wsl_X0_i⟩, wsl_X3_i⟩, wsl_X4_i⟩, wsl_X2_i⟩, (fun _ h => absurd h List.not_mem_nil)⟩
theorem wsL_law_gd : ∀ w ∈ wsL_law, goodWord w = true := by
  unfold wsL_law
  exact List.forall_mem_append.mpr ⟨List.forall_mem_append.mpr ⟨List.forall_mem_append.mpr ⟨List.forall_mem_append.mpr ⟨List.forall_mem_append.mpr ⟨List.forall_mem_append.mpr ⟨List.forall_mem_append.mpr ⟨List.forall_mem_append.mpr ⟨(List.all_eq_true.mp wsL_law_g1), List.forall_mem_append.mpr ⟨(List.all_eq_true.mp wsL_law_g2), List.forall_mem_append.mpr ⟨(List.all_eq_true.mp wsL_law_g3), List.forall_mem_append.mpr ⟨(List.all_eq_true.mp wsL_law_g4), List.forall_mem_append.mpr ⟨(List.all_eq_true.mp wsL_law_g5), List.forall_mem_append.mpr ⟨(List.all_eq_true.mp wsL_law_g6), List.forall_mem_append.mpr ⟨(List.all_eq_true.mp wsL_law_g7), List.forall_mem_append.mpr ⟨(List.all_eq_true.mp wsL_law_g8), List.forall_mem_append.mpr ⟨(List.all_eq_true.mp wsL_law_g9), List.forall_mem_append.mpr ⟨(List.all_eq_true.mp wsL_law_g10), List.forall_mem_append.mpr ⟨(List.all_eq_true.mp wsL_law_g11), List.forall_mem_append.mpr ⟨(List.all_eq_true.mp wsL_law_g12), List.forall_mem_append.mpr ⟨(List.all_eq_true.mp wsL_law_g13), List.forall_mem_append.mpr ⟨(List.all_eq_true.mp wsL_law_g14), List.forall_mem_append.mpr ⟨(List.all_eq_true.mp wsL_law_g15), List.forall_mem_append.mpr ⟨(List.all_eq_true.mp wsL_law_g16), List.forall_mem_append.mpr ⟨(List.all_eq_true.mp wsL_law_g17), List.forall_mem_append.mpr ⟨(List.all_eq_true.mp wsL_law_g18), List.forall_mem_append.mpr ⟨(List.all_eq_true.mp wsL_law_g19), List.forall_mem_append.mpr ⟨(List.all_eq_true.mp wsL_law_g20), List.forall_mem_append.mpr ⟨(List.all_eq_true.mp wsL_law_g21), List.forall_mem_append.mpr ⟨(List.all_eq_true.mp wsL_law_g22), List.forall_mem_append.mpr ⟨(List.all_eq_true.mp wsL_law_g23), List.forall_mem_append.mpr ⟨(List.all_eq_true.mp wsL_law_g24), List.forall_mem_append.mpr ⟨(List.all_eq_true.mp wsL_law_g25), List.forall_mem_append.mpr ⟨(List.all_eq_true.mp wsL_law_g26), (List.all_eq_true.mp wsL_law_g27)⟩⟩⟩⟩⟩⟩⟩⟩⟩⟩⟩⟩⟩⟩⟩⟩⟩⟩⟩⟩⟩⟩⟩⟩⟩⟩, (List.all_eq_true.mp wsl_X5_g)⟩, (List.all_eq_true.mp wsl_X6_g)⟩, (List.all_eq_true.mp wsl_X0_g)⟩, (List.all_eq_true.mp wsl_X3_g)⟩, (List.all_eq_true.mp wsl_X4_g)⟩, (List.all_eq_true.mp wsl_X2_g)⟩, (fun _ h => absurd h List.not_mem_nil)⟩
theorem wsL_GI : GoodIn wsL_law wsL_law := fun w h => ⟨h, good_of_word (wsL_law_gd w h)⟩
end
section
/-! An abstract machine: values and cells without addresses, a world of n cells as a function. A walk of one method is a predicate Γ of the place, the locals, the stack, the room used, and the world: 'from here the method ends as it must'. Each row below turns Γ at an instruction into Γ at the next one. -/
abbrev AV : Type := Option (Int32 ⊕ Option Nat)
abbrev aI (x : Int32) : AV := some (.inl x)
abbrev aR (k : Nat) : AV := some (.inr (some k))
abbrev aN : AV := some (.inr none)
def rv (ad : Nat → Nat) : AV → Value
  | some (.inl x) => .int x
  | some (.inr (some k)) => .ref (ad k)
  | some (.inr none) => .null
  | none => .null
abbrev AC : Type := (Nat × Nat × (Nat → Int32)) ⊕ ((Nat × (Nat → Option Nat)) ⊕ (Nat × List AV))
abbrev cArr (t n : Nat) (f : Nat → Int32) : AC := .inl (t, n, f)
abbrev cRef (n : Nat) (f : Nat → Option Nat) : AC := .inr (.inl (n, f))
abbrev cObj (ci : Nat) (fs : List AV) : AC := .inr (.inr (ci, fs))
def rc (cT : Nat → ClassId) (ad : Nat → Nat) : AC → va_E
  | .inl (t, n, f) => .inl (cT t, n, .inl f)
  | .inr (.inl (n, f)) => .inl (cT 3, n, .inr (.inr (.inr (.inr (fun j => (f j).map ad)))))
  | .inr (.inr (ci, fs)) => .inr (ci, fs.map (rv ad))
theorem rv_cat (ad : Nat → Nat) (v : AV) : (rv ad v).category = 1 := by
  rcases v with _ | x | _ | k <;> rfl
theorem rv_sum (ad : Nat → Nat) : ∀ st : List AV, ((st.map (rv ad)).map fun v => v.category).sum = st.length
  | [] => rfl
  | v :: st => by
    have h := rv_sum ad st
    simp only [List.map_cons, List.sum_cons, List.length_cons, rv_cat] at h ⊢
    omega
def tysG (cT : Nat → ClassId) : List (ClassId × FieldType) := [(cT 0, .int), (cT 1, .byte), (cT 2, .char), (cT 3, .object "RelayBank$Bank")]
def wsW (cT : Nat → ClassId) (ad : Nat → Nat) (n : Nat) (w : Nat → AC) : va_W := (List.range n).map fun k => (ad k, rc cT ad (w k))
def upw (w : Nat → AC) (k : Nat) (c : AC) : Nat → AC := fun j => if j = k then c else w j
theorem upw_self (w : Nat → AC) (k : Nat) (c : AC) : upw w k c k = c := by simp [upw]
theorem upw_ne (w : Nat → AC) (k : Nat) (c : AC) {j : Nat} (h : j ≠ k) : upw w k c j = w j := by simp [upw, h]
theorem wsW_get {cT : Nat → ClassId} {ad : Nat → Nat} {n k : Nat} {w : Nat → AC} (h : k < n) : (wsW cT ad n w)[k]? = some (ad k, rc cT ad (w k)) := by
  simp [wsW, h]
theorem wsW_set {cT : Nat → ClassId} {ad : Nat → Nat} {n k : Nat} {w : Nat → AC} (c : AC) (h : k < n) : (wsW cT ad n w).set k (ad k, rc cT ad c) = wsW cT ad n (upw w k c) := by
  apply List.ext_getElem?
  intro i
  rw [List.getElem?_set]
  by_cases hi : k = i
  · subst hi
    simp [wsW, upw, h]
  · by_cases hn : i < n
    · rw [if_neg hi, wsW_get hn, wsW_get hn, upw_ne _ _ _ (Ne.symm hi)]
    · simp [wsW, hi, hn]
theorem wsW_push {cT : Nat → ClassId} {ad ad' : Nat → Nat} {n q : Nat} {w : Nat → AC} (c : AC) (hq : ad' n = q) (ho : ∀ j, j < n → ad' j = ad j) (hc : ∀ k, k < n → rc cT ad' (w k) = rc cT ad (w k)) : wsW cT ad n w ++ [(q, rc cT ad' c)] = wsW cT ad' (n + 1) (upw w n c) := by
  apply List.ext_getElem?
  intro i
  have hl : (wsW cT ad n w).length = n := by simp [wsW]
  by_cases hn : i < n
  · rw [List.getElem?_append_left (by rw [hl]; exact hn), wsW_get hn, wsW_get (by omega), upw_ne _ _ _ (by omega), ho i hn, hc i hn]
  · rw [List.getElem?_append_right (by rw [hl]; omega), hl]
    by_cases he : i = n
    · subst he
      rw [wsW_get (by omega), upw_self, hq, Nat.sub_self]
      rfl
    · rw [List.getElem?_eq_none (by simp; omega), List.getElem?_eq_none (by simp [wsW]; omega)]
/-- the words that a method's own class may use of a nest mate's private members -/
def nestG : List (String × Nat × MethodName) := [(RX0, 65, yX5_isWithin), (RX0, 73, yX5_at), (RX0, 77, yX5_put), (RX0, 106, yX5_isIn), (RX2, 52, yX5_put), (RX2, 60, yX5_at), (RX2, 74, yX5_isWithin), (RX5, 25, yX4_init), (RX5, 32, yX2_init)]
def KK (D : va_G) (cT : Nat → ClassId) (U : State) : Prop := va_K D vwCl (tysG cT) U ∧ va_AO "RelayBank$Bank" U ∧ ∀ q ∈ nestG, va_Nw (.methodLinkNest q.1 q.2.1 q.2.2 "RelayBank") U
theorem KK.warm {D : va_G} {cT : Nat → ClassId} {s U : State} (hW : s.WarmedH U.vm) (h : KK D cT s) : KK D cT U := ⟨va_K.moved hW.alike h.1, va_AO.moved hW.alike h.2.1, fun q hq => va_Nw.warmM hW (h.2.2 q hq)⟩
theorem KK.same {D : va_G} {cT : Nat → ClassId} {u U : State} (e : u.vm = U.vm) (h : KK D cT u) : KK D cT U := by
  have ha : u.vm.Alike U.vm := by rw [e]; exact Vm.Alike.refl U.vm
  exact ⟨va_K.moved ha h.1, va_AO.moved ha h.2.1, fun q hq => va_Nw.same rfl e (h.2.2 q hq)⟩
/-- addresses: more cells may have come, the old ones stay -/
def Ex (n0 : Nat) (ad0 : Nat → Nat) (n : Nat) (ad : Nat → Nat) : Prop := (n = n0 → ad = ad0) ∧ n0 ≤ n ∧ ∀ j, j < n0 → ad j = ad0 j
theorem Ex.rf {n : Nat} {ad : Nat → Nat} : Ex n ad n ad := ⟨fun _ => rfl, Nat.le_refl _, fun _ _ => rfl⟩
theorem Ex.tr {n0 n1 n2 : Nat} {a0 a1 a2 : Nat → Nat} (h : Ex n0 a0 n1 a1) (g : Ex n1 a1 n2 a2) : Ex n0 a0 n2 a2 := by
  obtain ⟨h1, h2, h3⟩ := h
  obtain ⟨g1, g2, g3⟩ := g
  refine ⟨fun e => ?_, by omega, fun j hj => (g3 j (by omega)).trans (h3 j hj)⟩
  rw [g1 (by omega), h1 (by omega)]
def Rp (D : va_G) (cT : Nat → ClassId) (A : Nat → Prop) (s : State) (ad : Nat → Nat) (n : Nat) (w : Nat → AC) (H : Heap) (locs : List Loc) : Prop := va_P D vwCl (wsW cT ad n w) H ∧ va_D A (wsW cT ad n w) ∧ va_S A s.heap H locs
def lg (L : List AV) (i : Nat) : AV := L.getD i none
def Lc (ad : Nat → Nat) (mL : Nat) (L : List AV) (ls : Array Slot) : Prop := ls.size = mL ∧ lv_wf ls ∧ ∀ i x, lg L i = some x → ls[i]? = some (.val (rv ad (some x)))
def lprs (ad : Nat → Nat) (L : List AV) : List (Nat × Value) := (List.range L.length).filterMap fun i => (lg L i).map fun x => (i, rv ad (some x))
theorem lg_lt {L : List AV} {i : Nat} {x : Int32 ⊕ Option Nat} (h : lg L i = some x) : i < L.length := by
  rcases Nat.lt_or_ge i L.length with q | q
  · exact q
  · unfold lg at h
    rw [List.getD_eq_getElem?_getD, List.getElem?_eq_none q] at h
    cases h
theorem lprs_mem {ad : Nat → Nat} {L : List AV} {q : Nat × Value} : q ∈ lprs ad L ↔ ∃ x, lg L q.1 = some x ∧ q.2 = rv ad (some x) := by
  unfold lprs
  rw [List.mem_filterMap]
  constructor
  · rintro ⟨i, -, h⟩
    cases hx : lg L i with
    | none => rw [hx] at h; cases h
    | some x => rw [hx] at h; cases h; exact ⟨x, hx, rfl⟩
  · rintro ⟨x, h1, h2⟩
    refine ⟨q.1, List.mem_range.mpr (lg_lt h1), ?_⟩
    rw [h1]
    show some (q.1, rv ad (some x)) = some q
    rw [← h2]
theorem Lc.has {ad : Nat → Nat} {mL : Nat} {L : List AV} {ls : Array Slot} (h : Lc ad mL L ls) : lv_has ls mL (lprs ad L) := by
  refine ⟨h.1, h.2.1, fun q hq => ?_⟩
  obtain ⟨x, h1, h2⟩ := lprs_mem.mp hq
  rw [h.2.2 q.1 x h1, h2]
theorem lg_set (L : List AV) (k i : Nat) (v : AV) : lg (L.set k v) i = if i = k ∧ k < L.length then v else lg L i := by
  unfold lg
  rw [List.getD_eq_getElem?_getD, List.getElem?_set, List.getD_eq_getElem?_getD]
  by_cases h : k = i
  · subst h
    by_cases hl : k < L.length
    · simp [hl]
    · simp [hl]
  · rw [if_neg h, if_neg (fun q => h q.1.symm)]
theorem Lc.set {ad : Nat → Nat} {mL : Nat} {L : List AV} {ls' : Array Slot} {k : Nat} {v : AV} (h' : lv_has ls' mL ((k, rv ad v) :: (lprs ad L).filter (fun q => !(q.1 == k) && !(q.1 + 1 == k && q.2.category == 2)))) : Lc ad mL (L.set k v) ls' := by
  refine ⟨h'.1, h'.2.1, fun i x hx => ?_⟩
  rw [lg_set] at hx
  by_cases hi : i = k ∧ k < L.length
  · rw [if_pos hi] at hx
    obtain ⟨rfl, -⟩ := hi
    have h2 := h'.2.2 (i, rv ad v) List.mem_cons_self
    rw [← hx]
    exact h2
  · rw [if_neg hi] at hx
    have hk : ¬ i = k := fun e => hi ⟨e, by have := lg_lt hx; omega⟩
    refine h'.2.2 (i, rv ad (some x)) (List.mem_cons_of_mem _ (List.mem_filter.mpr ⟨lprs_mem.mpr ⟨x, hx, rfl⟩, ?_⟩))
    simp [hk, rv_cat]
theorem lg_sl_len (ad : Nat → Nat) : ∀ as : List AV, (lg_sl (as.map (rv ad))).length = as.length
  | [] => rfl
  | v :: as => by
    have h := lg_sl_len ad as
    unfold lg_sl at h ⊢
    simp only [List.map_cons, List.flatMap_cons, List.length_append, h, rv_cat]
    simp
    omega
theorem lv_args_mem (ad : Nat → Nat) : ∀ (as : List AV) (j i : Nat) (x : Int32 ⊕ Option Nat), lg as i = some x → (j + i, rv ad (some x)) ∈ lv_args j (as.map (rv ad))
  | [], j, i, x, h => absurd (lg_lt h) (by simp)
  | v :: as, j, 0, x, h => by
    have e : v = some x := h
    subst e
    exact List.mem_cons_self
  | v :: as, j, i + 1, x, h => by
    have h2 : lg as i = some x := by
      unfold lg at h ⊢
      rw [List.getD_eq_getElem?_getD] at h ⊢
      simpa using h
    have h3 := lv_args_mem ad as (j + 1) i x h2
    show _ ∈ (j, rv ad v) :: lv_args (if (rv ad v).category = 2 then j + 2 else j + 1) (as.map (rv ad))
    rw [if_neg (by rw [rv_cat]; decide), show j + (i + 1) = j + 1 + i by omega]
    exact List.mem_cons_of_mem _ h3
theorem lg_app (as : List AV) (k i : Nat) (x : Int32 ⊕ Option Nat) (h : lg (as ++ List.replicate k none) i = some x) : lg as i = some x := by
  unfold lg at h ⊢
  rw [List.getD_eq_getElem?_getD] at h ⊢
  by_cases hl : i < as.length
  · rw [List.getElem?_append_left hl] at h
    exact h
  · rw [List.getElem?_append_right (by omega), List.getElem?_replicate] at h
    split at h <;> simp at h
theorem Lc.entry (ad : Nat → Nat) {mL : Nat} (as : List AV) (h : as.length ≤ mL) : Lc ad mL (as ++ List.replicate (mL - as.length) none) ((lg_sl (as.map (rv ad)) ++ List.replicate (mL - (lg_sl (as.map (rv ad))).length) Slot.unset).toArray) := by
  have h1 := lv_entry (as.map (rv ad)) (n := mL) (by rw [lg_sl_len]; exact h)
  refine ⟨h1.1, h1.2.1, fun i x hx => ?_⟩
  have h2 := lv_args_mem ad as 0 i x (lg_app as _ i x hx)
  rw [Nat.zero_add] at h2
  exact h1.2.2 _ h2
abbrev Gm : Type := Nat → List AV → List AV → Nat × Nat → Nat → (Nat → AC) → Prop
def rmd (d mc ms : Nat) : Room := { frames := d, cells := mc, slots := ms, locals := 37 * d }
/-- what a walk stands on: its method, its code, the machine, the tables' words, the room -/
def Ok (Γ : Gm) (l : Launch) (y : MethodName) (cc : ByteArray) (mL d mc ms : Nat) : Prop :=
  ∃ (p : Program) (e : Env) (s : State) (m : MethodId) (args : Array Value) (below : List Frame) (meth : Method) (c : Code) (D : va_G) (cT : Nat → ClassId) (A : Nat → Prop) (Q : State → Prop) (n0 : Nat) (ad0 : Nat → Nat) (R : Room),
    Γ = (fun pc L st cs n w => ∀ (ad : Nat → Nat) (H : Heap) (locs : List Loc) (ls : Array Slot), Ex n0 ad0 n ad → Rp D cT A s ad n w H locs → Lc ad mL L ls → W p l e R s m args below meth c H locs cs.1 cs.2 Q (F0 m pc ls (st.map (rv ad)))) ∧
    p.tables.exec = Jvm.exec ∧ c.code = cc ∧ c.maxLocals = mL ∧ s.vm.findClass y.cls = some m.cls ∧ meth.name = y.name ∧ (∀ w ∈ wsL_law, w.before args s = true) ∧ KK D cT s ∧ (∀ q : Nat, s.heap.size ≤ q → A q) ∧
    d ≤ R.frames ∧ 37 * d ≤ R.locals ∧ R.cells = mc ∧ R.slots = ms
def PcW (D : va_G) (cT : Nat → ClassId) (ad : Nat → Nat) (sz : Nat) (as : List AV) (n : Nat) (w : Nat → AC) : Array Value → State → Prop := va_Pc (as.map (rv ad)) (fun U => U.heap.size = sz ∧ va_P D vwCl (wsW cT ad n w) U.heap ∧ KK D cT U ∧ va_D (fun _ => True) (wsW cT ad n w))
def QcW (D : va_G) (cT : Nat → ClassId) (ad : Nat → Nat) (sz : Nat) (n : Nat) (w : Nat → AC) (Qa : Option AV → Nat → (Nat → AC) → Prop) : Array Value → State → Outcome → State → Prop := fun _ st oc t =>
  (∃ (r : Option AV) (ad' : Nat → Nat) (n' : Nat) (w' : Nat → AC), oc = .returned (r.map (rv ad')) ∧ Qa r n' w' ∧ Ex n ad n' ad' ∧ va_P D vwCl (wsW cT ad' n' w') t.heap ∧ va_D (va_A (wsW cT ad n w) sz) (wsW cT ad' n' w')) ∧ va_F (va_A (wsW cT ad n w) sz) st t
/-- a method's contract: from these arguments and this world it returns, and Qa holds of its answer and the world -/
def Sp (l : Launch) (y : MethodName) (cc : ByteArray) (mL : Nat) (ret : Option FieldType) (d mc ms : Nat) (as : List AV) (n : Nat) (w : Nat → AC) (Qa : Option AV → Nat → (Nat → AC) → Prop) : Prop :=
  ∀ (D : va_G) (cT : Nat → ClassId) (ad : Nat → Nat) (sz : Nat), Met l y (Cond.code y cc mL ret :: wsL_law) (rmd d mc ms) (PcW D cT ad sz as n w) (QcW D cT ad sz n w Qa) mc ms (va_A (wsW cT ad n w) sz)
/-- how a walk may end -/
def Rt (Γ : Gm) (cc : ByteArray) (ret : Option FieldType) (mc ms : Nat) (Qa : Option AV → Nat → (Nat → AC) → Prop) : Prop :=
  (∀ (pc : Nat) (L : List AV) (x : Int32) (cs : Nat × Nat) (n : Nat) (w : Nat → AC), decode cc pc = .ok (.ireturn, 1) → (∃ ty, ret = some ty ∧ narrow ty (.int x) = .int x) → cs.1 ≤ mc → cs.2 ≤ ms → Qa (some (aI x)) n w → Γ pc L [aI x] cs n w) ∧
  (∀ (pc : Nat) (L : List AV) (cs : Nat × Nat) (n : Nat) (w : Nat → AC), decode cc pc = .ok (.return_, 1) → ret = none → cs.1 ≤ mc → cs.2 ≤ ms → Qa none n w → Γ pc L [] cs n w) ∧
  (∀ (pc : Nat) (L : List AV) (v : Option Nat) (cs : Nat × Nat) (n : Nat) (w : Nat → AC), decode cc pc = .ok (.areturn, 1) → (∃ C, ret = some (.object C)) → cs.1 ≤ mc → cs.2 ≤ ms → Qa (some (some (.inr v))) n w → Γ pc L [some (.inr v)] cs n w)
theorem Sp.of {l : Launch} {y : MethodName} {cc : ByteArray} {mL : Nat} {ret : Option FieldType} {d mc ms : Nat} {as : List AV} {n : Nat} {w : Nat → AC} {Qa : Option AV → Nat → (Nat → AC) → Prop} (hy : plainName y.cls = true) (hlen : as.length ≤ mL)
    (body : ∀ Γ : Gm, Ok Γ l y cc mL d mc ms → Rt Γ cc ret mc ms Qa → Γ 0 (as ++ List.replicate (mL - as.length) none) [] (0, 0) n w) : Sp l y cc mL ret d mc ms as n w Qa := by
  intro D cT ad sz
  refine Met.ofW (cc := cc) (maxL := mL) (ret := ret) hy rfl ?_
  intro p e s m args below meth c s₁ B hml hv
  obtain ⟨rfl, hsz, hP, hK, hD0⟩ := hv
  have hx := B.exec
  have hb := B.bytes
  have hr := B.returns
  have hts := atoms_spec (ws := Cond.code y cc mL ret :: wsL_law) B.pre
  have hown : s.vm.findClass y.cls = some m.cls := findClass_of_methodNamed B.named
  have hlocks := B.notSynchronized
  have hin : meth.name = y.name := (name_of_methodNamed B.named B.method).1
  subst hsz
  have hD := hD0.self (sz := s.heap.size)
  have hts' : ∀ w ∈ wsL_law, w.before (as.map (rv ad)).toArray s = true := fun w hw => hts w (List.mem_cons_of_mem _ hw)
  have key := body (fun pc L st cs n' w' => ∀ (ad' : Nat → Nat) (H : Heap) (locs : List Loc) (ls : Array Slot), Ex n ad n' ad' → Rp D cT (va_A (wsW cT ad n w) s.heap.size) s ad' n' w' H locs → Lc ad' mL L ls → W p l e (headSpec (Cond.code y cc mL ret :: wsL_law) (rmd d mc ms)).room s m (as.map (rv ad)).toArray below meth c H locs cs.1 cs.2 (MQ below (QcW D cT ad s.heap.size n w Qa) (as.map (rv ad)).toArray s mc ms (va_A (wsW cT ad n w) s.heap.size)) (F0 m pc ls (st.map (rv ad'))))
    ⟨p, e, s, m, _, below, meth, c, D, cT, _, _, n, ad, _, rfl, hx, hb, hml, hown, hin, hts', hK, fun q h => Or.inr h, Nat.le_refl _, Nat.le_refl _, rfl, rfl⟩ ⟨?_, ?_, ?_⟩
  · rw [lg_entry_eq]
    exact key ad s.heap [] _ Ex.rf ⟨hP, hD, va_S.rf⟩ (Lc.entry ad as hlen)
  · intro pc L x cs n' w' hd ⟨ty, hty, hn⟩ hc1 hc2 hq ad' H locs ls hE hR hL
    obtain ⟨hP1, hD1, hS1⟩ := hR
    refine W.widen hc1 hc2 ?_
    exact W.zret (v := x) (ty := ty) hx hb (by rw [hr]; exact hty) hn (fun t ht hW => ⟨⟨some (aI x), ad', n', w', rfl, hq, hE, by rw [ht]; exact hP1, hD1⟩, hS1.F ht⟩) hS1.2.2 hd
  · intro pc L cs n' w' hd hret hc1 hc2 hq ad' H locs ls hE hR hL
    obtain ⟨hP1, hD1, hS1⟩ := hR
    refine W.widen hc1 hc2 ?_
    exact W.vret hx hb (by rw [hr]; exact hret) (fun t ht hW => ⟨⟨none, ad', n', w', rfl, hq, hE, by rw [ht]; exact hP1, hD1⟩, hS1.F ht⟩) hS1.2.2 hd
  · intro pc L v cs n' w' hd ⟨C, hret⟩ hc1 hc2 hq ad' H locs ls hE hR hL
    obtain ⟨hP1, hD1, hS1⟩ := hR
    refine W.widen hc1 hc2 ?_
    exact W.aret (v := rv ad' (some (.inr v))) (rt := .object C) hx hb (by rw [hr]; exact hret) (Or.inl ⟨C, rfl⟩) (by cases v with | none => exact Or.inl rfl | some k => exact Or.inr ⟨ad' k, rfl⟩) (fun t ht hW => ⟨⟨some (some (.inr v)), ad', n', w', rfl, hq, hE, by rw [ht]; exact hP1, hD1⟩, hS1.F ht⟩) hS1.2.2 hd
end
section
theorem cpy_nat : Cond.native arraycopyName ∈ wsL_law := List.mem_of_getElem? (i := 98) (by decide +kernel)
theorem cpy_sta : Cond.static arraycopyName ∈ wsL_law := List.mem_of_getElem? (i := 99) (by decide +kernel)
theorem cpy_ini : Cond.initialized "java/lang/System" ∈ wsL_law := List.mem_of_getElem? (i := 100) (by decide +kernel)
section
variable {Γ : Gm} {l : Launch} {y : MethodName} {cc : ByteArray} {mL d mc ms : Nat} {pc n : Nat} {L st : List AV} {cs : Nat × Nat} {w : Nat → AC}
theorem qa_iconst (hΓ : Ok Γ l y cc mL d mc ms) {j : Int} {v : Int32} (hd : decode cc pc = .ok (.iconst j, 1)) (hv : Int32.ofInt j = v) (k : Γ (pc + 1) L (aI v :: st) cs n w) : Γ pc L (st) cs n w := by
  obtain ⟨p, e, s, m, args, below, meth, c, D, cT, A, Q, n0, ad0, R, rfl, hx, hb, hml, hown, hnm, hts, hK, hA, hRf, hRl, hRc, hRs⟩ := hΓ
  intro ad H locs ls hE hR hL
  exact lv_iconst hx hb hd hv (k ad H locs ls hE hR hL)
theorem qa_bipush (hΓ : Ok Γ l y cc mL d mc ms) {j : Int} {v : Int32} (hd : decode cc pc = .ok (.bipush j, 2)) (hv : (Int8.ofInt j).toInt32 = v) (k : Γ (pc + 2) L (aI v :: st) cs n w) : Γ pc L (st) cs n w := by
  obtain ⟨p, e, s, m, args, below, meth, c, D, cT, A, Q, n0, ad0, R, rfl, hx, hb, hml, hown, hnm, hts, hK, hA, hRf, hRl, hRc, hRs⟩ := hΓ
  intro ad H locs ls hE hR hL
  exact lv_bipush hx hb hd hv (k ad H locs ls hE hR hL)
theorem qa_sipush (hΓ : Ok Γ l y cc mL d mc ms) {j : Int} {v : Int32} (hd : decode cc pc = .ok (.sipush j, 3)) (hv : (Int16.ofInt j).toInt32 = v) (k : Γ (pc + 3) L (aI v :: st) cs n w) : Γ pc L (st) cs n w := by
  obtain ⟨p, e, s, m, args, below, meth, c, D, cT, A, Q, n0, ad0, R, rfl, hx, hb, hml, hown, hnm, hts, hK, hA, hRf, hRl, hRc, hRs⟩ := hΓ
  intro ad H locs ls hE hR hL
  exact lv_sipush hx hb hd hv (k ad H locs ls hE hR hL)
theorem qa_iadd (hΓ : Ok Γ l y cc mL d mc ms) {x z : Int32} (hd : decode cc pc = .ok (.iadd, 1)) (k : Γ (pc + 1) L (aI (x + z) :: st) cs n w) : Γ pc L (aI z :: aI x :: st) cs n w := by
  obtain ⟨p, e, s, m, args, below, meth, c, D, cT, A, Q, n0, ad0, R, rfl, hx, hb, hml, hown, hnm, hts, hK, hA, hRf, hRl, hRc, hRs⟩ := hΓ
  intro ad H locs ls hE hR hL
  exact lv_iadd hx hb hd (k ad H locs ls hE hR hL)
theorem qa_isub (hΓ : Ok Γ l y cc mL d mc ms) {x z : Int32} (hd : decode cc pc = .ok (.isub, 1)) (k : Γ (pc + 1) L (aI (x - z) :: st) cs n w) : Γ pc L (aI z :: aI x :: st) cs n w := by
  obtain ⟨p, e, s, m, args, below, meth, c, D, cT, A, Q, n0, ad0, R, rfl, hx, hb, hml, hown, hnm, hts, hK, hA, hRf, hRl, hRc, hRs⟩ := hΓ
  intro ad H locs ls hE hR hL
  exact lv_isub hx hb hd (k ad H locs ls hE hR hL)
theorem qa_imul (hΓ : Ok Γ l y cc mL d mc ms) {x z : Int32} (hd : decode cc pc = .ok (.imul, 1)) (k : Γ (pc + 1) L (aI (x * z) :: st) cs n w) : Γ pc L (aI z :: aI x :: st) cs n w := by
  obtain ⟨p, e, s, m, args, below, meth, c, D, cT, A, Q, n0, ad0, R, rfl, hx, hb, hml, hown, hnm, hts, hK, hA, hRf, hRl, hRc, hRs⟩ := hΓ
  intro ad H locs ls hE hR hL
  exact lv_imul hx hb hd (k ad H locs ls hE hR hL)
theorem qa_iand (hΓ : Ok Γ l y cc mL d mc ms) {x z : Int32} (hd : decode cc pc = .ok (.iand, 1)) (k : Γ (pc + 1) L (aI (x &&& z) :: st) cs n w) : Γ pc L (aI z :: aI x :: st) cs n w := by
  obtain ⟨p, e, s, m, args, below, meth, c, D, cT, A, Q, n0, ad0, R, rfl, hx, hb, hml, hown, hnm, hts, hK, hA, hRf, hRl, hRc, hRs⟩ := hΓ
  intro ad H locs ls hE hR hL
  exact lv_iand hx hb hd (k ad H locs ls hE hR hL)
theorem qa_ior (hΓ : Ok Γ l y cc mL d mc ms) {x z : Int32} (hd : decode cc pc = .ok (.ior, 1)) (k : Γ (pc + 1) L (aI (x ||| z) :: st) cs n w) : Γ pc L (aI z :: aI x :: st) cs n w := by
  obtain ⟨p, e, s, m, args, below, meth, c, D, cT, A, Q, n0, ad0, R, rfl, hx, hb, hml, hown, hnm, hts, hK, hA, hRf, hRl, hRc, hRs⟩ := hΓ
  intro ad H locs ls hE hR hL
  exact lv_ior hx hb hd (k ad H locs ls hE hR hL)
theorem qa_ixor (hΓ : Ok Γ l y cc mL d mc ms) {x z : Int32} (hd : decode cc pc = .ok (.ixor, 1)) (k : Γ (pc + 1) L (aI (x ^^^ z) :: st) cs n w) : Γ pc L (aI z :: aI x :: st) cs n w := by
  obtain ⟨p, e, s, m, args, below, meth, c, D, cT, A, Q, n0, ad0, R, rfl, hx, hb, hml, hown, hnm, hts, hK, hA, hRf, hRl, hRc, hRs⟩ := hΓ
  intro ad H locs ls hE hR hL
  exact lv_ixor hx hb hd (k ad H locs ls hE hR hL)
theorem qa_ishl (hΓ : Ok Γ l y cc mL d mc ms) {x z : Int32} (hd : decode cc pc = .ok (.ishl, 1)) (k : Γ (pc + 1) L (aI (x <<< (z &&& 31)) :: st) cs n w) : Γ pc L (aI z :: aI x :: st) cs n w := by
  obtain ⟨p, e, s, m, args, below, meth, c, D, cT, A, Q, n0, ad0, R, rfl, hx, hb, hml, hown, hnm, hts, hK, hA, hRf, hRl, hRc, hRs⟩ := hΓ
  intro ad H locs ls hE hR hL
  exact lv_ishl hx hb hd (k ad H locs ls hE hR hL)
theorem qa_ishr (hΓ : Ok Γ l y cc mL d mc ms) {x z : Int32} (hd : decode cc pc = .ok (.ishr, 1)) (k : Γ (pc + 1) L (aI (x >>> (z &&& 31)) :: st) cs n w) : Γ pc L (aI z :: aI x :: st) cs n w := by
  obtain ⟨p, e, s, m, args, below, meth, c, D, cT, A, Q, n0, ad0, R, rfl, hx, hb, hml, hown, hnm, hts, hK, hA, hRf, hRl, hRc, hRs⟩ := hΓ
  intro ad H locs ls hE hR hL
  exact lv_ishr hx hb hd (k ad H locs ls hE hR hL)
theorem qa_idiv (hΓ : Ok Γ l y cc mL d mc ms) {x z : Int32} (hd : decode cc pc = .ok (.idiv, 1)) (hne : ¬ z = 0) (k : Γ (pc + 1) L (aI (x / z) :: st) cs n w) : Γ pc L (aI z :: aI x :: st) cs n w := by
  obtain ⟨p, e, s, m, args, below, meth, c, D, cT, A, Q, n0, ad0, R, rfl, hx, hb, hml, hown, hnm, hts, hK, hA, hRf, hRl, hRc, hRs⟩ := hΓ
  intro ad H locs ls hE hR hL
  exact lv_idiv hx hb hd hne (k ad H locs ls hE hR hL)
theorem qa_irem (hΓ : Ok Γ l y cc mL d mc ms) {x z : Int32} (hd : decode cc pc = .ok (.irem, 1)) (hne : ¬ z = 0) (k : Γ (pc + 1) L (aI (x - x / z * z) :: st) cs n w) : Γ pc L (aI z :: aI x :: st) cs n w := by
  obtain ⟨p, e, s, m, args, below, meth, c, D, cT, A, Q, n0, ad0, R, rfl, hx, hb, hml, hown, hnm, hts, hK, hA, hRf, hRl, hRc, hRs⟩ := hΓ
  intro ad H locs ls hE hR hL
  exact lv_irem hx hb hd hne (k ad H locs ls hE hR hL)
theorem qa_iushr (hΓ : Ok Γ l y cc mL d mc ms) {x z v : Int32} (hd : decode cc pc = .ok (.iushr, 1)) (hv : (x.toUInt32 >>> (z.toUInt32 &&& Int32.toUInt32 31)).toInt32 = v) (k : Γ (pc + 1) L (aI v :: st) cs n w) : Γ pc L (aI z :: aI x :: st) cs n w := by
  obtain ⟨p, e, s, m, args, below, meth, c, D, cT, A, Q, n0, ad0, R, rfl, hx, hb, hml, hown, hnm, hts, hK, hA, hRf, hRl, hRc, hRs⟩ := hΓ
  intro ad H locs ls hE hR hL
  exact lv_iushr hx hb hd hv (k ad H locs ls hE hR hL)
theorem qa_i2b (hΓ : Ok Γ l y cc mL d mc ms) {x v : Int32} (hd : decode cc pc = .ok (.i2b, 1)) (hv : x.toInt8.toInt32 = v) (k : Γ (pc + 1) L (aI v :: st) cs n w) : Γ pc L (aI x :: st) cs n w := by
  obtain ⟨p, e, s, m, args, below, meth, c, D, cT, A, Q, n0, ad0, R, rfl, hx, hb, hml, hown, hnm, hts, hK, hA, hRf, hRl, hRc, hRs⟩ := hΓ
  intro ad H locs ls hE hR hL
  exact lv_i2b hx hb hd hv (k ad H locs ls hE hR hL)
theorem qa_i2c (hΓ : Ok Γ l y cc mL d mc ms) {x v : Int32} (hd : decode cc pc = .ok (.i2c, 1)) (hv : (x.toUInt32 % 65536).toInt32 = v) (k : Γ (pc + 1) L (aI v :: st) cs n w) : Γ pc L (aI x :: st) cs n w := by
  obtain ⟨p, e, s, m, args, below, meth, c, D, cT, A, Q, n0, ad0, R, rfl, hx, hb, hml, hown, hnm, hts, hK, hA, hRf, hRl, hRc, hRs⟩ := hΓ
  intro ad H locs ls hE hR hL
  exact lv_i2c hx hb hd hv (k ad H locs ls hE hR hL)
theorem qa_pop (hΓ : Ok Γ l y cc mL d mc ms) {v : AV} (hd : decode cc pc = .ok (.pop, 1)) (k : Γ (pc + 1) L (st) cs n w) : Γ pc L (v :: st) cs n w := by
  obtain ⟨p, e, s, m, args, below, meth, c, D, cT, A, Q, n0, ad0, R, rfl, hx, hb, hml, hown, hnm, hts, hK, hA, hRf, hRl, hRc, hRs⟩ := hΓ
  intro ad H locs ls hE hR hL
  exact lv_pop hx hb hd (rv_cat ad v) (k ad H locs ls hE hR hL)
theorem qa_dup (hΓ : Ok Γ l y cc mL d mc ms) {v : AV} (hd : decode cc pc = .ok (.dup, 1)) (k : Γ (pc + 1) L (v :: v :: st) cs n w) : Γ pc L (v :: st) cs n w := by
  obtain ⟨p, e, s, m, args, below, meth, c, D, cT, A, Q, n0, ad0, R, rfl, hx, hb, hml, hown, hnm, hts, hK, hA, hRf, hRl, hRc, hRs⟩ := hΓ
  intro ad H locs ls hE hR hL
  exact lv_dup hx hb hd (rv_cat ad v) (k ad H locs ls hE hR hL)
theorem qa_null (hΓ : Ok Γ l y cc mL d mc ms)  (hd : decode cc pc = .ok (.aconst_null, 1)) (k : Γ (pc + 1) L (aN :: st) cs n w) : Γ pc L (st) cs n w := by
  obtain ⟨p, e, s, m, args, below, meth, c, D, cT, A, Q, n0, ad0, R, rfl, hx, hb, hml, hown, hnm, hts, hK, hA, hRf, hRl, hRc, hRs⟩ := hΓ
  intro ad H locs ls hE hR hL
  exact lv_null hx hb hd (k ad H locs ls hE hR hL)
theorem qa_iload_n (hΓ : Ok Γ l y cc mL d mc ms) {j : Fin 4} {x : Int32} (hd : decode cc pc = .ok (.iload_n j, 1)) (hl : lg L j = aI x) (k : Γ (pc + 1) L (aI x :: st) cs n w) : Γ pc L st cs n w := by
  obtain ⟨p, e, s, m, args, below, meth, c, D, cT, A, Q, n0, ad0, R, rfl, hx, hb, hml, hown, hnm, hts, hK, hA, hRf, hRl, hRc, hRs⟩ := hΓ
  intro ad H locs ls hE hR hL
  exact lv_iload_n hx hb hd rfl (hL.2.2 _ _ hl) (k ad H locs ls hE hR hL)
theorem qa_iload (hΓ : Ok Γ l y cc mL d mc ms) {j : Nat} {x : Int32} (hd : decode cc pc = .ok (.iload j, 2)) (hl : lg L j = aI x) (k : Γ (pc + 2) L (aI x :: st) cs n w) : Γ pc L st cs n w := by
  obtain ⟨p, e, s, m, args, below, meth, c, D, cT, A, Q, n0, ad0, R, rfl, hx, hb, hml, hown, hnm, hts, hK, hA, hRf, hRl, hRc, hRs⟩ := hΓ
  intro ad H locs ls hE hR hL
  exact lv_iload hx hb hd (hL.2.2 _ _ hl) (k ad H locs ls hE hR hL)
theorem qa_aload_n (hΓ : Ok Γ l y cc mL d mc ms) {j : Fin 4} {x : Nat} (hd : decode cc pc = .ok (.aload_n j, 1)) (hl : lg L j = aR x) (k : Γ (pc + 1) L (aR x :: st) cs n w) : Γ pc L st cs n w := by
  obtain ⟨p, e, s, m, args, below, meth, c, D, cT, A, Q, n0, ad0, R, rfl, hx, hb, hml, hown, hnm, hts, hK, hA, hRf, hRl, hRc, hRs⟩ := hΓ
  intro ad H locs ls hE hR hL
  exact lv_aload_n hx hb hd rfl (hL.2.2 _ _ hl) (k ad H locs ls hE hR hL)
theorem qa_aload (hΓ : Ok Γ l y cc mL d mc ms) {j : Nat} {x : Nat} (hd : decode cc pc = .ok (.aload j, 2)) (hl : lg L j = aR x) (k : Γ (pc + 2) L (aR x :: st) cs n w) : Γ pc L st cs n w := by
  obtain ⟨p, e, s, m, args, below, meth, c, D, cT, A, Q, n0, ad0, R, rfl, hx, hb, hml, hown, hnm, hts, hK, hA, hRf, hRl, hRc, hRs⟩ := hΓ
  intro ad H locs ls hE hR hL
  exact lv_aload hx hb hd (hL.2.2 _ _ hl) (k ad H locs ls hE hR hL)
theorem qa_aload_nN (hΓ : Ok Γ l y cc mL d mc ms) {j : Fin 4} (hd : decode cc pc = .ok (.aload_n j, 1)) (hl : lg L j = aN) (k : Γ (pc + 1) L (aN :: st) cs n w) : Γ pc L st cs n w := by
  obtain ⟨p, e, s, m, args, below, meth, c, D, cT, A, Q, n0, ad0, R, rfl, hx, hb, hml, hown, hnm, hts, hK, hA, hRf, hRl, hRc, hRs⟩ := hΓ
  intro ad H locs ls hE hR hL
  exact lv_aload_nN hx hb hd rfl (hL.2.2 _ _ hl) (k ad H locs ls hE hR hL)
theorem qa_istore_n (hΓ : Ok Γ l y cc mL d mc ms) {j : Fin 4} {x : Int32} (hd : decode cc pc = .ok (.istore_n j, 1)) (hn : (j : Nat) < mL) (k : Γ (pc + 1) (L.set j (aI x)) st cs n w) : Γ pc L (aI x :: st) cs n w := by
  obtain ⟨p, e, s, m, args, below, meth, c, D, cT, A, Q, n0, ad0, R, rfl, hx, hb, hml, hown, hnm, hts, hK, hA, hRf, hRl, hRc, hRs⟩ := hΓ
  intro ad H locs ls hE hR hL
  exact lv_istore_n hx hb hd rfl hL.has hn rfl (fun ls' h' => k ad H locs ls' hE hR (Lc.set (v := aI x) h'))
theorem qa_istore (hΓ : Ok Γ l y cc mL d mc ms) {j : Nat} {x : Int32} (hd : decode cc pc = .ok (.istore j, 2)) (hn : j < mL) (k : Γ (pc + 2) (L.set j (aI x)) st cs n w) : Γ pc L (aI x :: st) cs n w := by
  obtain ⟨p, e, s, m, args, below, meth, c, D, cT, A, Q, n0, ad0, R, rfl, hx, hb, hml, hown, hnm, hts, hK, hA, hRf, hRl, hRc, hRs⟩ := hΓ
  intro ad H locs ls hE hR hL
  exact lv_istore hx hb hd hL.has hn rfl (fun ls' h' => k ad H locs ls' hE hR (Lc.set (v := aI x) h'))
theorem qa_astore_n (hΓ : Ok Γ l y cc mL d mc ms) {j : Fin 4} {x : Nat} (hd : decode cc pc = .ok (.astore_n j, 1)) (hn : (j : Nat) < mL) (k : Γ (pc + 1) (L.set j (aR x)) st cs n w) : Γ pc L (aR x :: st) cs n w := by
  obtain ⟨p, e, s, m, args, below, meth, c, D, cT, A, Q, n0, ad0, R, rfl, hx, hb, hml, hown, hnm, hts, hK, hA, hRf, hRl, hRc, hRs⟩ := hΓ
  intro ad H locs ls hE hR hL
  exact lv_astore_n hx hb hd rfl hL.has hn rfl (fun ls' h' => k ad H locs ls' hE hR (Lc.set (v := aR x) h'))
theorem qa_astore_nN (hΓ : Ok Γ l y cc mL d mc ms) {j : Fin 4} (hd : decode cc pc = .ok (.astore_n j, 1)) (hn : (j : Nat) < mL) (k : Γ (pc + 1) (L.set j aN) st cs n w) : Γ pc L (aN :: st) cs n w := by
  obtain ⟨p, e, s, m, args, below, meth, c, D, cT, A, Q, n0, ad0, R, rfl, hx, hb, hml, hown, hnm, hts, hK, hA, hRf, hRl, hRc, hRs⟩ := hΓ
  intro ad H locs ls hE hR hL
  exact lv_astore_nN hx hb hd rfl hL.has hn rfl (fun ls' h' => k ad H locs ls' hE hR (Lc.set (v := aN) h'))
theorem qa_iinc (hΓ : Ok Γ l y cc mL d mc ms) {j : Nat} {b : Int} {x v : Int32} (hd : decode cc pc = .ok (.iinc j b, 3)) (hl : lg L j = aI x) (hv : x + Int32.ofInt b = v) (hn : j < mL) (k : Γ (pc + 3) (L.set j (aI v)) st cs n w) : Γ pc L st cs n w := by
  obtain ⟨p, e, s, m, args, below, meth, c, D, cT, A, Q, n0, ad0, R, rfl, hx, hb, hml, hown, hnm, hts, hK, hA, hRf, hRl, hRc, hRs⟩ := hΓ
  intro ad H locs ls hE hR hL
  have hi : (j, Value.int x) ∈ lprs ad L := lprs_mem.mpr ⟨.inl x, hl, rfl⟩
  obtain ⟨i, hi⟩ := List.getElem?_of_mem hi
  exact lv_iinc hx hb hd hL.has hi hv hn rfl (fun ls' h' => k ad H locs ls' hE hR (Lc.set (v := aI v) h'))
theorem qa_icmp_eq (hΓ : Ok Γ l y cc mL d mc ms) {x z : Int32} {off : Int} {tgt : Nat} (hd : decode cc pc = .ok (.if_icmp .eq off, 3)) (ht : (pc : Int) + off = (tgt : Int)) (kt : x = z → Γ tgt L st cs n w) (kf : ¬ x = z → Γ (pc + 3) L st cs n w) : Γ pc L (aI z :: aI x :: st) cs n w := by
  obtain ⟨p, e, s, m, args, below, meth, c, D, cT, A, Q, n0, ad0, R, rfl, hx, hb, hml, hown, hnm, hts, hK, hA, hRf, hRl, hRc, hRs⟩ := hΓ
  intro ad H locs ls hE hR hL
  exact lv_icmp_eq hx hb hd ht (fun h => kt h ad H locs ls hE hR hL) (fun h => kf h ad H locs ls hE hR hL)
theorem qa_icmp_ne (hΓ : Ok Γ l y cc mL d mc ms) {x z : Int32} {off : Int} {tgt : Nat} (hd : decode cc pc = .ok (.if_icmp .ne off, 3)) (ht : (pc : Int) + off = (tgt : Int)) (kt : ¬ x = z → Γ tgt L st cs n w) (kf : x = z → Γ (pc + 3) L st cs n w) : Γ pc L (aI z :: aI x :: st) cs n w := by
  obtain ⟨p, e, s, m, args, below, meth, c, D, cT, A, Q, n0, ad0, R, rfl, hx, hb, hml, hown, hnm, hts, hK, hA, hRf, hRl, hRc, hRs⟩ := hΓ
  intro ad H locs ls hE hR hL
  exact lv_icmp_ne hx hb hd ht (fun h => kt h ad H locs ls hE hR hL) (fun h => kf h ad H locs ls hE hR hL)
theorem qa_icmp_lt (hΓ : Ok Γ l y cc mL d mc ms) {x z : Int32} {off : Int} {tgt : Nat} (hd : decode cc pc = .ok (.if_icmp .lt off, 3)) (ht : (pc : Int) + off = (tgt : Int)) (kt : x < z → Γ tgt L st cs n w) (kf : ¬ x < z → Γ (pc + 3) L st cs n w) : Γ pc L (aI z :: aI x :: st) cs n w := by
  obtain ⟨p, e, s, m, args, below, meth, c, D, cT, A, Q, n0, ad0, R, rfl, hx, hb, hml, hown, hnm, hts, hK, hA, hRf, hRl, hRc, hRs⟩ := hΓ
  intro ad H locs ls hE hR hL
  exact lv_icmp_lt hx hb hd ht (fun h => kt h ad H locs ls hE hR hL) (fun h => kf h ad H locs ls hE hR hL)
theorem qa_icmp_ge (hΓ : Ok Γ l y cc mL d mc ms) {x z : Int32} {off : Int} {tgt : Nat} (hd : decode cc pc = .ok (.if_icmp .ge off, 3)) (ht : (pc : Int) + off = (tgt : Int)) (kt : z ≤ x → Γ tgt L st cs n w) (kf : ¬ z ≤ x → Γ (pc + 3) L st cs n w) : Γ pc L (aI z :: aI x :: st) cs n w := by
  obtain ⟨p, e, s, m, args, below, meth, c, D, cT, A, Q, n0, ad0, R, rfl, hx, hb, hml, hown, hnm, hts, hK, hA, hRf, hRl, hRc, hRs⟩ := hΓ
  intro ad H locs ls hE hR hL
  exact lv_icmp_ge hx hb hd ht (fun h => kt h ad H locs ls hE hR hL) (fun h => kf h ad H locs ls hE hR hL)
theorem qa_icmp_gt (hΓ : Ok Γ l y cc mL d mc ms) {x z : Int32} {off : Int} {tgt : Nat} (hd : decode cc pc = .ok (.if_icmp .gt off, 3)) (ht : (pc : Int) + off = (tgt : Int)) (kt : z < x → Γ tgt L st cs n w) (kf : ¬ z < x → Γ (pc + 3) L st cs n w) : Γ pc L (aI z :: aI x :: st) cs n w := by
  obtain ⟨p, e, s, m, args, below, meth, c, D, cT, A, Q, n0, ad0, R, rfl, hx, hb, hml, hown, hnm, hts, hK, hA, hRf, hRl, hRc, hRs⟩ := hΓ
  intro ad H locs ls hE hR hL
  exact lv_icmp_gt hx hb hd ht (fun h => kt h ad H locs ls hE hR hL) (fun h => kf h ad H locs ls hE hR hL)
theorem qa_icmp_le (hΓ : Ok Γ l y cc mL d mc ms) {x z : Int32} {off : Int} {tgt : Nat} (hd : decode cc pc = .ok (.if_icmp .le off, 3)) (ht : (pc : Int) + off = (tgt : Int)) (kt : x ≤ z → Γ tgt L st cs n w) (kf : ¬ x ≤ z → Γ (pc + 3) L st cs n w) : Γ pc L (aI z :: aI x :: st) cs n w := by
  obtain ⟨p, e, s, m, args, below, meth, c, D, cT, A, Q, n0, ad0, R, rfl, hx, hb, hml, hown, hnm, hts, hK, hA, hRf, hRl, hRc, hRs⟩ := hΓ
  intro ad H locs ls hE hR hL
  exact lv_icmp_le hx hb hd ht (fun h => kt h ad H locs ls hE hR hL) (fun h => kf h ad H locs ls hE hR hL)
theorem qa_if_eq (hΓ : Ok Γ l y cc mL d mc ms) {x : Int32} {off : Int} {tgt : Nat} (hd : decode cc pc = .ok (.ifCond .eq off, 3)) (ht : (pc : Int) + off = (tgt : Int)) (kt : x = 0 → Γ tgt L st cs n w) (kf : ¬ x = 0 → Γ (pc + 3) L st cs n w) : Γ pc L (aI x :: st) cs n w := by
  obtain ⟨p, e, s, m, args, below, meth, c, D, cT, A, Q, n0, ad0, R, rfl, hx, hb, hml, hown, hnm, hts, hK, hA, hRf, hRl, hRc, hRs⟩ := hΓ
  intro ad H locs ls hE hR hL
  exact lv_if_eq hx hb hd ht (fun h => kt h ad H locs ls hE hR hL) (fun h => kf h ad H locs ls hE hR hL)
theorem qa_if_ne (hΓ : Ok Γ l y cc mL d mc ms) {x : Int32} {off : Int} {tgt : Nat} (hd : decode cc pc = .ok (.ifCond .ne off, 3)) (ht : (pc : Int) + off = (tgt : Int)) (kt : ¬ x = 0 → Γ tgt L st cs n w) (kf : x = 0 → Γ (pc + 3) L st cs n w) : Γ pc L (aI x :: st) cs n w := by
  obtain ⟨p, e, s, m, args, below, meth, c, D, cT, A, Q, n0, ad0, R, rfl, hx, hb, hml, hown, hnm, hts, hK, hA, hRf, hRl, hRc, hRs⟩ := hΓ
  intro ad H locs ls hE hR hL
  exact lv_if_ne hx hb hd ht (fun h => kt h ad H locs ls hE hR hL) (fun h => kf h ad H locs ls hE hR hL)
theorem qa_if_lt (hΓ : Ok Γ l y cc mL d mc ms) {x : Int32} {off : Int} {tgt : Nat} (hd : decode cc pc = .ok (.ifCond .lt off, 3)) (ht : (pc : Int) + off = (tgt : Int)) (kt : x < 0 → Γ tgt L st cs n w) (kf : ¬ x < 0 → Γ (pc + 3) L st cs n w) : Γ pc L (aI x :: st) cs n w := by
  obtain ⟨p, e, s, m, args, below, meth, c, D, cT, A, Q, n0, ad0, R, rfl, hx, hb, hml, hown, hnm, hts, hK, hA, hRf, hRl, hRc, hRs⟩ := hΓ
  intro ad H locs ls hE hR hL
  exact lv_if_lt hx hb hd ht (fun h => kt h ad H locs ls hE hR hL) (fun h => kf h ad H locs ls hE hR hL)
theorem qa_if_ge (hΓ : Ok Γ l y cc mL d mc ms) {x : Int32} {off : Int} {tgt : Nat} (hd : decode cc pc = .ok (.ifCond .ge off, 3)) (ht : (pc : Int) + off = (tgt : Int)) (kt : 0 ≤ x → Γ tgt L st cs n w) (kf : ¬ 0 ≤ x → Γ (pc + 3) L st cs n w) : Γ pc L (aI x :: st) cs n w := by
  obtain ⟨p, e, s, m, args, below, meth, c, D, cT, A, Q, n0, ad0, R, rfl, hx, hb, hml, hown, hnm, hts, hK, hA, hRf, hRl, hRc, hRs⟩ := hΓ
  intro ad H locs ls hE hR hL
  exact lv_if_ge hx hb hd ht (fun h => kt h ad H locs ls hE hR hL) (fun h => kf h ad H locs ls hE hR hL)
theorem qa_if_gt (hΓ : Ok Γ l y cc mL d mc ms) {x : Int32} {off : Int} {tgt : Nat} (hd : decode cc pc = .ok (.ifCond .gt off, 3)) (ht : (pc : Int) + off = (tgt : Int)) (kt : 0 < x → Γ tgt L st cs n w) (kf : ¬ 0 < x → Γ (pc + 3) L st cs n w) : Γ pc L (aI x :: st) cs n w := by
  obtain ⟨p, e, s, m, args, below, meth, c, D, cT, A, Q, n0, ad0, R, rfl, hx, hb, hml, hown, hnm, hts, hK, hA, hRf, hRl, hRc, hRs⟩ := hΓ
  intro ad H locs ls hE hR hL
  exact lv_if_gt hx hb hd ht (fun h => kt h ad H locs ls hE hR hL) (fun h => kf h ad H locs ls hE hR hL)
theorem qa_if_le (hΓ : Ok Γ l y cc mL d mc ms) {x : Int32} {off : Int} {tgt : Nat} (hd : decode cc pc = .ok (.ifCond .le off, 3)) (ht : (pc : Int) + off = (tgt : Int)) (kt : x ≤ 0 → Γ tgt L st cs n w) (kf : ¬ x ≤ 0 → Γ (pc + 3) L st cs n w) : Γ pc L (aI x :: st) cs n w := by
  obtain ⟨p, e, s, m, args, below, meth, c, D, cT, A, Q, n0, ad0, R, rfl, hx, hb, hml, hown, hnm, hts, hK, hA, hRf, hRl, hRc, hRs⟩ := hΓ
  intro ad H locs ls hE hR hL
  exact lv_if_le hx hb hd ht (fun h => kt h ad H locs ls hE hR hL) (fun h => kf h ad H locs ls hE hR hL)
theorem qa_goto (hΓ : Ok Γ l y cc mL d mc ms) {off : Int} {tgt : Nat} (hd : decode cc pc = .ok (.goto off, 3)) (ht : (pc : Int) + off = (tgt : Int)) (k : Γ tgt L st cs n w) : Γ pc L st cs n w := by
  obtain ⟨p, e, s, m, args, below, meth, c, D, cT, A, Q, n0, ad0, R, rfl, hx, hb, hml, hown, hnm, hts, hK, hA, hRf, hRl, hRc, hRs⟩ := hΓ
  intro ad H locs ls hE hR hL
  exact lv_goto hx hb hd ht (k ad H locs ls hE hR hL)
theorem qa_dup2 (hΓ : Ok Γ l y cc mL d mc ms) {u v : AV} (hd : decode cc pc = .ok (.dup2, 1)) (k : Γ (pc + 1) L (u :: v :: u :: v :: st) cs n w) : Γ pc L (u :: v :: st) cs n w := by
  obtain ⟨p, e, s, m, args, below, meth, c, D, cT, A, Q, n0, ad0, R, rfl, hx, hb, hml, hown, hnm, hts, hK, hA, hRf, hRl, hRc, hRs⟩ := hΓ
  intro ad H locs ls hE hR hL
  exact lv_dup2_11 hx hb hd (rv_cat ad u) (rv_cat ad v) (k ad H locs ls hE hR hL)
theorem qa_ifnull (hΓ : Ok Γ l y cc mL d mc ms) {j : Nat} {off : Int} (hd : decode cc pc = .ok (.ifnull off, 3)) (k : Γ (pc + 3) L st cs n w) : Γ pc L (aR j :: st) cs n w := by
  obtain ⟨p, e, s, m, args, below, meth, c, D, cT, A, Q, n0, ad0, R, rfl, hx, hb, hml, hown, hnm, hts, hK, hA, hRf, hRl, hRc, hRs⟩ := hΓ
  intro ad H locs ls hE hR hL
  exact lv_ifnull hx hb hd (k ad H locs ls hE hR hL)
theorem qa_ifnullN (hΓ : Ok Γ l y cc mL d mc ms) {off : Int} {tgt : Nat} (hd : decode cc pc = .ok (.ifnull off, 3)) (ht : (pc : Int) + off = (tgt : Int)) (k : Γ tgt L st cs n w) : Γ pc L (aN :: st) cs n w := by
  obtain ⟨p, e, s, m, args, below, meth, c, D, cT, A, Q, n0, ad0, R, rfl, hx, hb, hml, hown, hnm, hts, hK, hA, hRf, hRl, hRc, hRs⟩ := hΓ
  intro ad H locs ls hE hR hL
  exact lv_ifnullN hx hb hd ht (k ad H locs ls hE hR hL)
theorem qa_ifnonnull (hΓ : Ok Γ l y cc mL d mc ms) {j : Nat} {off : Int} {tgt : Nat} (hd : decode cc pc = .ok (.ifnonnull off, 3)) (ht : (pc : Int) + off = (tgt : Int)) (k : Γ tgt L st cs n w) : Γ pc L (aR j :: st) cs n w := by
  obtain ⟨p, e, s, m, args, below, meth, c, D, cT, A, Q, n0, ad0, R, rfl, hx, hb, hml, hown, hnm, hts, hK, hA, hRf, hRl, hRc, hRs⟩ := hΓ
  intro ad H locs ls hE hR hL
  exact lv_ifnonnull hx hb hd ht (k ad H locs ls hE hR hL)
theorem qa_ifnonnullN (hΓ : Ok Γ l y cc mL d mc ms) {off : Int} (hd : decode cc pc = .ok (.ifnonnull off, 3)) (k : Γ (pc + 3) L st cs n w) : Γ pc L (aN :: st) cs n w := by
  obtain ⟨p, e, s, m, args, below, meth, c, D, cT, A, Q, n0, ad0, R, rfl, hx, hb, hml, hown, hnm, hts, hK, hA, hRf, hRl, hRc, hRs⟩ := hΓ
  intro ad H locs ls hE hR hL
  exact lv_ifnonnullN hx hb hd (k ad H locs ls hE hR hL)
theorem qa_tabOut (hΓ : Ok Γ l y cc mL d mc ms) {dflt lo hi : Int} {offs : Array Int} {len : Nat} {x : Int32} {tgt : Nat} (hd : decode cc pc = .ok (.tableswitch dflt lo hi offs, len)) (h : x.toInt < lo ∨ hi < x.toInt) (ht : (pc : Int) + dflt = (tgt : Int)) (k : Γ tgt L st cs n w) : Γ pc L (aI x :: st) cs n w := by
  obtain ⟨p, e, s, m, args, below, meth, c, D, cT, A, Q, n0, ad0, R, rfl, hx, hb, hml, hown, hnm, hts, hK, hA, hRf, hRl, hRc, hRs⟩ := hΓ
  intro ad H locs ls hE hR hL
  exact lv_tableOut hx hb hd h ht (k ad H locs ls hE hR hL)
theorem qa_tabIn (hΓ : Ok Γ l y cc mL d mc ms) {dflt lo hi : Int} {offs : Array Int} {len : Nat} {x : Int32} {off : Int} {tgt : Nat} (hd : decode cc pc = .ok (.tableswitch dflt lo hi offs, len)) (h1 : ¬ x.toInt < lo) (h2 : ¬ hi < x.toInt) (ho : offs[(x.toInt - lo).toNat]? = some off) (ht : (pc : Int) + off = (tgt : Int)) (k : Γ tgt L st cs n w) : Γ pc L (aI x :: st) cs n w := by
  obtain ⟨p, e, s, m, args, below, meth, c, D, cT, A, Q, n0, ad0, R, rfl, hx, hb, hml, hown, hnm, hts, hK, hA, hRf, hRl, hRc, hRs⟩ := hΓ
  intro ad H locs ls hE hR hL
  exact lv_tableIn hx hb hd h1 h2 ho ht (k ad H locs ls hE hR hL)
theorem qa_lookup (hΓ : Ok Γ l y cc mL d mc ms) {dflt : Int} {ps : Array (Int × Int)} {len : Nat} {x : Int32} {off : Int} {tgt : Nat} (hd : decode cc pc = .ok (.lookupswitch dflt ps, len)) (hp : (ps.toList.zip (ps.toList.drop 1)).all (fun (a, next) => a.1 < next.1) = true) (ho : Op.lookupswitch.offset ps.toList dflt x.toInt = off) (ht : (pc : Int) + off = (tgt : Int)) (k : Γ tgt L st cs n w) : Γ pc L (aI x :: st) cs n w := by
  obtain ⟨p, e, s, m, args, below, meth, c, D, cT, A, Q, n0, ad0, R, rfl, hx, hb, hml, hown, hnm, hts, hK, hA, hRf, hRl, hRc, hRs⟩ := hΓ
  intro ad H locs ls hE hR hL
  exact lv_lookup hx hb hd hp ho ht (k ad H locs ls hE hR hL)
theorem qa_ldc (hΓ : Ok Γ l y cc mL d mc ms) {j : Nat} {v : Int32} (hd : decode cc pc = .ok (.ldc j, 2)) (hc : Cond.constant y.cls j v ∈ wsL_law) (k : Γ (pc + 2) L (aI v :: st) cs n w) : Γ pc L st cs n w := by
  obtain ⟨p, e, s, m, args, below, meth, c, D, cT, A, Q, n0, ad0, R, rfl, hx, hb, hml, hown, hnm, hts, hK, hA, hRf, hRl, hRc, hRs⟩ := hΓ
  intro ad H locs ls hE hR hL
  exact lv_ldc hx hb hown (hts _ hc) hd (k ad H locs ls hE hR hL)
end
/-- a field by its place in the pool: kind ci of vwCl, slot k, final or not, its type -/
def FLK (own : String) (idx ci k : Nat) (fin : Bool) (ty : FieldType) : Prop := ∃ (C : String) (T : u_T) (N : Nat) (ty0 : Nat → FieldType), vwCl[ci]? = some (C, T, N) ∧ (∀ w ∈ u_ws C T N, w ∈ wsL_law) ∧ k < N ∧ Cond.fieldLink own idx (T k).1 (T k).2.1 (T k).2.2.1 ∈ wsL_law ∧ (∀ j, j < N → parseFieldDescriptor (T j).2.2.1 = some (ty0 j)) ∧ (∀ a, a < N → ∀ b, b < N → a ≠ b → (T a).2.1 ≠ (T b).2.1) ∧ (T k).2.2.2 = fin ∧ parseFieldDescriptor (T k).2.2.1 = some ty ∧ (T k).1 = C
/-- the same array, as far as it goes -/
def cEq (c c' : AC) : Prop := c = c' ∨ ∃ t n f g, c = cArr t n f ∧ c' = cArr t n g ∧ ∀ j, j < n → f j = g j
theorem vp_cell_ext {cA : ClassId} {n : Nat} {f g : Nat → Int32} (h : ∀ j, j < n → f j = g j) : vp_cell cA (n, .inl f) = vp_cell cA (n, .inl g) := by
  rw [vp_cell_i, vp_cell_i]
  unfold arrV
  congr 1
  congr 1
  funext j
  show Value.int (f j.val) = Value.int (g j.val)
  rw [h j.val j.isLt]
theorem Rp.ext {D : va_G} {cT : Nat → ClassId} {A : Nat → Prop} {s : State} {ad : Nat → Nat} {n : Nat} {w w' : Nat → AC} {H : Heap} {locs : List Loc} (h : Rp D cT A s ad n w H locs) (he : ∀ k, k < n → cEq (w k) (w' k)) : Rp D cT A s ad n w' H locs := by
  obtain ⟨hP, hD, hS⟩ := h
  have key : ∀ (k : Nat) (q : Nat × va_E), (wsW cT ad n w')[k]? = some q → k < n ∧ q = (ad k, rc cT ad (w' k)) := by
    intro k q hq
    rcases Nat.lt_or_ge k n with hk | hk
    · rw [wsW_get hk] at hq
      exact ⟨hk, (Option.some.inj hq).symm⟩
    · rw [List.getElem?_eq_none (by simp [wsW]; omega)] at hq
      cases hq
  refine ⟨fun k q hq => ?_, ⟨fun i j p q hi hj hpq => ?_, fun k q hq => ?_⟩, hS⟩
  · obtain ⟨hk, rfl⟩ := key k q hq
    have h1 := hP k _ (wsW_get hk)
    rcases he k hk with e | ⟨t, m, f, g, e1, e2, e3⟩
    · rw [← e]
      exact h1
    · rw [e1] at h1
      rw [e2]
      show H[ad k]? = some (vp_cell (cT t) (m, .inl g))
      rw [← vp_cell_ext e3]
      exact h1
  · obtain ⟨hi', rfl⟩ := key i p hi
    obtain ⟨hj', rfl⟩ := key j q hj
    exact hD.1 i j _ _ (wsW_get hi') (wsW_get hj') hpq
  · obtain ⟨hk, rfl⟩ := key k q hq
    exact hD.2 k (ad k, rc cT ad (w k)) (wsW_get hk)
theorem Rp.set {D : va_G} {cT : Nat → ClassId} {A : Nat → Prop} {s : State} {ad : Nat → Nat} {n k : Nat} {w : Nat → AC} {c : AC} {H : Heap} {locs : List Loc} (hk : k < n) (h1 : va_P D vwCl ((wsW cT ad n w).set k (ad k, rc cT ad c)) H) (h2 : va_D A ((wsW cT ad n w).set k (ad k, rc cT ad c))) (h3 : va_S A s.heap H locs) : Rp D cT A s ad n (upw w k c) H locs := by
  rw [wsW_set c hk] at h1 h2
  exact ⟨h1, h2, h3⟩
theorem ty_int (cT : Nat → ClassId) : (tysG cT)[0]? = some (cT 0, .int) := rfl
theorem ty_byte (cT : Nat → ClassId) : (tysG cT)[1]? = some (cT 1, .byte) := rfl
theorem ty_char (cT : Nat → ClassId) : (tysG cT)[2]? = some (cT 2, .char) := rfl
theorem ty_ref (cT : Nat → ClassId) : (tysG cT)[3]? = some (cT 3, .object "RelayBank$Bank") := rfl
section
variable {Γ : Gm} {l : Launch} {y : MethodName} {cc : ByteArray} {mL d mc ms : Nat} {pc n : Nat} {L st : List AV} {cs : Nat × Nat} {w : Nat → AC}
theorem qa_ext (hΓ : Ok Γ l y cc mL d mc ms) {w' : Nat → AC} (he : ∀ k, k < n → cEq (w k) (w' k)) (k : Γ pc L st cs n w') : Γ pc L st cs n w := by
  obtain ⟨p, e, s, m, args, below, meth, c, D, cT, A, Q, n0, ad0, R, rfl, hx, hb, hml, hown, hnm, hts, hK, hA, hRf, hRl, hRc, hRs⟩ := hΓ
  intro ad H locs ls hE hR hL
  exact k ad H locs ls hE (hR.ext he) hL
theorem qa_get (hΓ : Ok Γ l y cc mL d mc ms) {idx ci k k0 : Nat} {fin : Bool} {ty : FieldType} {fs : List AV} {v : AV} (hd : decode cc pc = .ok (.getfield idx, 3)) (hf : FLK y.cls idx ci k fin ty) (hk : k0 < n) (hw : w k0 = cObj ci fs) (hv : fs[k]? = some v) (kk : Γ (pc + 3) L (v :: st) cs n w) : Γ pc L (aR k0 :: st) cs n w := by
  obtain ⟨p, e, s, m, args, below, meth, c, D, cT, A, Q, n0, ad0, R, rfl, hx, hb, hml, hown, hnm, hts, hK, hA, hRf, hRl, hRc, hRs⟩ := hΓ
  intro ad H locs ls hE hR hL
  obtain ⟨C, T, N, ty0, f1, f2, f3, f4, f5, f6, f7, f8, f9⟩ := hf
  have he := wsW_get (cT := cT) (ad := ad) (w := w) hk
  rw [hw] at he
  exact va_get (D := D) (ci := ci) (v := rv ad v) (C := C) (T := T) (N := N) hx hb hts f2 hown hK.1 hR.1 k0 he f1 k f3 (hts _ f4) (fun _ h9 => h9) (by rw [List.getElem?_map, hv]; rfl) hd (kk ad H locs ls hE hR hL)
theorem qa_puti (hΓ : Ok Γ l y cc mL d mc ms) {idx ci k k0 : Nat} {fs : List AV} {x : Int32} (hd : decode cc pc = .ok (.putfield idx, 3)) (hf : FLK y.cls idx ci k false .int) (hk : k0 < n) (hw : w k0 = cObj ci fs) (hl : k < fs.length) (kk : Γ (pc + 3) L st cs n (upw w k0 (cObj ci (fs.set k (aI x))))) : Γ pc L (aI x :: aR k0 :: st) cs n w := by
  obtain ⟨p, e, s, m, args, below, meth, c, D, cT, A, Q, n0, ad0, R, rfl, hx, hb, hml, hown, hnm, hts, hK, hA, hRf, hRl, hRc, hRs⟩ := hΓ
  intro ad H locs ls hE hR hL
  obtain ⟨C, T, N, ty0, f1, f2, f3, f4, f5, f6, f7, f8, f9⟩ := hf
  have he := wsW_get (cT := cT) (ad := ad) (w := w) hk
  rw [hw] at he
  refine va_put (D := D) (ci := ci) (v := .int x) (ty := .int) (C := C) (T := T) (N := N) hx hb hts f2 ty0 f5 f6 hown hK.1 hR.1 hR.2.1 hR.2.2 k0 he f1 k f3 (hts _ f4) (fun _ h9 => h9) f7 f8 rfl rfl (by rw [List.length_map]; exact hl) hd (fun H1 locs1 g1 g2 g3 => kk ad H1 locs1 ls hE (Rp.set hk ?_ ?_ g3) hL)
  · show va_P D vwCl ((wsW cT ad n w).set k0 (ad k0, .inr (ci, (fs.set k (aI x)).map (rv ad)))) H1
    rw [List.map_set]
    exact g1
  · show va_D A ((wsW cT ad n w).set k0 (ad k0, .inr (ci, (fs.set k (aI x)).map (rv ad))))
    rw [List.map_set]
    exact g2
theorem qa_putF (hΓ : Ok Γ l y cc mL d mc ms) {idx ci k k0 : Nat} {ty : FieldType} {fs : List AV} {v : AV} (hd : decode cc pc = .ok (.putfield idx, 3)) (hf : FLK y.cls idx ci k true ty) (hi : y.name = "<init>") (hC : ∀ C T N, vwCl[ci]? = some (C, T, N) → C = y.cls) (hn : ∀ ad : Nat → Nat, narrow ty (rv ad v) = rv ad v ∧ fits ty (rv ad v) = true) (hk : k0 < n) (hw : w k0 = cObj ci fs) (hl : k < fs.length) (kk : Γ (pc + 3) L st cs n (upw w k0 (cObj ci (fs.set k v)))) : Γ pc L (v :: aR k0 :: st) cs n w := by
  obtain ⟨p, e, s, m, args, below, meth, c, D, cT, A, Q, n0, ad0, R, rfl, hx, hb, hml, hown, hnm, hts, hK, hA, hRf, hRl, hRc, hRs⟩ := hΓ
  intro ad H locs ls hE hR hL
  obtain ⟨C, T, N, ty0, f1, f2, f3, f4, f5, f6, f7, f8, f9⟩ := hf
  have he := wsW_get (cT := cT) (ad := ad) (w := w) hk
  rw [hw] at he
  refine va_putF (D := D) (ci := ci) (v := rv ad v) (ty := ty) (C := C) (T := T) (N := N) hx hb hts f2 ty0 f5 f6 hown hK.1 hR.1 hR.2.1 hR.2.2 k0 he f1 k f3 (hts _ f4) (fun _ h9 => h9) f7 (hnm.trans hi) (f9.trans (hC C T N f1)) f8 (hn ad).1 (hn ad).2 (by rw [List.length_map]; exact hl) hd (fun H1 locs1 g1 g2 g3 => kk ad H1 locs1 ls hE (Rp.set hk ?_ ?_ g3) hL)
  · show va_P D vwCl ((wsW cT ad n w).set k0 (ad k0, .inr (ci, (fs.set k v).map (rv ad)))) H1
    rw [List.map_set]
    exact g1
  · show va_D A ((wsW cT ad n w).set k0 (ad k0, .inr (ci, (fs.set k v).map (rv ad))))
    rw [List.map_set]
    exact g2
theorem qa_iald (hΓ : Ok Γ l y cc mL d mc ms) {k0 N : Nat} {f : Nat → Int32} {i : Int32} (hd : decode cc pc = .ok (.iaload, 1)) (hk : k0 < n) (hw : w k0 = cArr 0 N f) (hin : vp_in i N) (kk : Γ (pc + 1) L (aI (f i.toNatClampNeg) :: st) cs n w) : Γ pc L (aI i :: aR k0 :: st) cs n w := by
  obtain ⟨p, e, s, m, args, below, meth, c, D, cT, A, Q, n0, ad0, R, rfl, hx, hb, hml, hown, hnm, hts, hK, hA, hRf, hRl, hRc, hRs⟩ := hΓ
  intro ad H locs ls hE hR hL
  have he := wsW_get (cT := cT) (ad := ad) (w := w) hk
  rw [hw] at he
  exact va_iald hx hb hK.1 hR.1 k0 0 he (ty_int cT) hin hd (kk ad H locs ls hE hR hL)
theorem qa_iast (hΓ : Ok Γ l y cc mL d mc ms) {k0 N : Nat} {f : Nat → Int32} {i x : Int32} (hd : decode cc pc = .ok (.iastore, 1)) (hk : k0 < n) (hw : w k0 = cArr 0 N f) (hin : vp_in i N) (kk : Γ (pc + 1) L st cs n (upw w k0 (cArr 0 N (upd f i.toNatClampNeg (x))))) : Γ pc L (aI x :: aI i :: aR k0 :: st) cs n w := by
  obtain ⟨p, e, s, m, args, below, meth, c, D, cT, A, Q, n0, ad0, R, rfl, hx, hb, hml, hown, hnm, hts, hK, hA, hRf, hRl, hRc, hRs⟩ := hΓ
  intro ad H locs ls hE hR hL
  have he := wsW_get (cT := cT) (ad := ad) (w := w) hk
  rw [hw] at he
  exact va_iast hx hb hK.1 hR.1 hR.2.1 hR.2.2 k0 0 he (ty_int cT) hin hd (fun H1 locs1 g1 g2 g3 => kk ad H1 locs1 ls hE (Rp.set hk g1 g2 g3) hL)
theorem qa_bald (hΓ : Ok Γ l y cc mL d mc ms) {k0 N : Nat} {f : Nat → Int32} {i : Int32} (hd : decode cc pc = .ok (.baload, 1)) (hk : k0 < n) (hw : w k0 = cArr 1 N f) (hin : vp_in i N) (kk : Γ (pc + 1) L (aI (f i.toNatClampNeg) :: st) cs n w) : Γ pc L (aI i :: aR k0 :: st) cs n w := by
  obtain ⟨p, e, s, m, args, below, meth, c, D, cT, A, Q, n0, ad0, R, rfl, hx, hb, hml, hown, hnm, hts, hK, hA, hRf, hRl, hRc, hRs⟩ := hΓ
  intro ad H locs ls hE hR hL
  have he := wsW_get (cT := cT) (ad := ad) (w := w) hk
  rw [hw] at he
  exact va_bald hx hb hK.1 hR.1 k0 1 he (ty_byte cT) hin hd (kk ad H locs ls hE hR hL)
theorem qa_bast (hΓ : Ok Γ l y cc mL d mc ms) {k0 N : Nat} {f : Nat → Int32} {i x : Int32} (hd : decode cc pc = .ok (.bastore, 1)) (hk : k0 < n) (hw : w k0 = cArr 1 N f) (hin : vp_in i N) (kk : Γ (pc + 1) L st cs n (upw w k0 (cArr 1 N (upd f i.toNatClampNeg (vp_nar .byte x))))) : Γ pc L (aI x :: aI i :: aR k0 :: st) cs n w := by
  obtain ⟨p, e, s, m, args, below, meth, c, D, cT, A, Q, n0, ad0, R, rfl, hx, hb, hml, hown, hnm, hts, hK, hA, hRf, hRl, hRc, hRs⟩ := hΓ
  intro ad H locs ls hE hR hL
  have he := wsW_get (cT := cT) (ad := ad) (w := w) hk
  rw [hw] at he
  exact va_bast hx hb hK.1 hR.1 hR.2.1 hR.2.2 k0 1 he (ty_byte cT) hin hd (fun H1 locs1 g1 g2 g3 => kk ad H1 locs1 ls hE (Rp.set hk g1 g2 g3) hL)
theorem qa_cald (hΓ : Ok Γ l y cc mL d mc ms) {k0 N : Nat} {f : Nat → Int32} {i : Int32} (hd : decode cc pc = .ok (.caload, 1)) (hk : k0 < n) (hw : w k0 = cArr 2 N f) (hin : vp_in i N) (kk : Γ (pc + 1) L (aI (f i.toNatClampNeg) :: st) cs n w) : Γ pc L (aI i :: aR k0 :: st) cs n w := by
  obtain ⟨p, e, s, m, args, below, meth, c, D, cT, A, Q, n0, ad0, R, rfl, hx, hb, hml, hown, hnm, hts, hK, hA, hRf, hRl, hRc, hRs⟩ := hΓ
  intro ad H locs ls hE hR hL
  have he := wsW_get (cT := cT) (ad := ad) (w := w) hk
  rw [hw] at he
  exact va_cald hx hb hK.1 hR.1 k0 2 he (ty_char cT) hin hd (kk ad H locs ls hE hR hL)
theorem qa_cast (hΓ : Ok Γ l y cc mL d mc ms) {k0 N : Nat} {f : Nat → Int32} {i x : Int32} (hd : decode cc pc = .ok (.castore, 1)) (hk : k0 < n) (hw : w k0 = cArr 2 N f) (hin : vp_in i N) (kk : Γ (pc + 1) L st cs n (upw w k0 (cArr 2 N (upd f i.toNatClampNeg (vp_nar .char x))))) : Γ pc L (aI x :: aI i :: aR k0 :: st) cs n w := by
  obtain ⟨p, e, s, m, args, below, meth, c, D, cT, A, Q, n0, ad0, R, rfl, hx, hb, hml, hown, hnm, hts, hK, hA, hRf, hRl, hRc, hRs⟩ := hΓ
  intro ad H locs ls hE hR hL
  have he := wsW_get (cT := cT) (ad := ad) (w := w) hk
  rw [hw] at he
  exact va_cast hx hb hK.1 hR.1 hR.2.1 hR.2.2 k0 2 he (ty_char cT) hin hd (fun H1 locs1 g1 g2 g3 => kk ad H1 locs1 ls hE (Rp.set hk g1 g2 g3) hL)
theorem qa_alen (hΓ : Ok Γ l y cc mL d mc ms) {k0 t N : Nat} {f : Nat → Int32} {v : Int32} (hd : decode cc pc = .ok (.arraylength, 1)) (hk : k0 < n) (hw : w k0 = cArr t N f) (ht : t < 3) (hv : nI N = v) (kk : Γ (pc + 1) L (aI v :: st) cs n w) : Γ pc L (aR k0 :: st) cs n w := by
  obtain ⟨p, e, s, m, args, below, meth, c, D, cT, A, Q, n0, ad0, R, rfl, hx, hb, hml, hown, hnm, hts, hK, hA, hRf, hRl, hRc, hRs⟩ := hΓ
  intro ad H locs ls hE hR hL
  have he := wsW_get (cT := cT) (ad := ad) (w := w) hk
  rw [hw] at he
  rcases (show t = 0 ∨ t = 1 ∨ t = 2 by omega) with rfl | rfl | rfl
  · exact va_alen hx hb hK.1 hR.1 k0 0 he (ty_int cT) hv hd (kk ad H locs ls hE hR hL)
  · exact va_alen hx hb hK.1 hR.1 k0 1 he (ty_byte cT) hv hd (kk ad H locs ls hE hR hL)
  · exact va_alen hx hb hK.1 hR.1 k0 2 he (ty_char cT) hv hd (kk ad H locs ls hE hR hL)
theorem qa_alenR (hΓ : Ok Γ l y cc mL d mc ms) {k0 N : Nat} {f : Nat → Option Nat} {v : Int32} (hd : decode cc pc = .ok (.arraylength, 1)) (hk : k0 < n) (hw : w k0 = cRef N f) (hv : nI N = v) (kk : Γ (pc + 1) L (aI v :: st) cs n w) : Γ pc L (aR k0 :: st) cs n w := by
  obtain ⟨p, e, s, m, args, below, meth, c, D, cT, A, Q, n0, ad0, R, rfl, hx, hb, hml, hown, hnm, hts, hK, hA, hRf, hRl, hRc, hRs⟩ := hΓ
  intro ad H locs ls hE hR hL
  have he := wsW_get (cT := cT) (ad := ad) (w := w) hk
  rw [hw] at he
  exact va_alen hx hb hK.1 hR.1 k0 3 he (ty_ref cT) hv hd (kk ad H locs ls hE hR hL)
theorem qa_aald (hΓ : Ok Γ l y cc mL d mc ms) {k0 N : Nat} {f : Nat → Option Nat} {i : Int32} (hd : decode cc pc = .ok (.aaload, 1)) (hk : k0 < n) (hw : w k0 = cRef N f) (hin : vp_in i N) (kk : Γ (pc + 1) L (some (.inr (f i.toNatClampNeg)) :: st) cs n w) : Γ pc L (aI i :: aR k0 :: st) cs n w := by
  obtain ⟨p, e, s, m, args, below, meth, c, D, cT, A, Q, n0, ad0, R, rfl, hx, hb, hml, hown, hnm, hts, hK, hA, hRf, hRl, hRc, hRs⟩ := hΓ
  intro ad H locs ls hE hR hL
  have he := wsW_get (cT := cT) (ad := ad) (w := w) hk
  rw [hw] at he
  have e : va_rf ((f i.toNatClampNeg).map ad) = rv ad (some (.inr (f i.toNatClampNeg))) := by
    cases f i.toNatClampNeg <;> rfl
  refine va_aldq hx hb hK.1 hR.1 k0 3 he (ty_ref cT) hin hd ?_
  rw [e]
  exact kk ad H locs ls hE hR hL
theorem qa_aast (hΓ : Ok Γ l y cc mL d mc ms) {k0 N j ci : Nat} {fs : List AV} {f : Nat → Option Nat} {i : Int32} (hd : decode cc pc = .ok (.aastore, 1)) (hk : k0 < n) (hw : w k0 = cRef N f) (hj : j < n) (hwj : w j = cObj 0 fs) (hin : vp_in i N) (kk : Γ (pc + 1) L st cs n (upw w k0 (cRef N (va_up f i.toNatClampNeg (some j))))) : Γ pc L (aR j :: aI i :: aR k0 :: st) cs n w := by
  obtain ⟨p, e, s, m, args, below, meth, c, D, cT, A, Q, n0, ad0, R, rfl, hx, hb, hml, hown, hnm, hts, hK, hA, hRf, hRl, hRc, hRs⟩ := hΓ
  intro ad H locs ls hE hR hL
  have he := wsW_get (cT := cT) (ad := ad) (w := w) hk
  rw [hw] at he
  have hej := wsW_get (cT := cT) (ad := ad) (w := w) hj
  rw [hwj] at hej
  refine va_astq (r := (RX0, TX0, 15)) hx hb hK.1 hR.1 hR.2.1 hR.2.2 k0 3 j 0 he (ty_ref cT) hej rfl hin hd (fun H1 locs1 g1 g2 g3 => kk ad H1 locs1 ls hE ?_ hL)
  have e : (fun k => (va_up f i.toNatClampNeg (some j) k).map ad) = va_up (fun k => (f k).map ad) i.toNatClampNeg (some (ad j)) := by
    funext k
    by_cases h : k = i.toNatClampNeg <;> simp [va_up, h]
  refine Rp.set hk ?_ ?_ g3
  · show va_P D vwCl ((wsW cT ad n w).set k0 (ad k0, .inl (cT 3, N, .inr (.inr (.inr (.inr (fun k => (va_up f i.toNatClampNeg (some j) k).map ad))))))) H1
    rw [e]
    exact g1
  · show va_D A ((wsW cT ad n w).set k0 (ad k0, .inl (cT 3, N, .inr (.inr (.inr (.inr (fun k => (va_up f i.toNatClampNeg (some j) k).map ad)))))))
    rw [e]
    exact g2
theorem qa_copy (hΓ : Ok Γ l y cc mL d mc ms) {idx k0 k1 N : Nat} {f g : Nat → Int32} {x z v : Int32} (hd : decode cc pc = .ok (.invokestatic idx, 3)) (hl : Cond.methodLink y.cls idx arraycopyName ∈ wsL_law) (h0 : k0 < n) (hw0 : w k0 = cArr 0 N f) (h1 : k1 < n) (hw1 : w k1 = cArr 0 N g) (hx0 : x = 0) (hz0 : z = 0) (hv : v = nI N) (hN : N < 2 ^ 31) (hdd : 1 ≤ d) (hst : st = []) (kk : Γ (pc + 3) L st cs n (upw w k1 (cArr 0 N f))) : Γ pc L (aI v :: aI z :: aR k1 :: aI x :: aR k0 :: st) cs n w := by
  obtain ⟨p, e, s, m, args, below, meth, c, D, cT, A, Q, n0, ad0, R, rfl, hx, hb, hml, hown, hnm, hts, hK, hA, hRf, hRl, hRc, hRs⟩ := hΓ
  intro ad H locs ls hE hR hL
  have e0 := wsW_get (cT := cT) (ad := ad) (w := w) h0
  rw [hw0] at e0
  have e1 := wsW_get (cT := cT) (ad := ad) (w := w) h1
  rw [hw1] at e1
  subst hx0 hz0 hv hst
  have hz : (0 : Int32).toNatClampNeg = 0 := rfl
  refine va_copyi hx hb (by rw [hml]; exact hL.1.symm) hown (hts _ hl) (hts _ cpy_nat) (hts _ cpy_sta) (hts _ cpy_ini) hK.1 hR.1 hR.2.1 hR.2.2 k0 k1 0 0 e0 e1 (ty_int cT) (ty_int cT) rfl (by decide) (by decide) (nI_pos hN) (by rw [hz, nI_clamp hN]; omega) (by rw [hz, nI_clamp hN]; omega) (fun _ _ => rfl) (by omega) (by show 0 + (7 + 11) ≤ _; omega) hd (fun H1 locs1 g1 g2 g3 => kk ad H1 locs1 ls hE ?_ hL)
  have h9 : Rp D cT A s ad n (upw w k1 (cArr 0 N (va_cpy f g 0 0 (nI N).toNatClampNeg))) H1 locs1 := Rp.set h1 g1 g2 g3
  refine h9.ext fun k hk => ?_
  by_cases e : k = k1
  · subst e
    rw [upw_self, upw_self]
    refine Or.inr ⟨0, N, _, f, rfl, rfl, fun j hj => ?_⟩
    rw [nI_clamp hN]
    simp [va_cpy, hj]
  · rw [upw_ne _ _ _ e, upw_ne _ _ _ e]
    exact Or.inl rfl
end
end
section
/-- a method that may be called: its words -/
def MW (z : MethodName) (cz : ByteArray) (mz : Nat) (rz : Option FieldType) (np : Nat) : Prop := Cond.initialized z.cls ∈ wsL_law ∧ Cond.code z cz mz rz ∈ wsL_law ∧ mz ≤ 18 ∧ (z.cls ≠ "java/lang/invoke/MethodHandle" ∧ z.cls ≠ "java/lang/invoke/VarHandle" ∧ (parseMethodDescriptor z.desc).map (fun d => d.parameters.length) = some np)
def VW (z : MethodName) (cz : ByteArray) (mz : Nat) (rz : Option FieldType) (np : Nat) : Prop := MW z cz mz rz np ∧ Cond.instanceMethod z ∈ wsL_law ∧ Cond.selects z.cls z z ∈ wsL_law
def SW (z : MethodName) (cz : ByteArray) (mz : Nat) (rz : Option FieldType) (np : Nat) : Prop := MW z cz mz rz np ∧ Cond.static z ∈ wsL_law
def IW (z : MethodName) (cz : ByteArray) (mz : Nat) (np : Nat) : Prop := MW z cz mz none np ∧ Cond.instanceMethod z ∈ wsL_law ∧ z.name = "<init>"
theorem MW.gi {z : MethodName} {cz : ByteArray} {mz : Nat} {rz : Option FieldType} {np : Nat} (h : MW z cz mz rz np) : GoodIn wsL_law (Cond.code z cz mz rz :: wsL_law) := by
  intro w hw
  rcases List.mem_cons.mp hw with rfl | hw
  · exact ⟨h.2.1, good_of_word (wsL_law_gd _ h.2.1)⟩
  · exact wsL_GI w hw
theorem PcW.blind {D : va_G} {cT : Nat → ClassId} {ad : Nat → Nat} {sz : Nat} {as : List AV} {n : Nat} {w : Nat → AC} : FrameBlind (PcW D cT ad sz as n w) := by
  intro a U g mk h
  obtain ⟨h1, h2, h3, h4, h5⟩ := h
  exact ⟨h1, h2, h3, KK.same (u := U) (U := U.calling g mk a) rfl h4, h5⟩
def okV (n : Nat) (v : AV) : Prop := ∀ k, v = aR k → k < n
theorem okV_I (n : Nat) (x : Int32) : okV n (aI x) := fun k h => by cases h
theorem okV_N (n : Nat) : okV n aN := fun k h => by cases h
theorem okV_0 (n : Nat) : okV n none := fun k h => by cases h
theorem okV_R {n k : Nat} (h : k < n) : okV n (aR k) := fun j e => by cases e; exact h
theorem rv_ok {n : Nat} {ad ad' : Nat → Nat} {v : AV} (h : okV n v) (ha : ∀ j, j < n → ad' j = ad j) : rv ad' v = rv ad v := by
  rcases v with _ | x | _ | k
  · rfl
  · rfl
  · rfl
  · show Value.ref (ad' k) = Value.ref (ad k)
    rw [ha k (h k rfl)]
theorem rvs_ok {n : Nat} {ad ad' : Nat → Nat} (ha : ∀ j, j < n → ad' j = ad j) : ∀ {st : List AV}, (∀ v ∈ st, okV n v) → st.map (rv ad') = st.map (rv ad)
  | [], _ => rfl
  | v :: st, h => by
    rw [List.map_cons, List.map_cons, rv_ok (h v List.mem_cons_self) ha, rvs_ok ha (fun u hu => h u (List.mem_cons_of_mem _ hu))]
theorem lg_mem {L : List AV} {i : Nat} {x : Int32 ⊕ Option Nat} (h : lg L i = some x) : some x ∈ L := by
  have hl := lg_lt h
  unfold lg at h
  rw [List.getD_eq_getElem?_getD, List.getElem?_eq_getElem hl] at h
  rw [← h]
  exact List.getElem_mem hl
theorem Lc.moved {n : Nat} {ad ad' : Nat → Nat} {mL : Nat} {L : List AV} {ls : Array Slot} (h : Lc ad mL L ls) (hok : ∀ v ∈ L, okV n v) (ha : ∀ j, j < n → ad' j = ad j) : Lc ad' mL L ls :=
  ⟨h.1, h.2.1, fun i x hx => by rw [rv_ok (hok _ (lg_mem hx)) ha]; exact h.2.2 i x hx⟩
def okC (n : Nat) : AC → Prop
  | .inl _ => True
  | .inr (.inl (_, f)) => ∀ j i, f j = some i → i < n
  | .inr (.inr (_, fs)) => ∀ v ∈ fs, okV n v
theorem rc_ok {n : Nat} {cT : Nat → ClassId} {ad ad' : Nat → Nat} {c : AC} (h : okC n c) (ha : ∀ j, j < n → ad' j = ad j) : rc cT ad' c = rc cT ad c := by
  rcases c with ⟨t, m, f⟩ | ⟨m, f⟩ | ⟨ci, fs⟩
  · rfl
  · show (Sum.inl (cT 3, m, Sum.inr (Sum.inr (Sum.inr (Sum.inr fun j => (f j).map ad')))) : va_E) = Sum.inl (cT 3, m, Sum.inr (Sum.inr (Sum.inr (Sum.inr fun j => (f j).map ad))))
    have e : (fun j => (f j).map ad') = fun j => (f j).map ad := by
      funext j
      cases hj : f j with
      | none => rfl
      | some i => show some (ad' i) = some (ad i); rw [ha i (h j i hj)]
    rw [e]
  · show (Sum.inr (ci, fs.map (rv ad')) : va_E) = Sum.inr (ci, fs.map (rv ad))
    rw [rvs_ok ha h]
def clW (n : Nat) (w : Nat → AC) : Prop := ∀ k, k < n → okC n (w k)
theorem okV.mono {n m : Nat} {v : AV} (h : okV n v) (hm : n ≤ m) : okV m v := fun k e => Nat.lt_of_lt_of_le (h k e) hm
theorem okC.mono {n m : Nat} {c : AC} (h : okC n c) (hm : n ≤ m) : okC m c := by
  rcases c with ⟨t, q, f⟩ | ⟨q, f⟩ | ⟨ci, fs⟩
  · exact trivial
  · exact fun j i e => Nat.lt_of_lt_of_le (h j i e) hm
  · exact fun v hv => (h v hv).mono hm
theorem clW.up {n : Nat} {w : Nat → AC} {k : Nat} {c : AC} (h : clW n w) (hc : okC n c) : clW n (upw w k c) := by
  intro j hj
  by_cases e : j = k
  · subst e
    rw [upw_self]
    exact hc
  · rw [upw_ne _ _ _ e]
    exact h j hj
theorem clW.push {n : Nat} {w : Nat → AC} {c : AC} (h : clW n w) (hc : okC (n + 1) c) : clW (n + 1) (upw w n c) := by
  intro j hj
  by_cases e : j = n
  · subst e
    rw [upw_self]
    exact hc
  · rw [upw_ne _ _ _ e]
    exact (h j (by omega)).mono (by omega)
section
variable {p : Program} {l : Launch} {e : Env} {R : Room} {s : State} {m : MethodId} {args : Array Value} {below : List Frame} {meth : Method} {c : Code} {H : Heap} {locs : List Loc} {cells slots : Nat} {Q : State → Prop} {pc : Nat} {ls : Array Slot} {rest st0 : List Value}
theorem va_callW {D : va_G} {cT : Nat → ClassId} {A : Nat → Prop} {ad : Nat → Nat} {n : Nat} {w : Nat → AC} {Qa : Option AV → Nat → (Nat → AC) → Prop} {a : Array Value} {mc ms : Nat} {free : Addr → Prop} (hr : va_Run p l e R s m args below meth c H locs cells slots mc ms (F0 m pc ls st0) rest (QcW D cT ad H.size n w Qa a) free) (hS : va_S A s.heap H locs) (hA : ∀ q, va_A (wsW cT ad n w) H.size q → A q) (hf : ∀ q, free q → A q)
    (kk : ∀ (r : Option AV) (ad' : Nat → Nat) (n' : Nat) (w' : Nat → AC) (H1 : Heap) (locs1 : List Loc), Qa r n' w' → Ex n ad n' ad' → Rp D cT A s ad' n' w' H1 locs1 → W p l e R s m args below meth c H1 locs1 (cells + mc) (slots + ms) Q (F0 m (pc + 3) ls ((r.map (rv ad')).toList ++ rest))) : W p l e R s m args below meth c H locs cells slots Q (F0 m pc ls st0) := by
  intro T hT X
  obtain ⟨v, st₀, t, T', L, h0, X', hL, e1, e2, ⟨⟨r, ad', n', w', hv, hq, hex, hP', hD'⟩, hz, hk⟩, st⟩ := hr T hT X
  cases hv
  rw [h0] at hz hk
  obtain ⟨t2, a1, b1⟩ := kk r ad' n' w' T'.heap (locs ++ L) hq hex ⟨by rw [e1]; exact hP', hD'.weaken (fun _ q _ h => hA q.1 h), Nat.le_trans hS.1 (by rw [e1]; exact hz), fun q h1 h2 => by rw [e1, hk q (Nat.lt_of_lt_of_le h1 hS.1) (fun z => h2 (hA q z))]; exact hS.2.1 q h1 h2, fun q hq => by
      rcases List.mem_append.mp hq with h | h
      · exact hS.2.2 q h
      · exact hf _ (hL q h)⟩ T' rfl X'
  exact ⟨t2, st t2 a1, b1⟩
theorem vaA_in {cT : Nat → ClassId} {A : Nat → Prop} {ad : Nat → Nat} {n : Nat} {w : Nat → AC} {H0 : Heap} (hD : va_D A (wsW cT ad n w)) (hS : va_S A H0 H locs) (hA : ∀ q : Nat, H0.size ≤ q → A q) : ∀ q, va_A (wsW cT ad n w) H.size q → A q := by
  intro q h
  rcases h with ⟨k, e, h⟩ | h
  · exact hD.2 k _ h
  · exact hA q (Nat.le_trans hS.1 h)
end
section
variable {Γ : Gm} {l : Launch} {y : MethodName} {cc : ByteArray} {mL d mc ms : Nat} {pc n : Nat} {L st : List AV} {cs : Nat × Nat} {w : Nat → AC}
variable {idx mz np d' mc' ms' k0 : Nat} {z : MethodName} {cz : ByteArray} {rz : Option FieldType} {as st0 : List AV} {Qa : Option AV → Nat → (Nat → AC) → Prop}
theorem qa_callV (hΓ : Ok Γ l y cc mL d mc ms) (hd : decode cc pc = .ok (.invokevirtual idx, 3)) (hlk : Cond.methodLink y.cls idx z ∈ wsL_law) (hz : VW z cz mz rz np) (hS : Sp l z cz mz rz d' 0 0 (aR k0 :: as) n w Qa) (hdd : d' + 1 ≤ d) (hnp : as.length = np) {ci : Nat} {fs : List AV} {T : u_T} {N : Nat} (hk : k0 < n) (hw : w k0 = cObj ci fs) (hc : vwCl[ci]? = some (z.cls, T, N)) (hst : st0 = as.reverse ++ aR k0 :: st) (hl8 : st.length ≤ 8) (hcs : cs.1 ≤ mc ∧ cs.2 ≤ ms) (hq : ∀ r n' w', Qa r n' w' → n' = n) (kk : ∀ r w', Qa r n w' → Γ (pc + 3) L (r.toList ++ st) cs n w') : Γ pc L st0 cs n w := by
  obtain ⟨p, e, s, m, args, below, meth, c, D, cT, A, Q, n0, ad0, R, rfl, hx, hb, hml, hown, hnm, hts, hK, hA, hRf, hRl, hRc, hRs⟩ := hΓ
  intro ad H locs ls hE hR hL
  have he := wsW_get (cT := cT) (ad := ad) (w := w) hk
  rw [hw] at he
  obtain ⟨⟨z1, z2, z3, z4⟩, z5, z6⟩ := id hz
  subst hst
  refine va_callW (A := A) (va_runV (As := as.map (rv ad)) (rest := st.map (rv ad)) ⟨hx, hb, hml, hown, hts⟩ (hS D cT ad H.size) ⟨callB_of np hts hz.1.gi rfl rfl rfl (hts _ z1) (hts _ hlk) z4 ⟨by show d' + 1 ≤ _; omega, by show 8 + (mz + 11) + 37 * d' ≤ _; omega⟩, hts _ z5, hts _ z6⟩ ⟨PcW.blind, va_recv hK.1 hR.1 (ci := ci) (q0 := k0) hc he, fun U hU hW => ⟨rfl, by rw [hU], by rw [hU]; exact hR.1, KK.warm hW hK, hR.2.1.weaken (fun _ _ _ _ => trivial)⟩⟩ rfl (by rw [List.length_map]; exact hnp) hL.1 (by show List.map (rv ad) _ = _; rw [List.map_append, List.map_reverse]; rfl) (lv_room (by rw [rv_sum]; exact hl8)) hd ⟨by rw [hRc]; exact hcs.1, by rw [hRs]; exact hcs.2⟩) hR.2.2 (vaA_in hR.2.1 hR.2.2 hA) (vaA_in hR.2.1 hR.2.2 hA) (fun r ad' n' w' H1 locs1 q1 q2 q3 => ?_)
  have e := hq r n' w' q1
  subst e
  have e2 := q2.1 rfl
  subst e2
  have h9 := kk r w' q1 ad' H1 locs1 ls (hE.tr q2) q3 hL
  cases r with
  | none => exact h9
  | some v => exact h9
theorem qa_callS (hΓ : Ok Γ l y cc mL d mc ms) (hd : decode cc pc = .ok (.invokestatic idx, 3)) (hlk : Cond.methodLink y.cls idx z ∈ wsL_law) (hz : SW z cz mz rz np) (hS : Sp l z cz mz rz d' 0 0 as n w Qa) (hdd : d' + 1 ≤ d) (hnp : as.length = np) (hst : st0 = as.reverse ++ st) (hl8 : st.length ≤ 8) (hcs : cs.1 ≤ mc ∧ cs.2 ≤ ms) (hq : ∀ r n' w', Qa r n' w' → n' = n) (kk : ∀ r w', Qa r n w' → Γ (pc + 3) L (r.toList ++ st) cs n w') : Γ pc L st0 cs n w := by
  obtain ⟨p, e, s, m, args, below, meth, c, D, cT, A, Q, n0, ad0, R, rfl, hx, hb, hml, hown, hnm, hts, hK, hA, hRf, hRl, hRc, hRs⟩ := hΓ
  intro ad H locs ls hE hR hL
  obtain ⟨⟨z1, z2, z3, z4⟩, z5⟩ := id hz
  subst hst
  refine va_callW (A := A) (va_runS (As := as.map (rv ad)) (rest := st.map (rv ad)) ⟨hx, hb, hml, hown, hts⟩ (hS D cT ad H.size) ⟨callB_of np hts hz.1.gi rfl rfl rfl (hts _ z1) (hts _ hlk) z4 ⟨by show d' + 1 ≤ _; omega, by show 8 + (mz + 11) + 37 * d' ≤ _; omega⟩, hts _ z5⟩ ⟨PcW.blind, fun U hU hW => ⟨rfl, by rw [hU], by rw [hU]; exact hR.1, KK.warm hW hK, hR.2.1.weaken (fun _ _ _ _ => trivial)⟩⟩ rfl (by rw [List.length_map]; exact hnp) hL.1 (by show List.map (rv ad) _ = _; rw [List.map_append, List.map_reverse]) (lv_room (by rw [rv_sum]; exact hl8)) hd ⟨by rw [hRc]; exact hcs.1, by rw [hRs]; exact hcs.2⟩) hR.2.2 (vaA_in hR.2.1 hR.2.2 hA) (vaA_in hR.2.1 hR.2.2 hA) (fun r ad' n' w' H1 locs1 q1 q2 q3 => ?_)
  have e := hq r n' w' q1
  subst e
  have e2 := q2.1 rfl
  subst e2
  have h9 := kk r w' q1 ad' H1 locs1 ls (hE.tr q2) q3 hL
  cases r with
  | none => exact h9
  | some v => exact h9
theorem qa_callN (hΓ : Ok Γ l y cc mL d mc ms) (hd : decode cc pc = .ok (.invokestatic idx, 3)) (hlk : (y.cls, idx, z) ∈ nestG) (hz : SW z cz mz rz np) (hS : Sp l z cz mz rz d' 0 0 as n w Qa) (hdd : d' + 1 ≤ d) (hnp : as.length = np) (hst : st0 = as.reverse ++ st) (hl8 : st.length ≤ 8) (hcs : cs.1 ≤ mc ∧ cs.2 ≤ ms) (hq : ∀ r n' w', Qa r n' w' → n' = n) (kk : ∀ r w', Qa r n w' → Γ (pc + 3) L (r.toList ++ st) cs n w') : Γ pc L st0 cs n w := by
  obtain ⟨p, e, s, m, args, below, meth, c, D, cT, A, Q, n0, ad0, R, rfl, hx, hb, hml, hown, hnm, hts, hK, hA, hRf, hRl, hRc, hRs⟩ := hΓ
  intro ad H locs ls hE hR hL
  obtain ⟨⟨z1, z2, z3, z4⟩, z5⟩ := id hz
  subst hst
  refine va_callW (A := A) (va_runSN (As := as.map (rv ad)) (rest := st.map (rv ad)) ⟨hx, hb, hml, hown, hts⟩ (hS D cT ad H.size) ⟨va_cnB np hts hz.1.gi rfl rfl rfl (hK.2.2 _ hlk) (hts _ z1) z4 ⟨by show d' + 1 ≤ _; omega, by show 8 + (mz + 11) + 37 * d' ≤ _; omega⟩, hts _ z5, trivial⟩ ⟨PcW.blind, fun U hU hW => ⟨rfl, by rw [hU], by rw [hU]; exact hR.1, KK.warm hW hK, hR.2.1.weaken (fun _ _ _ _ => trivial)⟩⟩ rfl (by rw [List.length_map]; exact hnp) hL.1 (by show List.map (rv ad) _ = _; rw [List.map_append, List.map_reverse]) (lv_room (by rw [rv_sum]; exact hl8)) hd ⟨by rw [hRc]; exact hcs.1, by rw [hRs]; exact hcs.2⟩) hR.2.2 (vaA_in hR.2.1 hR.2.2 hA) (vaA_in hR.2.1 hR.2.2 hA) (fun r ad' n' w' H1 locs1 q1 q2 q3 => ?_)
  have e := hq r n' w' q1
  subst e
  have e2 := q2.1 rfl
  subst e2
  have h9 := kk r w' q1 ad' H1 locs1 ls (hE.tr q2) q3 hL
  cases r with
  | none => exact h9
  | some v => exact h9
theorem qa_callI (hΓ : Ok Γ l y cc mL d mc ms) (hd : decode cc pc = .ok (.invokespecial idx, 3)) (hlk : Cond.methodLink y.cls idx z ∈ wsL_law) (hz : IW z cz mz np) (hS : Sp l z cz mz none d' mc' ms' (aR k0 :: as) n w Qa) (hdd : d' + 1 ≤ d) (hnp : as.length = np) (hst : st0 = as.reverse ++ aR k0 :: st) (hl8 : st.length ≤ 8) (hcs : cs.1 + mc' ≤ mc ∧ cs.2 + ms' ≤ ms) (hq : ∀ r n' w', Qa r n' w' → r = none) (hokL : ∀ v ∈ L, okV n v) (hokS : ∀ v ∈ st, okV n v) (kk : ∀ n' w', n ≤ n' → Qa none n' w' → Γ (pc + 3) L st (cs.1 + mc', cs.2 + ms') n' w') : Γ pc L st0 cs n w := by
  obtain ⟨p, e, s, m, args, below, meth, c, D, cT, A, Q, n0, ad0, R, rfl, hx, hb, hml, hown, hnm, hts, hK, hA, hRf, hRl, hRc, hRs⟩ := hΓ
  intro ad H locs ls hE hR hL
  obtain ⟨⟨z1, z2, z3, z4⟩, z5, z6⟩ := id hz
  subst hst
  refine va_callW (A := A) (va_runI (As := as.map (rv ad)) (b := ad k0) (rest := st.map (rv ad)) ⟨hx, hb, hml, hown, hts⟩ (hS D cT ad H.size) ⟨callB_of np hts hz.1.gi rfl rfl rfl (hts _ z1) (hts _ hlk) z4 ⟨by show d' + 1 ≤ _; omega, by show 8 + (mz + 11) + 37 * d' ≤ _; omega⟩, z6, hts _ z5⟩ ⟨PcW.blind, fun U hU hW => ⟨rfl, by rw [hU], by rw [hU]; exact hR.1, KK.warm hW hK, hR.2.1.weaken (fun _ _ _ _ => trivial)⟩⟩ rfl (by rw [List.length_map]; exact hnp) hL.1 (by show List.map (rv ad) _ = _; rw [List.map_append, List.map_reverse]; rfl) (lv_room (by rw [rv_sum]; exact hl8)) hd ⟨by rw [hRc]; exact hcs.1, by rw [hRs]; exact hcs.2⟩) hR.2.2 (vaA_in hR.2.1 hR.2.2 hA) (vaA_in hR.2.1 hR.2.2 hA) (fun r ad' n' w' H1 locs1 q1 q2 q3 => ?_)
  have e := hq r n' w' q1
  subst e
  have h9 := kk n' w' q2.2.1 q1 ad' H1 locs1 ls (hE.tr q2) q3 (hL.moved hokL q2.2.2)
  rw [rvs_ok q2.2.2 hokS] at h9
  exact h9
theorem qa_callIN (hΓ : Ok Γ l y cc mL d mc ms) (hd : decode cc pc = .ok (.invokespecial idx, 3)) (hlk : (y.cls, idx, z) ∈ nestG) (hz : IW z cz mz np) (hS : Sp l z cz mz none d' mc' ms' (aR k0 :: as) n w Qa) (hdd : d' + 1 ≤ d) (hnp : as.length = np) (hst : st0 = as.reverse ++ aR k0 :: st) (hl8 : st.length ≤ 8) (hcs : cs.1 + mc' ≤ mc ∧ cs.2 + ms' ≤ ms) (hq : ∀ r n' w', Qa r n' w' → r = none) (hokL : ∀ v ∈ L, okV n v) (hokS : ∀ v ∈ st, okV n v) (kk : ∀ n' w', n ≤ n' → Qa none n' w' → Γ (pc + 3) L st (cs.1 + mc', cs.2 + ms') n' w') : Γ pc L st0 cs n w := by
  obtain ⟨p, e, s, m, args, below, meth, c, D, cT, A, Q, n0, ad0, R, rfl, hx, hb, hml, hown, hnm, hts, hK, hA, hRf, hRl, hRc, hRs⟩ := hΓ
  intro ad H locs ls hE hR hL
  obtain ⟨⟨z1, z2, z3, z4⟩, z5, z6⟩ := id hz
  subst hst
  refine va_callW (A := A) (va_runIN (As := as.map (rv ad)) (b := ad k0) (rest := st.map (rv ad)) ⟨hx, hb, hml, hown, hts⟩ (hS D cT ad H.size) ⟨va_cnB np hts hz.1.gi rfl rfl rfl (hK.2.2 _ hlk) (hts _ z1) z4 ⟨by show d' + 1 ≤ _; omega, by show 8 + (mz + 11) + 37 * d' ≤ _; omega⟩, z6, hts _ z5⟩ ⟨PcW.blind, fun U hU hW => ⟨rfl, by rw [hU], by rw [hU]; exact hR.1, KK.warm hW hK, hR.2.1.weaken (fun _ _ _ _ => trivial)⟩⟩ rfl (by rw [List.length_map]; exact hnp) hL.1 (by show List.map (rv ad) _ = _; rw [List.map_append, List.map_reverse]; rfl) (lv_room (by rw [rv_sum]; exact hl8)) hd ⟨by rw [hRc]; exact hcs.1, by rw [hRs]; exact hcs.2⟩) hR.2.2 (vaA_in hR.2.1 hR.2.2 hA) (vaA_in hR.2.1 hR.2.2 hA) (fun r ad' n' w' H1 locs1 q1 q2 q3 => ?_)
  have e := hq r n' w' q1
  subst e
  have h9 := kk n' w' q2.2.1 q1 ad' H1 locs1 ls (hE.tr q2) q3 (hL.moved hokL q2.2.2)
  rw [rvs_ok q2.2.2 hokS] at h9
  exact h9
end
end
section
theorem arr_int : Cond.arrayClass .int ∈ wsL_law := List.mem_of_getElem? (i := 34) (by decide +kernel)
theorem arr_byte : Cond.arrayClass .byte ∈ wsL_law := List.mem_of_getElem? (i := 66) (by decide +kernel)
theorem arr_char : Cond.arrayClass .char ∈ wsL_law := List.mem_of_getElem? (i := 52) (by decide +kernel)
theorem obj_ins : Cond.instanceMethod Lib.objectInit ∈ wsL_law := List.mem_of_getElem? (i := 10) (by decide +kernel)
theorem obj_cod : Cond.code Lib.objectInit ⟨#[0xb1]⟩ 1 none ∈ wsL_law := List.mem_of_getElem? (i := 11) (by decide +kernel)
def adN (ad : Nat → Nat) (n q : Nat) : Nat → Nat := fun j => if j = n then q else ad j
theorem adN_lt {ad : Nat → Nat} {n q : Nat} : ∀ j, j < n → adN ad n q j = ad j := fun j hj => by
  unfold adN
  rw [if_neg (by omega)]
theorem Ex.push {n0 n q : Nat} {ad0 ad : Nat → Nat} (h : Ex n0 ad0 n ad) : Ex n0 ad0 (n + 1) (adN ad n q) := by
  obtain ⟨h1, h2, h3⟩ := h
  exact ⟨fun e => by omega, by omega, fun j hj => (adN_lt j (by omega)).trans (h3 j hj)⟩
theorem wsW_new {cT : Nat → ClassId} {ad : Nat → Nat} {n q : Nat} {w : Nat → AC} {c : AC} (hc : clW n w) (hi : ∀ a b : Nat → Nat, rc cT a c = rc cT b c) : wsW cT ad n w ++ [(q, rc cT ad c)] = wsW cT (adN ad n q) (n + 1) (upw w n c) := by
  rw [← wsW_push (ad := ad) (ad' := adN ad n q) (q := q) c (by simp [adN]) adN_lt (fun k hk => rc_ok (hc k hk) adN_lt), hi ad (adN ad n q)]
/-- a class that may be made: its words, and the fields of a new object -/
def CLK (own : String) (idx ci : Nat) (N : Nat) (fs : List AV) : Prop := ∃ (C : String) (T : u_T) (ty0 : Nat → FieldType), vwCl[ci]? = some (C, T, N) ∧ (∀ w ∈ u_ws C T N, w ∈ wsL_law) ∧ (∀ j, j < N → parseFieldDescriptor (T j).2.2.1 = some (ty0 j)) ∧ Cond.classLink own idx C ∈ wsL_law ∧ Cond.instantiable C N ∈ wsL_law ∧ Cond.initialized C ∈ wsL_law ∧ (∀ (ad : Nat → Nat) (j : Nat), j < N → defaultValue (ty0 j) = vp_V (fs.map (rv ad)) j) ∧ (∀ a b : Nat → Nat, fs.map (rv a) = fs.map (rv b))
theorem same_cls {D : va_G} {cT : Nat → ClassId} {s : State} (hK : KK D cT s) (t : Nat) {ty : FieldType} (ht : (tysG cT)[t]? = some (cT t, ty)) {cA : ClassId} (h2 : va_K D vwCl (tysG cT ++ [(cA, ty)]) s) : cA = cT t := by
  have h1 := (hK.1.2 t _ ht).2
  have h3 := (h2.2 4 (cA, ty) (by simp [tysG])).2
  have key : ∀ c, va_RA s c ty → s.vm.findClass ("[" ++ ty.toString) = some c := by
    intro c hc
    cases ty with
    | object C => obtain ⟨_, _, _, _, _, h⟩ := hc; exact h
    | _ => exact hc
  exact Option.some.inj ((key _ h3).symm.trans (key _ h1))
section
variable {Γ : Gm} {l : Launch} {y : MethodName} {cc : ByteArray} {mL d mc ms : Nat} {pc n : Nat} {L st : List AV} {cs : Nat × Nat} {w : Nat → AC}
theorem qa_new (hΓ : Ok Γ l y cc mL d mc ms) {idx ci N : Nat} {fs : List AV} (hd : decode cc pc = .ok (.new idx, 3)) (hc : CLK y.cls idx ci N fs) (hcs : cs.1 + 1 ≤ mc ∧ cs.2 + N ≤ ms) (hw : clW n w) (hokL : ∀ v ∈ L, okV n v) (hokS : ∀ v ∈ st, okV n v) (kk : Γ (pc + 3) L (aR n :: st) (cs.1 + 1, cs.2 + N) (n + 1) (upw w n (cObj ci fs))) : Γ pc L st cs n w := by
  obtain ⟨p, e, s, m, args, below, meth, c, D, cT, A, Q, n0, ad0, R, rfl, hx, hb, hml, hown, hnm, hts, hK, hA, hRf, hRl, hRc, hRs⟩ := hΓ
  intro ad H locs ls hE hR hL
  obtain ⟨C, T, ty0, f1, f2, f3, f4, f5, f6, f7, f8⟩ := hc
  refine va_new (fs := fs.map (rv ad)) (C := C) (T := T) (N := N) hx hb hts f2 ty0 f3 hown (hts _ f4) (hts _ f5) (hts _ f6) hK.1 hR.1 hR.2.1 hR.2.2 hA f1 (f7 ad) (by rw [hRc]; exact hcs.1) (by rw [hRs]; exact hcs.2) hd (fun q H1 g1 g2 g3 => ?_)
  have e := wsW_new (cT := cT) (ad := ad) (q := q) (c := cObj ci fs) hw (fun a b => by show (Sum.inr (ci, fs.map (rv a)) : va_E) = Sum.inr (ci, fs.map (rv b)); rw [f8 a b])
  have h9 := kk (adN ad n q) H1 locs ls hE.push ⟨e ▸ g1, e ▸ g2, g3⟩ (hL.moved hokL adN_lt)
  rw [List.map_cons, rvs_ok adN_lt hokS, show rv (adN ad n q) (aR n) = Value.ref q by simp [rv, adN]] at h9
  exact h9
theorem qa_newa_int (hΓ : Ok Γ l y cc mL d mc ms) {N : Nat} {v : Int32} (hd : decode cc pc = .ok (.newarray .int, 2)) (hv : v = nI N) (hN : N < 1000000) (hcs : cs.1 + 1 ≤ mc ∧ cs.2 + N ≤ ms) (hw : clW n w) (hokL : ∀ v ∈ L, okV n v) (hokS : ∀ v ∈ st, okV n v) (kk : Γ (pc + 2) L (aR n :: st) (cs.1 + 1, cs.2 + N) (n + 1) (upw w n (cArr 0 N (fun _ => 0)))) : Γ pc L (aI v :: st) cs n w := by
  obtain ⟨p, e, s, m, args, below, meth, c, D, cT, A, Q, n0, ad0, R, rfl, hx, hb, hml, hown, hnm, hts, hK, hA, hRf, hRl, hRc, hRs⟩ := hΓ
  intro ad H locs ls hE hR hL
  subst hv
  refine va_newa (atype := .int) (ty := .int) (a0 := (N, .inl (fun _ => 0))) hx hb (hts _ arr_int) rfl hK.1 hR.1 hR.2.1 hR.2.2 hA (fun _ => rfl) (nI_pos (by omega)) (nI_clamp (by omega)) (Nat.le_trans (Nat.mul_le_mul_left N (show componentBytes .int ≤ 8 by decide)) (by omega)) (by rw [hRc]; exact hcs.1) (by rw [hRs]; exact hcs.2) hd (fun q cA H1 g0 g1 g2 g3 => ?_)
  have ec := same_cls hK 0 (ty_int cT) g0
  subst ec
  have e := wsW_new (cT := cT) (ad := ad) (q := q) (c := cArr 0 N (fun _ => 0)) hw (fun _ _ => rfl)
  have h9 := kk (adN ad n q) H1 locs ls hE.push ⟨e ▸ g1, e ▸ g2, g3⟩ (hL.moved hokL adN_lt)
  rw [List.map_cons, rvs_ok adN_lt hokS, show rv (adN ad n q) (aR n) = Value.ref q by simp [rv, adN]] at h9
  exact h9
theorem qa_newa_byte (hΓ : Ok Γ l y cc mL d mc ms) {N : Nat} {v : Int32} (hd : decode cc pc = .ok (.newarray .byte, 2)) (hv : v = nI N) (hN : N < 1000000) (hcs : cs.1 + 1 ≤ mc ∧ cs.2 + N ≤ ms) (hw : clW n w) (hokL : ∀ v ∈ L, okV n v) (hokS : ∀ v ∈ st, okV n v) (kk : Γ (pc + 2) L (aR n :: st) (cs.1 + 1, cs.2 + N) (n + 1) (upw w n (cArr 1 N (fun _ => 0)))) : Γ pc L (aI v :: st) cs n w := by
  obtain ⟨p, e, s, m, args, below, meth, c, D, cT, A, Q, n0, ad0, R, rfl, hx, hb, hml, hown, hnm, hts, hK, hA, hRf, hRl, hRc, hRs⟩ := hΓ
  intro ad H locs ls hE hR hL
  subst hv
  refine va_newa (atype := .byte) (ty := .byte) (a0 := (N, .inl (fun _ => 0))) hx hb (hts _ arr_byte) rfl hK.1 hR.1 hR.2.1 hR.2.2 hA (fun _ => rfl) (nI_pos (by omega)) (nI_clamp (by omega)) (Nat.le_trans (Nat.mul_le_mul_left N (show componentBytes .byte ≤ 8 by decide)) (by omega)) (by rw [hRc]; exact hcs.1) (by rw [hRs]; exact hcs.2) hd (fun q cA H1 g0 g1 g2 g3 => ?_)
  have ec := same_cls hK 1 (ty_byte cT) g0
  subst ec
  have e := wsW_new (cT := cT) (ad := ad) (q := q) (c := cArr 1 N (fun _ => 0)) hw (fun _ _ => rfl)
  have h9 := kk (adN ad n q) H1 locs ls hE.push ⟨e ▸ g1, e ▸ g2, g3⟩ (hL.moved hokL adN_lt)
  rw [List.map_cons, rvs_ok adN_lt hokS, show rv (adN ad n q) (aR n) = Value.ref q by simp [rv, adN]] at h9
  exact h9
theorem qa_newa_char (hΓ : Ok Γ l y cc mL d mc ms) {N : Nat} {v : Int32} (hd : decode cc pc = .ok (.newarray .char, 2)) (hv : v = nI N) (hN : N < 1000000) (hcs : cs.1 + 1 ≤ mc ∧ cs.2 + N ≤ ms) (hw : clW n w) (hokL : ∀ v ∈ L, okV n v) (hokS : ∀ v ∈ st, okV n v) (kk : Γ (pc + 2) L (aR n :: st) (cs.1 + 1, cs.2 + N) (n + 1) (upw w n (cArr 2 N (fun _ => 0)))) : Γ pc L (aI v :: st) cs n w := by
  obtain ⟨p, e, s, m, args, below, meth, c, D, cT, A, Q, n0, ad0, R, rfl, hx, hb, hml, hown, hnm, hts, hK, hA, hRf, hRl, hRc, hRs⟩ := hΓ
  intro ad H locs ls hE hR hL
  subst hv
  refine va_newa (atype := .char) (ty := .char) (a0 := (N, .inl (fun _ => 0))) hx hb (hts _ arr_char) rfl hK.1 hR.1 hR.2.1 hR.2.2 hA (fun _ => rfl) (nI_pos (by omega)) (nI_clamp (by omega)) (Nat.le_trans (Nat.mul_le_mul_left N (show componentBytes .char ≤ 8 by decide)) (by omega)) (by rw [hRc]; exact hcs.1) (by rw [hRs]; exact hcs.2) hd (fun q cA H1 g0 g1 g2 g3 => ?_)
  have ec := same_cls hK 2 (ty_char cT) g0
  subst ec
  have e := wsW_new (cT := cT) (ad := ad) (q := q) (c := cArr 2 N (fun _ => 0)) hw (fun _ _ => rfl)
  have h9 := kk (adN ad n q) H1 locs ls hE.push ⟨e ▸ g1, e ▸ g2, g3⟩ (hL.moved hokL adN_lt)
  rw [List.map_cons, rvs_ok adN_lt hokS, show rv (adN ad n q) (aR n) = Value.ref q by simp [rv, adN]] at h9
  exact h9
theorem qa_newq (hΓ : Ok Γ l y cc mL d mc ms) {idx N : Nat} {v : Int32} (hd : decode cc pc = .ok (.anewarray idx, 3)) (hc : Cond.classLink y.cls idx "RelayBank$Bank" ∈ wsL_law) (hv : v = nI N) (hN : N < 1000000) (hcs : cs.1 + 1 ≤ mc ∧ cs.2 + N ≤ ms) (hw : clW n w) (hokL : ∀ v ∈ L, okV n v) (hokS : ∀ v ∈ st, okV n v) (kk : Γ (pc + 3) L (aR n :: st) (cs.1 + 1, cs.2 + N) (n + 1) (upw w n (cRef N (fun _ => none)))) : Γ pc L (aI v :: st) cs n w := by
  obtain ⟨p, e, s, m, args, below, meth, c, D, cT, A, Q, n0, ad0, R, rfl, hx, hb, hml, hown, hnm, hts, hK, hA, hRf, hRl, hRc, hRs⟩ := hΓ
  intro ad H locs ls hE hR hL
  subst hv
  refine va_newq (C := "RelayBank$Bank") hx hb hown (hts _ hc) hK.2.1 hK.1 hR.1 hR.2.1 hR.2.2 hA (nI_pos (by omega)) (nI_clamp (by omega)) (by omega) (by rw [hRc]; exact hcs.1) (by rw [hRs]; exact hcs.2) hd (fun q cA H1 g0 g1 g2 g3 => ?_)
  have ec := same_cls hK 3 (ty_ref cT) g0
  subst ec
  have e := wsW_new (cT := cT) (ad := ad) (q := q) (c := cRef N (fun _ => none)) hw (fun _ _ => rfl)
  have h9 := kk (adN ad n q) H1 locs ls hE.push ⟨e ▸ g1, e ▸ g2, g3⟩ (hL.moved hokL adN_lt)
  rw [List.map_cons, rvs_ok adN_lt hokS, show rv (adN ad n q) (aR n) = Value.ref q by simp [rv, adN]] at h9
  exact h9
theorem qa_objInit (hΓ : Ok Γ l y cc mL d mc ms) {idx k0 : Nat} (hd : decode cc pc = .ok (.invokespecial idx, 3)) (hlk : Cond.methodLink y.cls idx Lib.objectInit ∈ wsL_law) (hdd : 1 ≤ d) (hl8 : st.length ≤ 8) (kk : Γ (pc + 3) L st cs n w) : Γ pc L (aR k0 :: st) cs n w := by
  obtain ⟨p, e, s, m, args, below, meth, c, D, cT, A, Q, n0, ad0, R, rfl, hx, hb, hml, hown, hnm, hts, hK, hA, hRf, hRl, hRc, hRs⟩ := hΓ
  intro ad H locs ls hE hR hL
  refine W.objInit hx hb hown (hts _ hlk) (hts _ obj_ins) (hts _ obj_cod) rfl (by rw [hml]; exact hL.1) rfl hd (by omega) (by
    have h1 := rv_sum ad st
    have h2 := lv_room (m := m) (pc := pc) (ls := ls) (rest := st.map (rv ad)) (st := st.map (rv ad)) (by rw [h1]; exact hl8)
    show 2 * 0 + ((st.map (rv ad)).map fun v => v.category).sum + 12 ≤ R.locals
    omega) ?_
  exact kk ad H locs ls hE hR hL
end
end
section
theorem clk_L_7 : Cond.classLink RL 7 RX5 ∈ wsL_law := List.mem_of_getElem? (i := 0) (by decide +kernel)
theorem clk_L_10 : Cond.classLink RL 10 RX6 ∈ wsL_law := List.mem_of_getElem? (i := 3) (by decide +kernel)
theorem lk_L_9 : Cond.methodLink RL 9 yX5_init ∈ wsL_law := List.mem_of_getElem? (i := 6) (by decide +kernel)
theorem lk_X5_3 : Cond.methodLink RX5 3 objectInit ∈ wsL_law := List.mem_of_getElem? (i := 9) (by decide +kernel)
theorem clk_X5_9 : Cond.classLink RX5 9 RX0 ∈ wsL_law := List.mem_of_getElem? (i := 12) (by decide +kernel)
theorem fk_X5_12 : FLK RX5 12 4 0 true (.object "RelayBank$Bank") := ⟨RX5, TX5, 6, tyX5, rfl, inlX5, by decide, List.mem_of_getElem? (i := 15) (by decide +kernel), tyX5_ok, nmX5, rfl, tyX5_ok 0 (by decide), rfl⟩
theorem clk_X5_16 : Cond.classLink RX5 16 RX3 ∈ wsL_law := List.mem_of_getElem? (i := 16) (by decide +kernel)
theorem fk_X5_19 : FLK RX5 19 4 1 true (.object "RelayBank$Past") := ⟨RX5, TX5, 6, tyX5, rfl, inlX5, by decide, List.mem_of_getElem? (i := 19) (by decide +kernel), tyX5_ok, nmX5, rfl, tyX5_ok 1 (by decide), rfl⟩
theorem clk_X5_23 : Cond.classLink RX5 23 RX4 ∈ wsL_law := List.mem_of_getElem? (i := 20) (by decide +kernel)
theorem fk_X5_26 : FLK RX5 26 4 2 true (.object "RelayBank$Text") := ⟨RX5, TX5, 6, tyX5, rfl, inlX5, by decide, List.mem_of_getElem? (i := 23) (by decide +kernel), tyX5_ok, nmX5, rfl, tyX5_ok 2 (by decide), rfl⟩
theorem clk_X5_30 : Cond.classLink RX5 30 RX2 ∈ wsL_law := List.mem_of_getElem? (i := 24) (by decide +kernel)
theorem fk_X5_33 : FLK RX5 33 4 3 true (.object "RelayBank$CircuitReader") := ⟨RX5, TX5, 6, tyX5, rfl, inlX5, by decide, List.mem_of_getElem? (i := 27) (by decide +kernel), tyX5_ok, nmX5, rfl, tyX5_ok 3 (by decide), rfl⟩
theorem fk_X5_37 : FLK RX5 37 4 4 true (.object "RelayBank$Bank") := ⟨RX5, TX5, 6, tyX5, rfl, inlX5, by decide, List.mem_of_getElem? (i := 28) (by decide +kernel), tyX5_ok, nmX5, rfl, tyX5_ok 4 (by decide), rfl⟩
theorem fk_X5_40 : FLK RX5 40 4 5 true (.object "RelayBank$Bank") := ⟨RX5, TX5, 6, tyX5, rfl, inlX5, by decide, List.mem_of_getElem? (i := 29) (by decide +kernel), tyX5_ok, nmX5, rfl, tyX5_ok 5 (by decide), rfl⟩
theorem lk_X5_11 : Cond.methodLink RX5 11 yX0_init ∈ wsL_law := List.mem_of_getElem? (i := 30) (by decide +kernel)
theorem lk_X0_3 : Cond.methodLink RX0 3 objectInit ∈ wsL_law := List.mem_of_getElem? (i := 33) (by decide +kernel)
theorem fk_X0_9 : FLK RX0 9 0 0 true (.array .int) := ⟨RX0, TX0, 15, tyX0, rfl, inlX0, by decide, List.mem_of_getElem? (i := 35) (by decide +kernel), tyX0_ok, nmX0, rfl, tyX0_ok 0 (by decide), rfl⟩
theorem fk_X0_15 : FLK RX0 15 0 1 true (.array .int) := ⟨RX0, TX0, 15, tyX0, rfl, inlX0, by decide, List.mem_of_getElem? (i := 36) (by decide +kernel), tyX0_ok, nmX0, rfl, tyX0_ok 1 (by decide), rfl⟩
theorem fk_X0_18 : FLK RX0 18 0 2 true (.array .int) := ⟨RX0, TX0, 15, tyX0, rfl, inlX0, by decide, List.mem_of_getElem? (i := 37) (by decide +kernel), tyX0_ok, nmX0, rfl, tyX0_ok 2 (by decide), rfl⟩
theorem fk_X0_21 : FLK RX0 21 0 3 true (.array .int) := ⟨RX0, TX0, 15, tyX0, rfl, inlX0, by decide, List.mem_of_getElem? (i := 38) (by decide +kernel), tyX0_ok, nmX0, rfl, tyX0_ok 3 (by decide), rfl⟩
theorem fk_X0_24 : FLK RX0 24 0 4 true (.array .int) := ⟨RX0, TX0, 15, tyX0, rfl, inlX0, by decide, List.mem_of_getElem? (i := 39) (by decide +kernel), tyX0_ok, nmX0, rfl, tyX0_ok 4 (by decide), rfl⟩
theorem fk_X0_27 : FLK RX0 27 0 5 true (.array .int) := ⟨RX0, TX0, 15, tyX0, rfl, inlX0, by decide, List.mem_of_getElem? (i := 40) (by decide +kernel), tyX0_ok, nmX0, rfl, tyX0_ok 5 (by decide), rfl⟩
theorem ck_X0_30 : Cond.constant RX0 30 (2147483647) ∈ wsL_law := List.mem_of_getElem? (i := 41) (by decide +kernel)
theorem lk_X5_18 : Cond.methodLink RX5 18 yX3_init ∈ wsL_law := List.mem_of_getElem? (i := 42) (by decide +kernel)
theorem lk_X3_3 : Cond.methodLink RX3 3 objectInit ∈ wsL_law := List.mem_of_getElem? (i := 45) (by decide +kernel)
theorem clk_X3_9 : Cond.classLink RX3 9 RX0 ∈ wsL_law := List.mem_of_getElem? (i := 46) (by decide +kernel)
theorem fk_X3_11 : FLK RX3 11 2 0 true (.array (.object "RelayBank$Bank")) := ⟨RX3, TX3, 3, tyX3, rfl, inlX3, by decide, List.mem_of_getElem? (i := 47) (by decide +kernel), tyX3_ok, nmX3, rfl, tyX3_ok 0 (by decide), rfl⟩
theorem lk_X3_17 : Cond.methodLink RX3 17 yX0_init ∈ wsL_law := List.mem_of_getElem? (i := 48) (by decide +kernel)
theorem lk_X4_3 : Cond.methodLink RX4 3 objectInit ∈ wsL_law := List.mem_of_getElem? (i := 51) (by decide +kernel)
theorem fk_X4_9 : FLK RX4 9 3 0 true (.array .char) := ⟨RX4, TX4, 2, tyX4, rfl, inlX4, by decide, List.mem_of_getElem? (i := 53) (by decide +kernel), tyX4_ok, nmX4, rfl, tyX4_ok 0 (by decide), rfl⟩
theorem lk_X2_3 : Cond.methodLink RX2 3 objectInit ∈ wsL_law := List.mem_of_getElem? (i := 56) (by decide +kernel)
theorem fk_X2_9 : FLK RX2 9 1 0 true (.array .int) := ⟨RX2, TX2, 4, tyX2, rfl, inlX2, by decide, List.mem_of_getElem? (i := 57) (by decide +kernel), tyX2_ok, nmX2, rfl, tyX2_ok 0 (by decide), rfl⟩
theorem lk_L_12 : Cond.methodLink RL 12 yX6_init ∈ wsL_law := List.mem_of_getElem? (i := 58) (by decide +kernel)
theorem lk_X6_1 : Cond.methodLink RX6 1 objectInit ∈ wsL_law := List.mem_of_getElem? (i := 61) (by decide +kernel)
theorem fk_X6_7 : FLK RX6 7 5 0 true (.array .int) := ⟨RX6, TX6, 9, tyX6, rfl, inlX6, by decide, List.mem_of_getElem? (i := 62) (by decide +kernel), tyX6_ok, nmX6, rfl, tyX6_ok 0 (by decide), rfl⟩
theorem fk_X6_13 : FLK RX6 13 5 1 true (.array .int) := ⟨RX6, TX6, 9, tyX6, rfl, inlX6, by decide, List.mem_of_getElem? (i := 63) (by decide +kernel), tyX6_ok, nmX6, rfl, tyX6_ok 1 (by decide), rfl⟩
theorem fk_X6_16 : FLK RX6 16 5 3 true (.array .int) := ⟨RX6, TX6, 9, tyX6, rfl, inlX6, by decide, List.mem_of_getElem? (i := 64) (by decide +kernel), tyX6_ok, nmX6, rfl, tyX6_ok 3 (by decide), rfl⟩
theorem fk_X6_19 : FLK RX6 19 5 4 true (.array .int) := ⟨RX6, TX6, 9, tyX6, rfl, inlX6, by decide, List.mem_of_getElem? (i := 65) (by decide +kernel), tyX6_ok, nmX6, rfl, tyX6_ok 4 (by decide), rfl⟩
theorem fk_X6_22 : FLK RX6 22 5 5 true (.array .byte) := ⟨RX6, TX6, 9, tyX6, rfl, inlX6, by decide, List.mem_of_getElem? (i := 67) (by decide +kernel), tyX6_ok, nmX6, rfl, tyX6_ok 5 (by decide), rfl⟩
theorem fk_X6_26 : FLK RX6 26 5 6 false .int := ⟨RX6, TX6, 9, tyX6, rfl, inlX6, by decide, List.mem_of_getElem? (i := 68) (by decide +kernel), tyX6_ok, nmX6, rfl, tyX6_ok 6 (by decide), rfl⟩
theorem lk_L_13 : Cond.methodLink RL 13 yX5_addRelay ∈ wsL_law := List.mem_of_getElem? (i := 69) (by decide +kernel)
theorem lk_X5_43 : Cond.methodLink RX5 43 yX5_areDelays ∈ wsL_law := List.mem_of_getElem? (i := 73) (by decide +kernel)
theorem lk_X5_71 : Cond.methodLink RX5 71 yX5_isWithin ∈ wsL_law := List.mem_of_getElem? (i := 76) (by decide +kernel)
theorem lk_X5_51 : Cond.methodLink RX5 51 yX3_save ∈ wsL_law := List.mem_of_getElem? (i := 79) (by decide +kernel)
theorem fk_X3_28 : FLK RX3 28 2 2 false .int := ⟨RX3, TX3, 3, tyX3, rfl, inlX3, by decide, List.mem_of_getElem? (i := 83) (by decide +kernel), tyX3_ok, nmX3, rfl, tyX3_ok 2 (by decide), rfl⟩
theorem fk_X3_18 : FLK RX3 18 2 1 false .int := ⟨RX3, TX3, 3, tyX3, rfl, inlX3, by decide, List.mem_of_getElem? (i := 84) (by decide +kernel), tyX3_ok, nmX3, rfl, tyX3_ok 1 (by decide), rfl⟩
theorem lk_X3_22 : Cond.methodLink RX3 22 yJ9_floorMod_7cf53 ∈ wsL_law := List.mem_of_getElem? (i := 85) (by decide +kernel)
theorem lk_X3_31 : Cond.methodLink RX3 31 yX3_bankAt ∈ wsL_law := List.mem_of_getElem? (i := 89) (by decide +kernel)
theorem lk_X3_35 : Cond.methodLink RX3 35 yX0_copy ∈ wsL_law := List.mem_of_getElem? (i := 93) (by decide +kernel)
theorem lk_X0_31 : Cond.methodLink RX0 31 arraycopyName ∈ wsL_law := List.mem_of_getElem? (i := 97) (by decide +kernel)
theorem fk_X0_37 : FLK RX0 37 0 6 false .int := ⟨RX0, TX0, 15, tyX0, rfl, inlX0, by decide, List.mem_of_getElem? (i := 101) (by decide +kernel), tyX0_ok, nmX0, rfl, tyX0_ok 6 (by decide), rfl⟩
theorem fk_X0_41 : FLK RX0 41 0 7 false .int := ⟨RX0, TX0, 15, tyX0, rfl, inlX0, by decide, List.mem_of_getElem? (i := 102) (by decide +kernel), tyX0_ok, nmX0, rfl, tyX0_ok 7 (by decide), rfl⟩
theorem fk_X0_44 : FLK RX0 44 0 8 false .int := ⟨RX0, TX0, 15, tyX0, rfl, inlX0, by decide, List.mem_of_getElem? (i := 103) (by decide +kernel), tyX0_ok, nmX0, rfl, tyX0_ok 8 (by decide), rfl⟩
theorem fk_X0_47 : FLK RX0 47 0 9 false .int := ⟨RX0, TX0, 15, tyX0, rfl, inlX0, by decide, List.mem_of_getElem? (i := 104) (by decide +kernel), tyX0_ok, nmX0, rfl, tyX0_ok 9 (by decide), rfl⟩
theorem fk_X0_50 : FLK RX0 50 0 10 false .int := ⟨RX0, TX0, 15, tyX0, rfl, inlX0, by decide, List.mem_of_getElem? (i := 105) (by decide +kernel), tyX0_ok, nmX0, rfl, tyX0_ok 10 (by decide), rfl⟩
theorem fk_X0_53 : FLK RX0 53 0 11 false .int := ⟨RX0, TX0, 15, tyX0, rfl, inlX0, by decide, List.mem_of_getElem? (i := 106) (by decide +kernel), tyX0_ok, nmX0, rfl, tyX0_ok 11 (by decide), rfl⟩
theorem fk_X0_56 : FLK RX0 56 0 12 false .int := ⟨RX0, TX0, 15, tyX0, rfl, inlX0, by decide, List.mem_of_getElem? (i := 107) (by decide +kernel), tyX0_ok, nmX0, rfl, tyX0_ok 12 (by decide), rfl⟩
theorem fk_X0_59 : FLK RX0 59 0 13 false .int := ⟨RX0, TX0, 15, tyX0, rfl, inlX0, by decide, List.mem_of_getElem? (i := 108) (by decide +kernel), tyX0_ok, nmX0, rfl, tyX0_ok 13 (by decide), rfl⟩
theorem fk_X0_62 : FLK RX0 62 0 14 false .int := ⟨RX0, TX0, 15, tyX0, rfl, inlX0, by decide, List.mem_of_getElem? (i := 109) (by decide +kernel), tyX0_ok, nmX0, rfl, tyX0_ok 14 (by decide), rfl⟩
theorem lk_X5_55 : Cond.methodLink RX5 55 yX0_add ∈ wsL_law := List.mem_of_getElem? (i := 110) (by decide +kernel)
theorem lk_X0_69 : Cond.methodLink RX0 69 yX0_putDelays ∈ wsL_law := List.mem_of_getElem? (i := 114) (by decide +kernel)
theorem lk_L_17 : Cond.methodLink RL 17 yX6_addRelay ∈ wsL_law := List.mem_of_getElem? (i := 122) (by decide +kernel)
theorem lk_X6_33 : Cond.methodLink RX6 33 yX6_in ∈ wsL_law := List.mem_of_getElem? (i := 126) (by decide +kernel)
theorem lk_X6_79 : Cond.methodLink RX6 79 yX6_notes ∈ wsL_law := List.mem_of_getElem? (i := 129) (by decide +kernel)
theorem fk_X6_30 : FLK RX6 30 5 2 false .int := ⟨RX6, TX6, 9, tyX6, rfl, inlX6, by decide, List.mem_of_getElem? (i := 133) (by decide +kernel), tyX6_ok, nmX6, rfl, tyX6_ok 2 (by decide), rfl⟩
theorem lk_X6_49 : Cond.methodLink RX6 49 yX6_puts ∈ wsL_law := List.mem_of_getElem? (i := 134) (by decide +kernel)
theorem lk_L_18 : Cond.methodLink RL 18 yX5_setDelays ∈ wsL_law := List.mem_of_getElem? (i := 138) (by decide +kernel)
theorem lk_X5_59 : Cond.methodLink RX5 59 yX0_has ∈ wsL_law := List.mem_of_getElem? (i := 142) (by decide +kernel)
theorem lk_X5_63 : Cond.methodLink RX5 63 yX0_putDelays ∈ wsL_law := List.mem_of_getElem? (i := 146) (by decide +kernel)
theorem lk_L_22 : Cond.methodLink RL 22 yX6_setDelays ∈ wsL_law := List.mem_of_getElem? (i := 147) (by decide +kernel)
theorem lk_X6_82 : Cond.methodLink RX6 82 yX6_isRelay ∈ wsL_law := List.mem_of_getElem? (i := 151) (by decide +kernel)
theorem lk_X6_37 : Cond.methodLink RX6 37 yX6_of ∈ wsL_law := List.mem_of_getElem? (i := 155) (by decide +kernel)
theorem lk_L_23 : Cond.methodLink RL 23 yX5_setCondition ∈ wsL_law := List.mem_of_getElem? (i := 159) (by decide +kernel)
theorem lk_X5_67 : Cond.methodLink RX5 67 yX0_branchesOf ∈ wsL_law := List.mem_of_getElem? (i := 163) (by decide +kernel)
theorem lk_X5_74 : Cond.methodLink RX5 74 yX0_putCondition ∈ wsL_law := List.mem_of_getElem? (i := 167) (by decide +kernel)
theorem lk_X0_81 : Cond.methodLink RX0 81 yX0_branchesOf ∈ wsL_law := List.mem_of_getElem? (i := 171) (by decide +kernel)
theorem lk_X0_85 : Cond.methodLink RX0 85 yX0_branchAt ∈ wsL_law := List.mem_of_getElem? (i := 172) (by decide +kernel)
theorem lk_X0_89 : Cond.methodLink RX0 89 yX1_with ∈ wsL_law := List.mem_of_getElem? (i := 176) (by decide +kernel)
theorem lk_X1_9 : Cond.methodLink RX1 9 yX1_bit ∈ wsL_law := List.mem_of_getElem? (i := 180) (by decide +kernel)
theorem lk_X0_95 : Cond.methodLink RX0 95 yX0_putBranch ∈ wsL_law := List.mem_of_getElem? (i := 183) (by decide +kernel)
theorem lk_X0_99 : Cond.methodLink RX0 99 yX0_lookAtCoils ∈ wsL_law := List.mem_of_getElem? (i := 187) (by decide +kernel)
theorem lk_X0_114 : Cond.methodLink RX0 114 yX0_failing ∈ wsL_law := List.mem_of_getElem? (i := 191) (by decide +kernel)
theorem ck_X0_113 : Cond.constant RX0 113 (65535) ∈ wsL_law := List.mem_of_getElem? (i := 195) (by decide +kernel)
theorem lk_X0_110 : Cond.methodLink RX0 110 yX0_closedContacts ∈ wsL_law := List.mem_of_getElem? (i := 196) (by decide +kernel)
theorem lk_X0_117 : Cond.methodLink RX0 117 yX0_conducts ∈ wsL_law := List.mem_of_getElem? (i := 200) (by decide +kernel)
theorem lk_X0_120 : Cond.methodLink RX0 120 yX0_turnCoil ∈ wsL_law := List.mem_of_getElem? (i := 206) (by decide +kernel)
theorem lk_X0_103 : Cond.methodLink RX0 103 yX1_howOf ∈ wsL_law := List.mem_of_getElem? (i := 210) (by decide +kernel)
theorem lk_L_26 : Cond.methodLink RL 26 yX6_setCondition ∈ wsL_law := List.mem_of_getElem? (i := 213) (by decide +kernel)
theorem fk_X6_65 : FLK RX6 65 5 7 false .int := ⟨RX6, TX6, 9, tyX6, rfl, inlX6, by decide, List.mem_of_getElem? (i := 217) (by decide +kernel), tyX6_ok, nmX6, rfl, tyX6_ok 7 (by decide), rfl⟩
theorem lk_X6_85 : Cond.methodLink RX6 85 yX6_isSubject ∈ wsL_law := List.mem_of_getElem? (i := 218) (by decide +kernel)
theorem lk_X6_88 : Cond.methodLink RX6 88 yX6_opensBranch ∈ wsL_law := List.mem_of_getElem? (i := 222) (by decide +kernel)
theorem lk_X6_91 : Cond.methodLink RX6 91 yX6_how ∈ wsL_law := List.mem_of_getElem? (i := 226) (by decide +kernel)
theorem lk_X6_95 : Cond.methodLink RX6 95 yX6_conditions ∈ wsL_law := List.mem_of_getElem? (i := 230) (by decide +kernel)
theorem lk_X6_68 : Cond.methodLink RX6 68 yX6_looks ∈ wsL_law := List.mem_of_getElem? (i := 234) (by decide +kernel)
theorem lk_X6_41 : Cond.methodLink RX6 41 yX6_closed ∈ wsL_law := List.mem_of_getElem? (i := 238) (by decide +kernel)
theorem lk_X6_45 : Cond.methodLink RX6 45 yX6_conducts ∈ wsL_law := List.mem_of_getElem? (i := 242) (by decide +kernel)
theorem lk_L_27 : Cond.methodLink RL 27 yX5_removeBranch ∈ wsL_law := List.mem_of_getElem? (i := 246) (by decide +kernel)
theorem lk_X5_78 : Cond.methodLink RX5 78 yX0_dropBranch ∈ wsL_law := List.mem_of_getElem? (i := 250) (by decide +kernel)
theorem lk_L_31 : Cond.methodLink RL 31 yX6_removeBranch ∈ wsL_law := List.mem_of_getElem? (i := 254) (by decide +kernel)
theorem lk_L_32 : Cond.methodLink RL 32 yX5_appendCharacter ∈ wsL_law := List.mem_of_getElem? (i := 258) (by decide +kernel)
theorem lk_X5_85 : Cond.methodLink RX5 85 yX4_append ∈ wsL_law := List.mem_of_getElem? (i := 262) (by decide +kernel)
theorem fk_X4_15 : FLK RX4 15 3 1 false .int := ⟨RX4, TX4, 2, tyX4, rfl, inlX4, by decide, List.mem_of_getElem? (i := 266) (by decide +kernel), tyX4_ok, nmX4, rfl, tyX4_ok 1 (by decide), rfl⟩
theorem lk_L_36 : Cond.methodLink RL 36 yX6_appendCharacter ∈ wsL_law := List.mem_of_getElem? (i := 267) (by decide +kernel)
theorem lk_L_37 : Cond.methodLink RL 37 yX5_clearText ∈ wsL_law := List.mem_of_getElem? (i := 271) (by decide +kernel)
theorem lk_L_41 : Cond.methodLink RL 41 yX6_clearText ∈ wsL_law := List.mem_of_getElem? (i := 275) (by decide +kernel)
theorem lk_L_42 : Cond.methodLink RL 42 yX5_load ∈ wsL_law := List.mem_of_getElem? (i := 279) (by decide +kernel)
theorem lk_X5_89 : Cond.methodLink RX5 89 yX2_read ∈ wsL_law := List.mem_of_getElem? (i := 283) (by decide +kernel)
theorem fk_X2_15 : FLK RX2 15 1 2 false .int := ⟨RX2, TX2, 4, tyX2, rfl, inlX2, by decide, List.mem_of_getElem? (i := 287) (by decide +kernel), tyX2_ok, nmX2, rfl, tyX2_ok 2 (by decide), rfl⟩
theorem fk_X2_19 : FLK RX2 19 1 1 false .int := ⟨RX2, TX2, 4, tyX2, rfl, inlX2, by decide, List.mem_of_getElem? (i := 288) (by decide +kernel), tyX2_ok, nmX2, rfl, tyX2_ok 1 (by decide), rfl⟩
theorem fk_X2_22 : FLK RX2 22 1 3 false .int := ⟨RX2, TX2, 4, tyX2, rfl, inlX2, by decide, List.mem_of_getElem? (i := 289) (by decide +kernel), tyX2_ok, nmX2, rfl, tyX2_ok 3 (by decide), rfl⟩
theorem lk_X2_30 : Cond.methodLink RX2 30 yX4_characterAt ∈ wsL_law := List.mem_of_getElem? (i := 290) (by decide +kernel)
theorem lk_X2_34 : Cond.methodLink RX2 34 yX2_take ∈ wsL_law := List.mem_of_getElem? (i := 294) (by decide +kernel)
theorem lk_X2_38 : Cond.methodLink RX2 38 yX2_goTo ∈ wsL_law := List.mem_of_getElem? (i := 298) (by decide +kernel)
theorem lk_X2_42 : Cond.methodLink RX2 42 yX2_beginBranch ∈ wsL_law := List.mem_of_getElem? (i := 302) (by decide +kernel)
theorem lk_X2_45 : Cond.methodLink RX2 45 yX2_beginCondition ∈ wsL_law := List.mem_of_getElem? (i := 306) (by decide +kernel)
theorem lk_X2_48 : Cond.methodLink RX2 48 yX2_takeLetter ∈ wsL_law := List.mem_of_getElem? (i := 310) (by decide +kernel)
theorem lk_X2_56 : Cond.methodLink RX2 56 yX2_subjectOf ∈ wsL_law := List.mem_of_getElem? (i := 314) (by decide +kernel)
theorem lk_X2_64 : Cond.methodLink RX2 64 yX1_howOf ∈ wsL_law := List.mem_of_getElem? (i := 318) (by decide +kernel)
theorem lk_X2_70 : Cond.methodLink RX2 70 yX1_with ∈ wsL_law := List.mem_of_getElem? (i := 319) (by decide +kernel)
theorem lk_X5_100 : Cond.methodLink RX5 100 yX0_putCircuit ∈ wsL_law := List.mem_of_getElem? (i := 320) (by decide +kernel)
theorem lk_L_45 : Cond.methodLink RL 45 yX6_load ∈ wsL_law := List.mem_of_getElem? (i := 324) (by decide +kernel)
theorem fk_X6_99 : FLK RX6 99 5 8 false .int := ⟨RX6, TX6, 9, tyX6, rfl, inlX6, by decide, List.mem_of_getElem? (i := 328) (by decide +kernel), tyX6_ok, nmX6, rfl, tyX6_ok 8 (by decide), rfl⟩
theorem lk_X6_118 : Cond.methodLink RX6 118 yX6_keeps ∈ wsL_law := List.mem_of_getElem? (i := 329) (by decide +kernel)
theorem lk_X6_121 : Cond.methodLink RX6 121 yX6_reads ∈ wsL_law := List.mem_of_getElem? (i := 333) (by decide +kernel)
theorem lk_X6_102 : Cond.methodLink RX6 102 yX6_here ∈ wsL_law := List.mem_of_getElem? (i := 337) (by decide +kernel)
theorem lk_X6_115 : Cond.methodLink RX6 115 yX6_readsBranch ∈ wsL_law := List.mem_of_getElem? (i := 341) (by decide +kernel)
theorem lk_X6_108 : Cond.methodLink RX6 108 yX6_isEnd ∈ wsL_law := List.mem_of_getElem? (i := 345) (by decide +kernel)
theorem lk_X6_112 : Cond.methodLink RX6 112 yX6_readsCondition ∈ wsL_law := List.mem_of_getElem? (i := 349) (by decide +kernel)
theorem lk_X6_105 : Cond.methodLink RX6 105 yX6_subject ∈ wsL_law := List.mem_of_getElem? (i := 353) (by decide +kernel)
theorem lk_X6_124 : Cond.methodLink RX6 124 yX6_exchanges ∈ wsL_law := List.mem_of_getElem? (i := 357) (by decide +kernel)
theorem lk_L_46 : Cond.methodLink RL 46 yX5_press ∈ wsL_law := List.mem_of_getElem? (i := 361) (by decide +kernel)
theorem lk_X5_104 : Cond.methodLink RX5 104 yX5_isKey ∈ wsL_law := List.mem_of_getElem? (i := 365) (by decide +kernel)
theorem lk_X5_110 : Cond.methodLink RX5 110 yX5_isIn ∈ wsL_law := List.mem_of_getElem? (i := 368) (by decide +kernel)
theorem lk_X5_114 : Cond.methodLink RX5 114 yX0_turnKey ∈ wsL_law := List.mem_of_getElem? (i := 369) (by decide +kernel)
theorem lk_L_49 : Cond.methodLink RL 49 yX6_press ∈ wsL_law := List.mem_of_getElem? (i := 373) (by decide +kernel)
theorem lk_L_50 : Cond.methodLink RL 50 yX5_setFault ∈ wsL_law := List.mem_of_getElem? (i := 377) (by decide +kernel)
theorem lk_X5_117 : Cond.methodLink RX5 117 yX0_faultOf ∈ wsL_law := List.mem_of_getElem? (i := 381) (by decide +kernel)
theorem lk_X5_120 : Cond.methodLink RX5 120 yX0_putFault ∈ wsL_law := List.mem_of_getElem? (i := 385) (by decide +kernel)
theorem lk_L_53 : Cond.methodLink RL 53 yX6_setFault ∈ wsL_law := List.mem_of_getElem? (i := 389) (by decide +kernel)
theorem lk_L_54 : Cond.methodLink RL 54 yX5_stick ∈ wsL_law := List.mem_of_getElem? (i := 393) (by decide +kernel)
theorem lk_X5_127 : Cond.methodLink RX5 127 yX5_bitOf ∈ wsL_law := List.mem_of_getElem? (i := 397) (by decide +kernel)
theorem lk_L_57 : Cond.methodLink RL 57 yX6_stick ∈ wsL_law := List.mem_of_getElem? (i := 400) (by decide +kernel)
theorem lk_L_58 : Cond.methodLink RL 58 yX5_step ∈ wsL_law := List.mem_of_getElem? (i := 404) (by decide +kernel)
theorem lk_X5_130 : Cond.methodLink RX5 130 yX0_nextSlot ∈ wsL_law := List.mem_of_getElem? (i := 408) (by decide +kernel)
theorem lk_X5_134 : Cond.methodLink RX5 134 yX0_kindOf ∈ wsL_law := List.mem_of_getElem? (i := 412) (by decide +kernel)
theorem lk_X0_124 : Cond.methodLink RX0 124 yX0_isBounceEnd ∈ wsL_law := List.mem_of_getElem? (i := 416) (by decide +kernel)
theorem lk_X0_128 : Cond.methodLink RX0 128 yX0_relayOf ∈ wsL_law := List.mem_of_getElem? (i := 419) (by decide +kernel)
theorem lk_X5_137 : Cond.methodLink RX5 137 yX0_happen ∈ wsL_law := List.mem_of_getElem? (i := 422) (by decide +kernel)
theorem lk_X0_138 : Cond.methodLink RX0 138 yX0_moveArmature ∈ wsL_law := List.mem_of_getElem? (i := 426) (by decide +kernel)
theorem lk_X5_141 : Cond.methodLink RX5 141 yX0_relayOf ∈ wsL_law := List.mem_of_getElem? (i := 430) (by decide +kernel)
theorem lk_L_61 : Cond.methodLink RL 61 yX6_step ∈ wsL_law := List.mem_of_getElem? (i := 431) (by decide +kernel)
theorem lk_X6_71 : Cond.methodLink RX6 71 yX6_next ∈ wsL_law := List.mem_of_getElem? (i := 435) (by decide +kernel)
theorem lk_X6_57 : Cond.methodLink RX6 57 yX6_waits ∈ wsL_law := List.mem_of_getElem? (i := 439) (by decide +kernel)
theorem lk_X6_61 : Cond.methodLink RX6 61 yX6_isAhead ∈ wsL_law := List.mem_of_getElem? (i := 443) (by decide +kernel)
theorem lk_X6_53 : Cond.methodLink RX6 53 yX6_timeOf ∈ wsL_law := List.mem_of_getElem? (i := 447) (by decide +kernel)
theorem lk_X6_75 : Cond.methodLink RX6 75 yX6_happens ∈ wsL_law := List.mem_of_getElem? (i := 451) (by decide +kernel)
theorem lk_L_62 : Cond.methodLink RL 62 yX5_settle ∈ wsL_law := List.mem_of_getElem? (i := 455) (by decide +kernel)
theorem ck_X5_144 : Cond.constant RX5 144 (2147483647) ∈ wsL_law := List.mem_of_getElem? (i := 459) (by decide +kernel)
theorem lk_X5_145 : Cond.methodLink RX5 145 yX0_run ∈ wsL_law := List.mem_of_getElem? (i := 460) (by decide +kernel)
theorem lk_X0_131 : Cond.methodLink RX0 131 yX0_nextSlot ∈ wsL_law := List.mem_of_getElem? (i := 464) (by decide +kernel)
theorem lk_X0_141 : Cond.methodLink RX0 141 yX0_happen ∈ wsL_law := List.mem_of_getElem? (i := 465) (by decide +kernel)
theorem lk_L_65 : Cond.methodLink RL 65 yX6_settle ∈ wsL_law := List.mem_of_getElem? (i := 466) (by decide +kernel)
theorem lk_X6_127 : Cond.methodLink RX6 127 yX6_settles ∈ wsL_law := List.mem_of_getElem? (i := 470) (by decide +kernel)
theorem lk_L_66 : Cond.methodLink RL 66 yX5_pass ∈ wsL_law := List.mem_of_getElem? (i := 474) (by decide +kernel)
theorem ck_X5_152 : Cond.constant RX5 152 (100000) ∈ wsL_law := List.mem_of_getElem? (i := 478) (by decide +kernel)
theorem lk_X5_153 : Cond.methodLink RX5 153 yX0_copy ∈ wsL_law := List.mem_of_getElem? (i := 479) (by decide +kernel)
theorem lk_L_69 : Cond.methodLink RL 69 yX6_pass ∈ wsL_law := List.mem_of_getElem? (i := 480) (by decide +kernel)
theorem ck_X6_131 : Cond.constant RX6 131 (100000) ∈ wsL_law := List.mem_of_getElem? (i := 484) (by decide +kernel)
theorem lk_L_70 : Cond.methodLink RL 70 yX5_count ∈ wsL_law := List.mem_of_getElem? (i := 485) (by decide +kernel)
theorem lk_X5_156 : Cond.methodLink RX5 156 yX0_waiting ∈ wsL_law := List.mem_of_getElem? (i := 489) (by decide +kernel)
theorem lk_X5_166 : Cond.methodLink RX5 166 yX0_closedContacts ∈ wsL_law := List.mem_of_getElem? (i := 493) (by decide +kernel)
theorem lk_L_73 : Cond.methodLink RL 73 yX6_count ∈ wsL_law := List.mem_of_getElem? (i := 494) (by decide +kernel)
theorem lk_X6_132 : Cond.methodLink RX6 132 yX6_set ∈ wsL_law := List.mem_of_getElem? (i := 498) (by decide +kernel)
theorem lk_L_74 : Cond.methodLink RL 74 yX5_relay ∈ wsL_law := List.mem_of_getElem? (i := 502) (by decide +kernel)
theorem lk_X5_176 : Cond.methodLink RX5 176 yX5_at ∈ wsL_law := List.mem_of_getElem? (i := 506) (by decide +kernel)
theorem lk_X5_186 : Cond.methodLink RX5 186 yX0_concerns ∈ wsL_law := List.mem_of_getElem? (i := 507) (by decide +kernel)
theorem lk_X5_189 : Cond.methodLink RX5 189 yX0_failing ∈ wsL_law := List.mem_of_getElem? (i := 511) (by decide +kernel)
theorem lk_X5_192 : Cond.methodLink RX5 192 yX0_conducts ∈ wsL_law := List.mem_of_getElem? (i := 512) (by decide +kernel)
theorem lk_L_77 : Cond.methodLink RL 77 yX6_relay ∈ wsL_law := List.mem_of_getElem? (i := 513) (by decide +kernel)
theorem lk_X6_135 : Cond.methodLink RX6 135 yX6_ofItself ∈ wsL_law := List.mem_of_getElem? (i := 517) (by decide +kernel)
theorem lk_L_78 : Cond.methodLink RL 78 yX5_condition ∈ wsL_law := List.mem_of_getElem? (i := 521) (by decide +kernel)
theorem lk_X5_195 : Cond.methodLink RX5 195 yX0_branchAt ∈ wsL_law := List.mem_of_getElem? (i := 525) (by decide +kernel)
theorem lk_X5_198 : Cond.methodLink RX5 198 yX1_howOf ∈ wsL_law := List.mem_of_getElem? (i := 526) (by decide +kernel)
theorem lk_L_81 : Cond.methodLink RL 81 yX6_condition ∈ wsL_law := List.mem_of_getElem? (i := 527) (by decide +kernel)
theorem lk_L_82 : Cond.methodLink RL 82 yX5_event ∈ wsL_law := List.mem_of_getElem? (i := 531) (by decide +kernel)
theorem lk_X5_203 : Cond.methodLink RX5 203 yX0_slotAt ∈ wsL_law := List.mem_of_getElem? (i := 535) (by decide +kernel)
theorem lk_X0_135 : Cond.methodLink RX0 135 yX0_eventsBefore ∈ wsL_law := List.mem_of_getElem? (i := 539) (by decide +kernel)
theorem lk_L_85 : Cond.methodLink RL 85 yX6_event ∈ wsL_law := List.mem_of_getElem? (i := 543) (by decide +kernel)
theorem lk_L_86 : Cond.methodLink RL 86 yX5_outcome ∈ wsL_law := List.mem_of_getElem? (i := 547) (by decide +kernel)
theorem lk_X5_209 : Cond.methodLink RX5 209 yX5_endingOf ∈ wsL_law := List.mem_of_getElem? (i := 551) (by decide +kernel)
theorem lk_X5_217 : Cond.methodLink RX5 217 yX0_isQuiet ∈ wsL_law := List.mem_of_getElem? (i := 555) (by decide +kernel)
theorem lk_L_89 : Cond.methodLink RL 89 yX6_outcome ∈ wsL_law := List.mem_of_getElem? (i := 559) (by decide +kernel)
theorem lk_X6_138 : Cond.methodLink RX6 138 yX6_ends ∈ wsL_law := List.mem_of_getElem? (i := 563) (by decide +kernel)
theorem lk_X6_141 : Cond.methodLink RX6 141 yX6_restores ∈ wsL_law := List.mem_of_getElem? (i := 567) (by decide +kernel)
theorem lk_L_90 : Cond.methodLink RL 90 yX5_isRace ∈ wsL_law := List.mem_of_getElem? (i := 571) (by decide +kernel)
theorem lk_X5_213 : Cond.methodLink RX5 213 yX5_raceIn ∈ wsL_law := List.mem_of_getElem? (i := 575) (by decide +kernel)
theorem lk_L_93 : Cond.methodLink RL 93 yX6_isRace ∈ wsL_law := List.mem_of_getElem? (i := 579) (by decide +kernel)
theorem lk_X6_144 : Cond.methodLink RX6 144 yX6_races ∈ wsL_law := List.mem_of_getElem? (i := 583) (by decide +kernel)
theorem lk_L_94 : Cond.methodLink RL 94 yX5_raceBy ∈ wsL_law := List.mem_of_getElem? (i := 587) (by decide +kernel)
theorem lk_L_97 : Cond.methodLink RL 97 yX6_raceBy ∈ wsL_law := List.mem_of_getElem? (i := 591) (by decide +kernel)
theorem lk_L_98 : Cond.methodLink RL 98 yX5_hazards ∈ wsL_law := List.mem_of_getElem? (i := 595) (by decide +kernel)
theorem lk_L_101 : Cond.methodLink RL 101 yX6_hazards ∈ wsL_law := List.mem_of_getElem? (i := 599) (by decide +kernel)
theorem lk_L_102 : Cond.methodLink RL 102 yX5_stableStates ∈ wsL_law := List.mem_of_getElem? (i := 603) (by decide +kernel)
theorem lk_X5_221 : Cond.methodLink RX5 221 yX0_isStable ∈ wsL_law := List.mem_of_getElem? (i := 607) (by decide +kernel)
theorem lk_L_105 : Cond.methodLink RL 105 yX6_stableStates ∈ wsL_law := List.mem_of_getElem? (i := 611) (by decide +kernel)
theorem lk_X6_147 : Cond.methodLink RX6 147 yX6_isStable ∈ wsL_law := List.mem_of_getElem? (i := 615) (by decide +kernel)
theorem lk_L_106 : Cond.methodLink RL 106 yX5_explain ∈ wsL_law := List.mem_of_getElem? (i := 619) (by decide +kernel)
theorem lk_L_109 : Cond.methodLink RL 109 yX6_explain ∈ wsL_law := List.mem_of_getElem? (i := 623) (by decide +kernel)
theorem lk_L_110 : Cond.methodLink RL 110 yX5_undo ∈ wsL_law := List.mem_of_getElem? (i := 627) (by decide +kernel)
theorem lk_X5_224 : Cond.methodLink RX5 224 yX3_restore ∈ wsL_law := List.mem_of_getElem? (i := 631) (by decide +kernel)
theorem lk_L_113 : Cond.methodLink RL 113 yX6_undo ∈ wsL_law := List.mem_of_getElem? (i := 635) (by decide +kernel)
theorem nk_X0_65 : (RX0, 65, yX5_isWithin) ∈ nestG := List.mem_of_getElem? (i := 0) rfl
theorem nk_X0_73 : (RX0, 73, yX5_at) ∈ nestG := List.mem_of_getElem? (i := 1) rfl
theorem nk_X0_77 : (RX0, 77, yX5_put) ∈ nestG := List.mem_of_getElem? (i := 2) rfl
theorem nk_X0_106 : (RX0, 106, yX5_isIn) ∈ nestG := List.mem_of_getElem? (i := 3) rfl
theorem nk_X2_52 : (RX2, 52, yX5_put) ∈ nestG := List.mem_of_getElem? (i := 4) rfl
theorem nk_X2_60 : (RX2, 60, yX5_at) ∈ nestG := List.mem_of_getElem? (i := 5) rfl
theorem nk_X2_74 : (RX2, 74, yX5_isWithin) ∈ nestG := List.mem_of_getElem? (i := 6) rfl
theorem nk_X5_25 : (RX5, 25, yX4_init) ∈ nestG := List.mem_of_getElem? (i := 7) rfl
theorem nk_X5_32 : (RX5, 32, yX2_init) ∈ nestG := List.mem_of_getElem? (i := 8) rfl
theorem iw_X5_init : IW yX5_init cX5_init 1 0 := ⟨⟨List.mem_of_getElem? (i := 2) (by decide +kernel), List.mem_of_getElem? (i := 8) (by decide +kernel), by decide, by decide +kernel⟩, List.mem_of_getElem? (i := 7) (by decide +kernel), rfl⟩
theorem iw_X0_init : IW yX0_init cX0_init 2 0 := ⟨⟨List.mem_of_getElem? (i := 14) (by decide +kernel), List.mem_of_getElem? (i := 32) (by decide +kernel), by decide, by decide +kernel⟩, List.mem_of_getElem? (i := 31) (by decide +kernel), rfl⟩
theorem iw_X3_init : IW yX3_init cX3_init 2 0 := ⟨⟨List.mem_of_getElem? (i := 18) (by decide +kernel), List.mem_of_getElem? (i := 44) (by decide +kernel), by decide, by decide +kernel⟩, List.mem_of_getElem? (i := 43) (by decide +kernel), rfl⟩
theorem iw_X4_init : IW yX4_init cX4_init 1 0 := ⟨⟨List.mem_of_getElem? (i := 22) (by decide +kernel), List.mem_of_getElem? (i := 50) (by decide +kernel), by decide, by decide +kernel⟩, List.mem_of_getElem? (i := 49) (by decide +kernel), rfl⟩
theorem iw_X2_init : IW yX2_init cX2_init 1 0 := ⟨⟨List.mem_of_getElem? (i := 26) (by decide +kernel), List.mem_of_getElem? (i := 55) (by decide +kernel), by decide, by decide +kernel⟩, List.mem_of_getElem? (i := 54) (by decide +kernel), rfl⟩
theorem iw_X6_init : IW yX6_init cX6_init 1 0 := ⟨⟨List.mem_of_getElem? (i := 5) (by decide +kernel), List.mem_of_getElem? (i := 60) (by decide +kernel), by decide, by decide +kernel⟩, List.mem_of_getElem? (i := 59) (by decide +kernel), rfl⟩
theorem vw_X5_addRelay : VW yX5_addRelay cX5_addRelay 4 (some .int) 3 := ⟨⟨List.mem_of_getElem? (i := 2) (by decide +kernel), List.mem_of_getElem? (i := 72) (by decide +kernel), by decide, by decide +kernel⟩, List.mem_of_getElem? (i := 70) (by decide +kernel), List.mem_of_getElem? (i := 71) (by decide +kernel)⟩
theorem vw_X5_areDelays : SW yX5_areDelays cX5_areDelays 3 (some .boolean) 3 := ⟨⟨List.mem_of_getElem? (i := 2) (by decide +kernel), List.mem_of_getElem? (i := 75) (by decide +kernel), by decide, by decide +kernel⟩, List.mem_of_getElem? (i := 74) (by decide +kernel)⟩
theorem vw_X5_isWithin : SW yX5_isWithin cX5_isWithin 3 (some .boolean) 3 := ⟨⟨List.mem_of_getElem? (i := 2) (by decide +kernel), List.mem_of_getElem? (i := 78) (by decide +kernel), by decide, by decide +kernel⟩, List.mem_of_getElem? (i := 77) (by decide +kernel)⟩
theorem vw_X3_save : VW yX3_save cX3_save 3 none 1 := ⟨⟨List.mem_of_getElem? (i := 18) (by decide +kernel), List.mem_of_getElem? (i := 82) (by decide +kernel), by decide, by decide +kernel⟩, List.mem_of_getElem? (i := 80) (by decide +kernel), List.mem_of_getElem? (i := 81) (by decide +kernel)⟩
theorem vw_J9_floorMod_7cf53 : SW yJ9_floorMod_7cf53 cJ9_floorMod_7cf53 3 (some .int) 2 := ⟨⟨List.mem_of_getElem? (i := 87) (by decide +kernel), List.mem_of_getElem? (i := 88) (by decide +kernel), by decide, by decide +kernel⟩, List.mem_of_getElem? (i := 86) (by decide +kernel)⟩
theorem vw_X3_bankAt : VW yX3_bankAt cX3_bankAt 3 (some (.object "RelayBank$Bank")) 1 := ⟨⟨List.mem_of_getElem? (i := 18) (by decide +kernel), List.mem_of_getElem? (i := 92) (by decide +kernel), by decide, by decide +kernel⟩, List.mem_of_getElem? (i := 90) (by decide +kernel), List.mem_of_getElem? (i := 91) (by decide +kernel)⟩
theorem vw_X0_copy : VW yX0_copy cX0_copy 2 none 1 := ⟨⟨List.mem_of_getElem? (i := 14) (by decide +kernel), List.mem_of_getElem? (i := 96) (by decide +kernel), by decide, by decide +kernel⟩, List.mem_of_getElem? (i := 94) (by decide +kernel), List.mem_of_getElem? (i := 95) (by decide +kernel)⟩
theorem vw_X0_add : VW yX0_add cX0_add 5 (some .int) 3 := ⟨⟨List.mem_of_getElem? (i := 14) (by decide +kernel), List.mem_of_getElem? (i := 113) (by decide +kernel), by decide, by decide +kernel⟩, List.mem_of_getElem? (i := 111) (by decide +kernel), List.mem_of_getElem? (i := 112) (by decide +kernel)⟩
theorem vw_X0_putDelays : VW yX0_putDelays cX0_putDelays 6 (some .boolean) 4 := ⟨⟨List.mem_of_getElem? (i := 14) (by decide +kernel), List.mem_of_getElem? (i := 117) (by decide +kernel), by decide, by decide +kernel⟩, List.mem_of_getElem? (i := 115) (by decide +kernel), List.mem_of_getElem? (i := 116) (by decide +kernel)⟩
theorem vw_X5_at : SW yX5_at cX5_at 2 (some .int) 2 := ⟨⟨List.mem_of_getElem? (i := 2) (by decide +kernel), List.mem_of_getElem? (i := 119) (by decide +kernel), by decide, by decide +kernel⟩, List.mem_of_getElem? (i := 118) (by decide +kernel)⟩
theorem vw_X5_put : SW yX5_put cX5_put 3 none 3 := ⟨⟨List.mem_of_getElem? (i := 2) (by decide +kernel), List.mem_of_getElem? (i := 121) (by decide +kernel), by decide, by decide +kernel⟩, List.mem_of_getElem? (i := 120) (by decide +kernel)⟩
theorem vw_X6_addRelay : VW yX6_addRelay cX6_addRelay 6 (some .int) 3 := ⟨⟨List.mem_of_getElem? (i := 5) (by decide +kernel), List.mem_of_getElem? (i := 125) (by decide +kernel), by decide, by decide +kernel⟩, List.mem_of_getElem? (i := 123) (by decide +kernel), List.mem_of_getElem? (i := 124) (by decide +kernel)⟩
theorem vw_X6_in : SW yX6_in cX6_in 3 (some .boolean) 3 := ⟨⟨List.mem_of_getElem? (i := 5) (by decide +kernel), List.mem_of_getElem? (i := 128) (by decide +kernel), by decide, by decide +kernel⟩, List.mem_of_getElem? (i := 127) (by decide +kernel)⟩
theorem vw_X6_notes : VW yX6_notes cX6_notes 2 none 0 := ⟨⟨List.mem_of_getElem? (i := 5) (by decide +kernel), List.mem_of_getElem? (i := 132) (by decide +kernel), by decide, by decide +kernel⟩, List.mem_of_getElem? (i := 130) (by decide +kernel), List.mem_of_getElem? (i := 131) (by decide +kernel)⟩
theorem vw_X6_puts : VW yX6_puts cX6_puts 4 none 3 := ⟨⟨List.mem_of_getElem? (i := 5) (by decide +kernel), List.mem_of_getElem? (i := 137) (by decide +kernel), by decide, by decide +kernel⟩, List.mem_of_getElem? (i := 135) (by decide +kernel), List.mem_of_getElem? (i := 136) (by decide +kernel)⟩
theorem vw_X5_setDelays : VW yX5_setDelays cX5_setDelays 5 (some .int) 4 := ⟨⟨List.mem_of_getElem? (i := 2) (by decide +kernel), List.mem_of_getElem? (i := 141) (by decide +kernel), by decide, by decide +kernel⟩, List.mem_of_getElem? (i := 139) (by decide +kernel), List.mem_of_getElem? (i := 140) (by decide +kernel)⟩
theorem vw_X0_has : VW yX0_has cX0_has 2 (some .boolean) 1 := ⟨⟨List.mem_of_getElem? (i := 14) (by decide +kernel), List.mem_of_getElem? (i := 145) (by decide +kernel), by decide, by decide +kernel⟩, List.mem_of_getElem? (i := 143) (by decide +kernel), List.mem_of_getElem? (i := 144) (by decide +kernel)⟩
theorem vw_X6_setDelays : VW yX6_setDelays cX6_setDelays 6 (some .int) 4 := ⟨⟨List.mem_of_getElem? (i := 5) (by decide +kernel), List.mem_of_getElem? (i := 150) (by decide +kernel), by decide, by decide +kernel⟩, List.mem_of_getElem? (i := 148) (by decide +kernel), List.mem_of_getElem? (i := 149) (by decide +kernel)⟩
theorem vw_X6_isRelay : VW yX6_isRelay cX6_isRelay 2 (some .boolean) 1 := ⟨⟨List.mem_of_getElem? (i := 5) (by decide +kernel), List.mem_of_getElem? (i := 154) (by decide +kernel), by decide, by decide +kernel⟩, List.mem_of_getElem? (i := 152) (by decide +kernel), List.mem_of_getElem? (i := 153) (by decide +kernel)⟩
theorem vw_X6_of : VW yX6_of cX6_of 3 (some .int) 2 := ⟨⟨List.mem_of_getElem? (i := 5) (by decide +kernel), List.mem_of_getElem? (i := 158) (by decide +kernel), by decide, by decide +kernel⟩, List.mem_of_getElem? (i := 156) (by decide +kernel), List.mem_of_getElem? (i := 157) (by decide +kernel)⟩
theorem vw_X5_setCondition : VW yX5_setCondition cX5_setCondition 5 (some .int) 4 := ⟨⟨List.mem_of_getElem? (i := 2) (by decide +kernel), List.mem_of_getElem? (i := 162) (by decide +kernel), by decide, by decide +kernel⟩, List.mem_of_getElem? (i := 160) (by decide +kernel), List.mem_of_getElem? (i := 161) (by decide +kernel)⟩
theorem vw_X0_branchesOf : VW yX0_branchesOf cX0_branchesOf 2 (some .int) 1 := ⟨⟨List.mem_of_getElem? (i := 14) (by decide +kernel), List.mem_of_getElem? (i := 166) (by decide +kernel), by decide, by decide +kernel⟩, List.mem_of_getElem? (i := 164) (by decide +kernel), List.mem_of_getElem? (i := 165) (by decide +kernel)⟩
theorem vw_X0_putCondition : VW yX0_putCondition cX0_putCondition 7 (some .int) 4 := ⟨⟨List.mem_of_getElem? (i := 14) (by decide +kernel), List.mem_of_getElem? (i := 170) (by decide +kernel), by decide, by decide +kernel⟩, List.mem_of_getElem? (i := 168) (by decide +kernel), List.mem_of_getElem? (i := 169) (by decide +kernel)⟩
theorem vw_X0_branchAt : VW yX0_branchAt cX0_branchAt 3 (some .int) 2 := ⟨⟨List.mem_of_getElem? (i := 14) (by decide +kernel), List.mem_of_getElem? (i := 175) (by decide +kernel), by decide, by decide +kernel⟩, List.mem_of_getElem? (i := 173) (by decide +kernel), List.mem_of_getElem? (i := 174) (by decide +kernel)⟩
theorem vw_X1_with : SW yX1_with cX1_with 4 (some .int) 3 := ⟨⟨List.mem_of_getElem? (i := 178) (by decide +kernel), List.mem_of_getElem? (i := 179) (by decide +kernel), by decide, by decide +kernel⟩, List.mem_of_getElem? (i := 177) (by decide +kernel)⟩
theorem vw_X1_bit : SW yX1_bit cX1_bit 2 (some .int) 2 := ⟨⟨List.mem_of_getElem? (i := 178) (by decide +kernel), List.mem_of_getElem? (i := 182) (by decide +kernel), by decide, by decide +kernel⟩, List.mem_of_getElem? (i := 181) (by decide +kernel)⟩
theorem vw_X0_putBranch : VW yX0_putBranch cX0_putBranch 4 none 3 := ⟨⟨List.mem_of_getElem? (i := 14) (by decide +kernel), List.mem_of_getElem? (i := 186) (by decide +kernel), by decide, by decide +kernel⟩, List.mem_of_getElem? (i := 184) (by decide +kernel), List.mem_of_getElem? (i := 185) (by decide +kernel)⟩
theorem vw_X0_lookAtCoils : VW yX0_lookAtCoils cX0_lookAtCoils 4 (some .int) 0 := ⟨⟨List.mem_of_getElem? (i := 14) (by decide +kernel), List.mem_of_getElem? (i := 190) (by decide +kernel), by decide, by decide +kernel⟩, List.mem_of_getElem? (i := 188) (by decide +kernel), List.mem_of_getElem? (i := 189) (by decide +kernel)⟩
theorem vw_X0_failing : VW yX0_failing cX0_failing 2 (some .int) 0 := ⟨⟨List.mem_of_getElem? (i := 14) (by decide +kernel), List.mem_of_getElem? (i := 194) (by decide +kernel), by decide, by decide +kernel⟩, List.mem_of_getElem? (i := 192) (by decide +kernel), List.mem_of_getElem? (i := 193) (by decide +kernel)⟩
theorem vw_X0_closedContacts : VW yX0_closedContacts cX0_closedContacts 1 (some .int) 0 := ⟨⟨List.mem_of_getElem? (i := 14) (by decide +kernel), List.mem_of_getElem? (i := 199) (by decide +kernel), by decide, by decide +kernel⟩, List.mem_of_getElem? (i := 197) (by decide +kernel), List.mem_of_getElem? (i := 198) (by decide +kernel)⟩
theorem vw_X0_conducts : VW yX0_conducts cX0_conducts 6 (some .boolean) 2 := ⟨⟨List.mem_of_getElem? (i := 14) (by decide +kernel), List.mem_of_getElem? (i := 203) (by decide +kernel), by decide, by decide +kernel⟩, List.mem_of_getElem? (i := 201) (by decide +kernel), List.mem_of_getElem? (i := 202) (by decide +kernel)⟩
theorem vw_X5_isIn : SW yX5_isIn cX5_isIn 2 (some .boolean) 2 := ⟨⟨List.mem_of_getElem? (i := 2) (by decide +kernel), List.mem_of_getElem? (i := 205) (by decide +kernel), by decide, by decide +kernel⟩, List.mem_of_getElem? (i := 204) (by decide +kernel)⟩
theorem vw_X0_turnCoil : VW yX0_turnCoil cX0_turnCoil 3 none 1 := ⟨⟨List.mem_of_getElem? (i := 14) (by decide +kernel), List.mem_of_getElem? (i := 209) (by decide +kernel), by decide, by decide +kernel⟩, List.mem_of_getElem? (i := 207) (by decide +kernel), List.mem_of_getElem? (i := 208) (by decide +kernel)⟩
theorem vw_X1_howOf : SW yX1_howOf cX1_howOf 2 (some .int) 2 := ⟨⟨List.mem_of_getElem? (i := 178) (by decide +kernel), List.mem_of_getElem? (i := 212) (by decide +kernel), by decide, by decide +kernel⟩, List.mem_of_getElem? (i := 211) (by decide +kernel)⟩
theorem vw_X6_setCondition : VW yX6_setCondition cX6_setCondition 6 (some .int) 4 := ⟨⟨List.mem_of_getElem? (i := 5) (by decide +kernel), List.mem_of_getElem? (i := 216) (by decide +kernel), by decide, by decide +kernel⟩, List.mem_of_getElem? (i := 214) (by decide +kernel), List.mem_of_getElem? (i := 215) (by decide +kernel)⟩
theorem vw_X6_isSubject : VW yX6_isSubject cX6_isSubject 2 (some .boolean) 1 := ⟨⟨List.mem_of_getElem? (i := 5) (by decide +kernel), List.mem_of_getElem? (i := 221) (by decide +kernel), by decide, by decide +kernel⟩, List.mem_of_getElem? (i := 219) (by decide +kernel), List.mem_of_getElem? (i := 220) (by decide +kernel)⟩
theorem vw_X6_opensBranch : VW yX6_opensBranch cX6_opensBranch 3 none 1 := ⟨⟨List.mem_of_getElem? (i := 5) (by decide +kernel), List.mem_of_getElem? (i := 225) (by decide +kernel), by decide, by decide +kernel⟩, List.mem_of_getElem? (i := 223) (by decide +kernel), List.mem_of_getElem? (i := 224) (by decide +kernel)⟩
theorem vw_X6_how : VW yX6_how cX6_how 6 (some .int) 3 := ⟨⟨List.mem_of_getElem? (i := 5) (by decide +kernel), List.mem_of_getElem? (i := 229) (by decide +kernel), by decide, by decide +kernel⟩, List.mem_of_getElem? (i := 227) (by decide +kernel), List.mem_of_getElem? (i := 228) (by decide +kernel)⟩
theorem vw_X6_conditions : VW yX6_conditions cX6_conditions 8 none 4 := ⟨⟨List.mem_of_getElem? (i := 5) (by decide +kernel), List.mem_of_getElem? (i := 233) (by decide +kernel), by decide, by decide +kernel⟩, List.mem_of_getElem? (i := 231) (by decide +kernel), List.mem_of_getElem? (i := 232) (by decide +kernel)⟩
theorem vw_X6_looks : VW yX6_looks cX6_looks 6 (some .int) 0 := ⟨⟨List.mem_of_getElem? (i := 5) (by decide +kernel), List.mem_of_getElem? (i := 237) (by decide +kernel), by decide, by decide +kernel⟩, List.mem_of_getElem? (i := 235) (by decide +kernel), List.mem_of_getElem? (i := 236) (by decide +kernel)⟩
theorem vw_X6_closed : VW yX6_closed cX6_closed 4 (some .int) 0 := ⟨⟨List.mem_of_getElem? (i := 5) (by decide +kernel), List.mem_of_getElem? (i := 241) (by decide +kernel), by decide, by decide +kernel⟩, List.mem_of_getElem? (i := 239) (by decide +kernel), List.mem_of_getElem? (i := 240) (by decide +kernel)⟩
theorem vw_X6_conducts : VW yX6_conducts cX6_conducts 7 (some .boolean) 2 := ⟨⟨List.mem_of_getElem? (i := 5) (by decide +kernel), List.mem_of_getElem? (i := 245) (by decide +kernel), by decide, by decide +kernel⟩, List.mem_of_getElem? (i := 243) (by decide +kernel), List.mem_of_getElem? (i := 244) (by decide +kernel)⟩
theorem vw_X5_removeBranch : VW yX5_removeBranch cX5_removeBranch 3 (some .int) 2 := ⟨⟨List.mem_of_getElem? (i := 2) (by decide +kernel), List.mem_of_getElem? (i := 249) (by decide +kernel), by decide, by decide +kernel⟩, List.mem_of_getElem? (i := 247) (by decide +kernel), List.mem_of_getElem? (i := 248) (by decide +kernel)⟩
theorem vw_X0_dropBranch : VW yX0_dropBranch cX0_dropBranch 5 (some .int) 2 := ⟨⟨List.mem_of_getElem? (i := 14) (by decide +kernel), List.mem_of_getElem? (i := 253) (by decide +kernel), by decide, by decide +kernel⟩, List.mem_of_getElem? (i := 251) (by decide +kernel), List.mem_of_getElem? (i := 252) (by decide +kernel)⟩
theorem vw_X6_removeBranch : VW yX6_removeBranch cX6_removeBranch 4 (some .int) 2 := ⟨⟨List.mem_of_getElem? (i := 5) (by decide +kernel), List.mem_of_getElem? (i := 257) (by decide +kernel), by decide, by decide +kernel⟩, List.mem_of_getElem? (i := 255) (by decide +kernel), List.mem_of_getElem? (i := 256) (by decide +kernel)⟩
theorem vw_X5_appendCharacter : VW yX5_appendCharacter cX5_appendCharacter 2 (some .int) 1 := ⟨⟨List.mem_of_getElem? (i := 2) (by decide +kernel), List.mem_of_getElem? (i := 261) (by decide +kernel), by decide, by decide +kernel⟩, List.mem_of_getElem? (i := 259) (by decide +kernel), List.mem_of_getElem? (i := 260) (by decide +kernel)⟩
theorem vw_X4_append : VW yX4_append cX4_append 2 none 1 := ⟨⟨List.mem_of_getElem? (i := 22) (by decide +kernel), List.mem_of_getElem? (i := 265) (by decide +kernel), by decide, by decide +kernel⟩, List.mem_of_getElem? (i := 263) (by decide +kernel), List.mem_of_getElem? (i := 264) (by decide +kernel)⟩
theorem vw_X6_appendCharacter : VW yX6_appendCharacter cX6_appendCharacter 2 (some .int) 1 := ⟨⟨List.mem_of_getElem? (i := 5) (by decide +kernel), List.mem_of_getElem? (i := 270) (by decide +kernel), by decide, by decide +kernel⟩, List.mem_of_getElem? (i := 268) (by decide +kernel), List.mem_of_getElem? (i := 269) (by decide +kernel)⟩
theorem vw_X5_clearText : VW yX5_clearText cX5_clearText 2 (some .int) 0 := ⟨⟨List.mem_of_getElem? (i := 2) (by decide +kernel), List.mem_of_getElem? (i := 274) (by decide +kernel), by decide, by decide +kernel⟩, List.mem_of_getElem? (i := 272) (by decide +kernel), List.mem_of_getElem? (i := 273) (by decide +kernel)⟩
theorem vw_X6_clearText : VW yX6_clearText cX6_clearText 2 (some .int) 0 := ⟨⟨List.mem_of_getElem? (i := 5) (by decide +kernel), List.mem_of_getElem? (i := 278) (by decide +kernel), by decide, by decide +kernel⟩, List.mem_of_getElem? (i := 276) (by decide +kernel), List.mem_of_getElem? (i := 277) (by decide +kernel)⟩
theorem vw_X5_load : VW yX5_load cX5_load 3 (some .int) 1 := ⟨⟨List.mem_of_getElem? (i := 2) (by decide +kernel), List.mem_of_getElem? (i := 282) (by decide +kernel), by decide, by decide +kernel⟩, List.mem_of_getElem? (i := 280) (by decide +kernel), List.mem_of_getElem? (i := 281) (by decide +kernel)⟩
theorem vw_X2_read : VW yX2_read cX2_read 5 (some .int) 2 := ⟨⟨List.mem_of_getElem? (i := 26) (by decide +kernel), List.mem_of_getElem? (i := 286) (by decide +kernel), by decide, by decide +kernel⟩, List.mem_of_getElem? (i := 284) (by decide +kernel), List.mem_of_getElem? (i := 285) (by decide +kernel)⟩
theorem vw_X4_characterAt : VW yX4_characterAt cX4_characterAt 2 (some .char) 1 := ⟨⟨List.mem_of_getElem? (i := 22) (by decide +kernel), List.mem_of_getElem? (i := 293) (by decide +kernel), by decide, by decide +kernel⟩, List.mem_of_getElem? (i := 291) (by decide +kernel), List.mem_of_getElem? (i := 292) (by decide +kernel)⟩
theorem vw_X2_take : VW yX2_take cX2_take 2 (some .boolean) 1 := ⟨⟨List.mem_of_getElem? (i := 26) (by decide +kernel), List.mem_of_getElem? (i := 297) (by decide +kernel), by decide, by decide +kernel⟩, List.mem_of_getElem? (i := 295) (by decide +kernel), List.mem_of_getElem? (i := 296) (by decide +kernel)⟩
theorem vw_X2_goTo : VW yX2_goTo cX2_goTo 2 (some .boolean) 1 := ⟨⟨List.mem_of_getElem? (i := 26) (by decide +kernel), List.mem_of_getElem? (i := 301) (by decide +kernel), by decide, by decide +kernel⟩, List.mem_of_getElem? (i := 299) (by decide +kernel), List.mem_of_getElem? (i := 300) (by decide +kernel)⟩
theorem vw_X2_beginBranch : VW yX2_beginBranch cX2_beginBranch 2 (some .boolean) 1 := ⟨⟨List.mem_of_getElem? (i := 26) (by decide +kernel), List.mem_of_getElem? (i := 305) (by decide +kernel), by decide, by decide +kernel⟩, List.mem_of_getElem? (i := 303) (by decide +kernel), List.mem_of_getElem? (i := 304) (by decide +kernel)⟩
theorem vw_X2_beginCondition : VW yX2_beginCondition cX2_beginCondition 2 (some .boolean) 1 := ⟨⟨List.mem_of_getElem? (i := 26) (by decide +kernel), List.mem_of_getElem? (i := 309) (by decide +kernel), by decide, by decide +kernel⟩, List.mem_of_getElem? (i := 307) (by decide +kernel), List.mem_of_getElem? (i := 308) (by decide +kernel)⟩
theorem vw_X2_takeLetter : VW yX2_takeLetter cX2_takeLetter 5 (some .boolean) 2 := ⟨⟨List.mem_of_getElem? (i := 26) (by decide +kernel), List.mem_of_getElem? (i := 313) (by decide +kernel), by decide, by decide +kernel⟩, List.mem_of_getElem? (i := 311) (by decide +kernel), List.mem_of_getElem? (i := 312) (by decide +kernel)⟩
theorem vw_X2_subjectOf : VW yX2_subjectOf cX2_subjectOf 2 (some .int) 1 := ⟨⟨List.mem_of_getElem? (i := 26) (by decide +kernel), List.mem_of_getElem? (i := 317) (by decide +kernel), by decide, by decide +kernel⟩, List.mem_of_getElem? (i := 315) (by decide +kernel), List.mem_of_getElem? (i := 316) (by decide +kernel)⟩
theorem vw_X0_putCircuit : VW yX0_putCircuit cX0_putCircuit 5 none 3 := ⟨⟨List.mem_of_getElem? (i := 14) (by decide +kernel), List.mem_of_getElem? (i := 323) (by decide +kernel), by decide, by decide +kernel⟩, List.mem_of_getElem? (i := 321) (by decide +kernel), List.mem_of_getElem? (i := 322) (by decide +kernel)⟩
theorem vw_X6_load : VW yX6_load cX6_load 3 (some .int) 1 := ⟨⟨List.mem_of_getElem? (i := 5) (by decide +kernel), List.mem_of_getElem? (i := 327) (by decide +kernel), by decide, by decide +kernel⟩, List.mem_of_getElem? (i := 325) (by decide +kernel), List.mem_of_getElem? (i := 326) (by decide +kernel)⟩
theorem vw_X6_keeps : VW yX6_keeps cX6_keeps 2 none 0 := ⟨⟨List.mem_of_getElem? (i := 5) (by decide +kernel), List.mem_of_getElem? (i := 332) (by decide +kernel), by decide, by decide +kernel⟩, List.mem_of_getElem? (i := 330) (by decide +kernel), List.mem_of_getElem? (i := 331) (by decide +kernel)⟩
theorem vw_X6_reads : VW yX6_reads cX6_reads 3 (some .boolean) 1 := ⟨⟨List.mem_of_getElem? (i := 5) (by decide +kernel), List.mem_of_getElem? (i := 336) (by decide +kernel), by decide, by decide +kernel⟩, List.mem_of_getElem? (i := 334) (by decide +kernel), List.mem_of_getElem? (i := 335) (by decide +kernel)⟩
theorem vw_X6_here : VW yX6_here cX6_here 1 (some .int) 0 := ⟨⟨List.mem_of_getElem? (i := 5) (by decide +kernel), List.mem_of_getElem? (i := 340) (by decide +kernel), by decide, by decide +kernel⟩, List.mem_of_getElem? (i := 338) (by decide +kernel), List.mem_of_getElem? (i := 339) (by decide +kernel)⟩
theorem vw_X6_readsBranch : VW yX6_readsBranch cX6_readsBranch 5 (some .boolean) 1 := ⟨⟨List.mem_of_getElem? (i := 5) (by decide +kernel), List.mem_of_getElem? (i := 344) (by decide +kernel), by decide, by decide +kernel⟩, List.mem_of_getElem? (i := 342) (by decide +kernel), List.mem_of_getElem? (i := 343) (by decide +kernel)⟩
theorem vw_X6_isEnd : VW yX6_isEnd cX6_isEnd 1 (some .boolean) 0 := ⟨⟨List.mem_of_getElem? (i := 5) (by decide +kernel), List.mem_of_getElem? (i := 348) (by decide +kernel), by decide, by decide +kernel⟩, List.mem_of_getElem? (i := 346) (by decide +kernel), List.mem_of_getElem? (i := 347) (by decide +kernel)⟩
theorem vw_X6_readsCondition : VW yX6_readsCondition cX6_readsCondition 5 (some .boolean) 2 := ⟨⟨List.mem_of_getElem? (i := 5) (by decide +kernel), List.mem_of_getElem? (i := 352) (by decide +kernel), by decide, by decide +kernel⟩, List.mem_of_getElem? (i := 350) (by decide +kernel), List.mem_of_getElem? (i := 351) (by decide +kernel)⟩
theorem vw_X6_subject : VW yX6_subject cX6_subject 2 (some .int) 1 := ⟨⟨List.mem_of_getElem? (i := 5) (by decide +kernel), List.mem_of_getElem? (i := 356) (by decide +kernel), by decide, by decide +kernel⟩, List.mem_of_getElem? (i := 354) (by decide +kernel), List.mem_of_getElem? (i := 355) (by decide +kernel)⟩
theorem vw_X6_exchanges : VW yX6_exchanges cX6_exchanges 3 none 0 := ⟨⟨List.mem_of_getElem? (i := 5) (by decide +kernel), List.mem_of_getElem? (i := 360) (by decide +kernel), by decide, by decide +kernel⟩, List.mem_of_getElem? (i := 358) (by decide +kernel), List.mem_of_getElem? (i := 359) (by decide +kernel)⟩
theorem vw_X5_press : VW yX5_press cX5_press 3 (some .int) 2 := ⟨⟨List.mem_of_getElem? (i := 2) (by decide +kernel), List.mem_of_getElem? (i := 364) (by decide +kernel), by decide, by decide +kernel⟩, List.mem_of_getElem? (i := 362) (by decide +kernel), List.mem_of_getElem? (i := 363) (by decide +kernel)⟩
theorem vw_X5_isKey : SW yX5_isKey cX5_isKey 1 (some .boolean) 1 := ⟨⟨List.mem_of_getElem? (i := 2) (by decide +kernel), List.mem_of_getElem? (i := 367) (by decide +kernel), by decide, by decide +kernel⟩, List.mem_of_getElem? (i := 366) (by decide +kernel)⟩
theorem vw_X0_turnKey : VW yX0_turnKey cX0_turnKey 2 (some .int) 1 := ⟨⟨List.mem_of_getElem? (i := 14) (by decide +kernel), List.mem_of_getElem? (i := 372) (by decide +kernel), by decide, by decide +kernel⟩, List.mem_of_getElem? (i := 370) (by decide +kernel), List.mem_of_getElem? (i := 371) (by decide +kernel)⟩
theorem vw_X6_press : VW yX6_press cX6_press 3 (some .int) 2 := ⟨⟨List.mem_of_getElem? (i := 5) (by decide +kernel), List.mem_of_getElem? (i := 376) (by decide +kernel), by decide, by decide +kernel⟩, List.mem_of_getElem? (i := 374) (by decide +kernel), List.mem_of_getElem? (i := 375) (by decide +kernel)⟩
theorem vw_X5_setFault : VW yX5_setFault cX5_setFault 4 (some .int) 2 := ⟨⟨List.mem_of_getElem? (i := 2) (by decide +kernel), List.mem_of_getElem? (i := 380) (by decide +kernel), by decide, by decide +kernel⟩, List.mem_of_getElem? (i := 378) (by decide +kernel), List.mem_of_getElem? (i := 379) (by decide +kernel)⟩
theorem vw_X0_faultOf : VW yX0_faultOf cX0_faultOf 2 (some .int) 1 := ⟨⟨List.mem_of_getElem? (i := 14) (by decide +kernel), List.mem_of_getElem? (i := 384) (by decide +kernel), by decide, by decide +kernel⟩, List.mem_of_getElem? (i := 382) (by decide +kernel), List.mem_of_getElem? (i := 383) (by decide +kernel)⟩
theorem vw_X0_putFault : VW yX0_putFault cX0_putFault 4 none 2 := ⟨⟨List.mem_of_getElem? (i := 14) (by decide +kernel), List.mem_of_getElem? (i := 388) (by decide +kernel), by decide, by decide +kernel⟩, List.mem_of_getElem? (i := 386) (by decide +kernel), List.mem_of_getElem? (i := 387) (by decide +kernel)⟩
theorem vw_X6_setFault : VW yX6_setFault cX6_setFault 4 (some .int) 2 := ⟨⟨List.mem_of_getElem? (i := 5) (by decide +kernel), List.mem_of_getElem? (i := 392) (by decide +kernel), by decide, by decide +kernel⟩, List.mem_of_getElem? (i := 390) (by decide +kernel), List.mem_of_getElem? (i := 391) (by decide +kernel)⟩
theorem vw_X5_stick : VW yX5_stick cX5_stick 4 (some .int) 2 := ⟨⟨List.mem_of_getElem? (i := 2) (by decide +kernel), List.mem_of_getElem? (i := 396) (by decide +kernel), by decide, by decide +kernel⟩, List.mem_of_getElem? (i := 394) (by decide +kernel), List.mem_of_getElem? (i := 395) (by decide +kernel)⟩
theorem vw_X5_bitOf : SW yX5_bitOf cX5_bitOf 2 (some .int) 2 := ⟨⟨List.mem_of_getElem? (i := 2) (by decide +kernel), List.mem_of_getElem? (i := 399) (by decide +kernel), by decide, by decide +kernel⟩, List.mem_of_getElem? (i := 398) (by decide +kernel)⟩
theorem vw_X6_stick : VW yX6_stick cX6_stick 4 (some .int) 2 := ⟨⟨List.mem_of_getElem? (i := 5) (by decide +kernel), List.mem_of_getElem? (i := 403) (by decide +kernel), by decide, by decide +kernel⟩, List.mem_of_getElem? (i := 401) (by decide +kernel), List.mem_of_getElem? (i := 402) (by decide +kernel)⟩
theorem vw_X5_step : VW yX5_step cX5_step 3 (some .int) 0 := ⟨⟨List.mem_of_getElem? (i := 2) (by decide +kernel), List.mem_of_getElem? (i := 407) (by decide +kernel), by decide, by decide +kernel⟩, List.mem_of_getElem? (i := 405) (by decide +kernel), List.mem_of_getElem? (i := 406) (by decide +kernel)⟩
theorem vw_X0_nextSlot : VW yX0_nextSlot cX0_nextSlot 8 (some .int) 1 := ⟨⟨List.mem_of_getElem? (i := 14) (by decide +kernel), List.mem_of_getElem? (i := 411) (by decide +kernel), by decide, by decide +kernel⟩, List.mem_of_getElem? (i := 409) (by decide +kernel), List.mem_of_getElem? (i := 410) (by decide +kernel)⟩
theorem vw_X0_kindOf : VW yX0_kindOf cX0_kindOf 2 (some .int) 1 := ⟨⟨List.mem_of_getElem? (i := 14) (by decide +kernel), List.mem_of_getElem? (i := 415) (by decide +kernel), by decide, by decide +kernel⟩, List.mem_of_getElem? (i := 413) (by decide +kernel), List.mem_of_getElem? (i := 414) (by decide +kernel)⟩
theorem vw_X0_isBounceEnd : SW yX0_isBounceEnd cX0_isBounceEnd 1 (some .boolean) 1 := ⟨⟨List.mem_of_getElem? (i := 14) (by decide +kernel), List.mem_of_getElem? (i := 418) (by decide +kernel), by decide, by decide +kernel⟩, List.mem_of_getElem? (i := 417) (by decide +kernel)⟩
theorem vw_X0_relayOf : SW yX0_relayOf cX0_relayOf 1 (some .int) 1 := ⟨⟨List.mem_of_getElem? (i := 14) (by decide +kernel), List.mem_of_getElem? (i := 421) (by decide +kernel), by decide, by decide +kernel⟩, List.mem_of_getElem? (i := 420) (by decide +kernel)⟩
theorem vw_X0_happen : VW yX0_happen cX0_happen 3 none 1 := ⟨⟨List.mem_of_getElem? (i := 14) (by decide +kernel), List.mem_of_getElem? (i := 425) (by decide +kernel), by decide, by decide +kernel⟩, List.mem_of_getElem? (i := 423) (by decide +kernel), List.mem_of_getElem? (i := 424) (by decide +kernel)⟩
theorem vw_X0_moveArmature : VW yX0_moveArmature cX0_moveArmature 3 none 1 := ⟨⟨List.mem_of_getElem? (i := 14) (by decide +kernel), List.mem_of_getElem? (i := 429) (by decide +kernel), by decide, by decide +kernel⟩, List.mem_of_getElem? (i := 427) (by decide +kernel), List.mem_of_getElem? (i := 428) (by decide +kernel)⟩
theorem vw_X6_step : VW yX6_step cX6_step 2 (some .int) 0 := ⟨⟨List.mem_of_getElem? (i := 5) (by decide +kernel), List.mem_of_getElem? (i := 434) (by decide +kernel), by decide, by decide +kernel⟩, List.mem_of_getElem? (i := 432) (by decide +kernel), List.mem_of_getElem? (i := 433) (by decide +kernel)⟩
theorem vw_X6_next : VW yX6_next cX6_next 4 (some .int) 1 := ⟨⟨List.mem_of_getElem? (i := 5) (by decide +kernel), List.mem_of_getElem? (i := 438) (by decide +kernel), by decide, by decide +kernel⟩, List.mem_of_getElem? (i := 436) (by decide +kernel), List.mem_of_getElem? (i := 437) (by decide +kernel)⟩
theorem vw_X6_waits : VW yX6_waits cX6_waits 3 (some .boolean) 1 := ⟨⟨List.mem_of_getElem? (i := 5) (by decide +kernel), List.mem_of_getElem? (i := 442) (by decide +kernel), by decide, by decide +kernel⟩, List.mem_of_getElem? (i := 440) (by decide +kernel), List.mem_of_getElem? (i := 441) (by decide +kernel)⟩
theorem vw_X6_isAhead : VW yX6_isAhead cX6_isAhead 4 (some .boolean) 3 := ⟨⟨List.mem_of_getElem? (i := 5) (by decide +kernel), List.mem_of_getElem? (i := 446) (by decide +kernel), by decide, by decide +kernel⟩, List.mem_of_getElem? (i := 444) (by decide +kernel), List.mem_of_getElem? (i := 445) (by decide +kernel)⟩
theorem vw_X6_timeOf : VW yX6_timeOf cX6_timeOf 2 (some .int) 1 := ⟨⟨List.mem_of_getElem? (i := 5) (by decide +kernel), List.mem_of_getElem? (i := 450) (by decide +kernel), by decide, by decide +kernel⟩, List.mem_of_getElem? (i := 448) (by decide +kernel), List.mem_of_getElem? (i := 449) (by decide +kernel)⟩
theorem vw_X6_happens : VW yX6_happens cX6_happens 4 none 1 := ⟨⟨List.mem_of_getElem? (i := 5) (by decide +kernel), List.mem_of_getElem? (i := 454) (by decide +kernel), by decide, by decide +kernel⟩, List.mem_of_getElem? (i := 452) (by decide +kernel), List.mem_of_getElem? (i := 453) (by decide +kernel)⟩
theorem vw_X5_settle : VW yX5_settle cX5_settle 2 (some .int) 1 := ⟨⟨List.mem_of_getElem? (i := 2) (by decide +kernel), List.mem_of_getElem? (i := 458) (by decide +kernel), by decide, by decide +kernel⟩, List.mem_of_getElem? (i := 456) (by decide +kernel), List.mem_of_getElem? (i := 457) (by decide +kernel)⟩
theorem vw_X0_run : VW yX0_run cX0_run 6 (some .int) 3 := ⟨⟨List.mem_of_getElem? (i := 14) (by decide +kernel), List.mem_of_getElem? (i := 463) (by decide +kernel), by decide, by decide +kernel⟩, List.mem_of_getElem? (i := 461) (by decide +kernel), List.mem_of_getElem? (i := 462) (by decide +kernel)⟩
theorem vw_X6_settle : VW yX6_settle cX6_settle 2 (some .int) 1 := ⟨⟨List.mem_of_getElem? (i := 5) (by decide +kernel), List.mem_of_getElem? (i := 469) (by decide +kernel), by decide, by decide +kernel⟩, List.mem_of_getElem? (i := 467) (by decide +kernel), List.mem_of_getElem? (i := 468) (by decide +kernel)⟩
theorem vw_X6_settles : VW yX6_settles cX6_settles 5 (some .int) 2 := ⟨⟨List.mem_of_getElem? (i := 5) (by decide +kernel), List.mem_of_getElem? (i := 473) (by decide +kernel), by decide, by decide +kernel⟩, List.mem_of_getElem? (i := 471) (by decide +kernel), List.mem_of_getElem? (i := 472) (by decide +kernel)⟩
theorem vw_X5_pass : VW yX5_pass cX5_pass 4 (some .int) 1 := ⟨⟨List.mem_of_getElem? (i := 2) (by decide +kernel), List.mem_of_getElem? (i := 477) (by decide +kernel), by decide, by decide +kernel⟩, List.mem_of_getElem? (i := 475) (by decide +kernel), List.mem_of_getElem? (i := 476) (by decide +kernel)⟩
theorem vw_X6_pass : VW yX6_pass cX6_pass 5 (some .int) 1 := ⟨⟨List.mem_of_getElem? (i := 5) (by decide +kernel), List.mem_of_getElem? (i := 483) (by decide +kernel), by decide, by decide +kernel⟩, List.mem_of_getElem? (i := 481) (by decide +kernel), List.mem_of_getElem? (i := 482) (by decide +kernel)⟩
theorem vw_X5_count : VW yX5_count cX5_count 2 (some .int) 1 := ⟨⟨List.mem_of_getElem? (i := 2) (by decide +kernel), List.mem_of_getElem? (i := 488) (by decide +kernel), by decide, by decide +kernel⟩, List.mem_of_getElem? (i := 486) (by decide +kernel), List.mem_of_getElem? (i := 487) (by decide +kernel)⟩
theorem vw_X0_waiting : VW yX0_waiting cX0_waiting 3 (some .int) 0 := ⟨⟨List.mem_of_getElem? (i := 14) (by decide +kernel), List.mem_of_getElem? (i := 492) (by decide +kernel), by decide, by decide +kernel⟩, List.mem_of_getElem? (i := 490) (by decide +kernel), List.mem_of_getElem? (i := 491) (by decide +kernel)⟩
theorem vw_X6_count : VW yX6_count cX6_count 4 (some .int) 1 := ⟨⟨List.mem_of_getElem? (i := 5) (by decide +kernel), List.mem_of_getElem? (i := 497) (by decide +kernel), by decide, by decide +kernel⟩, List.mem_of_getElem? (i := 495) (by decide +kernel), List.mem_of_getElem? (i := 496) (by decide +kernel)⟩
theorem vw_X6_set : VW yX6_set cX6_set 4 (some .int) 1 := ⟨⟨List.mem_of_getElem? (i := 5) (by decide +kernel), List.mem_of_getElem? (i := 501) (by decide +kernel), by decide, by decide +kernel⟩, List.mem_of_getElem? (i := 499) (by decide +kernel), List.mem_of_getElem? (i := 500) (by decide +kernel)⟩
theorem vw_X5_relay : VW yX5_relay cX5_relay 3 (some .int) 2 := ⟨⟨List.mem_of_getElem? (i := 2) (by decide +kernel), List.mem_of_getElem? (i := 505) (by decide +kernel), by decide, by decide +kernel⟩, List.mem_of_getElem? (i := 503) (by decide +kernel), List.mem_of_getElem? (i := 504) (by decide +kernel)⟩
theorem vw_X0_concerns : VW yX0_concerns cX0_concerns 5 (some .boolean) 2 := ⟨⟨List.mem_of_getElem? (i := 14) (by decide +kernel), List.mem_of_getElem? (i := 510) (by decide +kernel), by decide, by decide +kernel⟩, List.mem_of_getElem? (i := 508) (by decide +kernel), List.mem_of_getElem? (i := 509) (by decide +kernel)⟩
theorem vw_X6_relay : VW yX6_relay cX6_relay 3 (some .int) 2 := ⟨⟨List.mem_of_getElem? (i := 5) (by decide +kernel), List.mem_of_getElem? (i := 516) (by decide +kernel), by decide, by decide +kernel⟩, List.mem_of_getElem? (i := 514) (by decide +kernel), List.mem_of_getElem? (i := 515) (by decide +kernel)⟩
theorem vw_X6_ofItself : VW yX6_ofItself cX6_ofItself 4 (some .int) 1 := ⟨⟨List.mem_of_getElem? (i := 5) (by decide +kernel), List.mem_of_getElem? (i := 520) (by decide +kernel), by decide, by decide +kernel⟩, List.mem_of_getElem? (i := 518) (by decide +kernel), List.mem_of_getElem? (i := 519) (by decide +kernel)⟩
theorem vw_X5_condition : VW yX5_condition cX5_condition 4 (some .int) 3 := ⟨⟨List.mem_of_getElem? (i := 2) (by decide +kernel), List.mem_of_getElem? (i := 524) (by decide +kernel), by decide, by decide +kernel⟩, List.mem_of_getElem? (i := 522) (by decide +kernel), List.mem_of_getElem? (i := 523) (by decide +kernel)⟩
theorem vw_X6_condition : VW yX6_condition cX6_condition 4 (some .int) 3 := ⟨⟨List.mem_of_getElem? (i := 5) (by decide +kernel), List.mem_of_getElem? (i := 530) (by decide +kernel), by decide, by decide +kernel⟩, List.mem_of_getElem? (i := 528) (by decide +kernel), List.mem_of_getElem? (i := 529) (by decide +kernel)⟩
theorem vw_X5_event : VW yX5_event cX5_event 4 (some .int) 2 := ⟨⟨List.mem_of_getElem? (i := 2) (by decide +kernel), List.mem_of_getElem? (i := 534) (by decide +kernel), by decide, by decide +kernel⟩, List.mem_of_getElem? (i := 532) (by decide +kernel), List.mem_of_getElem? (i := 533) (by decide +kernel)⟩
theorem vw_X0_slotAt : VW yX0_slotAt cX0_slotAt 3 (some .int) 1 := ⟨⟨List.mem_of_getElem? (i := 14) (by decide +kernel), List.mem_of_getElem? (i := 538) (by decide +kernel), by decide, by decide +kernel⟩, List.mem_of_getElem? (i := 536) (by decide +kernel), List.mem_of_getElem? (i := 537) (by decide +kernel)⟩
theorem vw_X0_eventsBefore : VW yX0_eventsBefore cX0_eventsBefore 5 (some .int) 1 := ⟨⟨List.mem_of_getElem? (i := 14) (by decide +kernel), List.mem_of_getElem? (i := 542) (by decide +kernel), by decide, by decide +kernel⟩, List.mem_of_getElem? (i := 540) (by decide +kernel), List.mem_of_getElem? (i := 541) (by decide +kernel)⟩
theorem vw_X6_event : VW yX6_event cX6_event 6 (some .int) 2 := ⟨⟨List.mem_of_getElem? (i := 5) (by decide +kernel), List.mem_of_getElem? (i := 546) (by decide +kernel), by decide, by decide +kernel⟩, List.mem_of_getElem? (i := 544) (by decide +kernel), List.mem_of_getElem? (i := 545) (by decide +kernel)⟩
theorem vw_X5_outcome : VW yX5_outcome cX5_outcome 3 (some .int) 2 := ⟨⟨List.mem_of_getElem? (i := 2) (by decide +kernel), List.mem_of_getElem? (i := 550) (by decide +kernel), by decide, by decide +kernel⟩, List.mem_of_getElem? (i := 548) (by decide +kernel), List.mem_of_getElem? (i := 549) (by decide +kernel)⟩
theorem vw_X5_endingOf : VW yX5_endingOf cX5_endingOf 4 (some .int) 3 := ⟨⟨List.mem_of_getElem? (i := 2) (by decide +kernel), List.mem_of_getElem? (i := 554) (by decide +kernel), by decide, by decide +kernel⟩, List.mem_of_getElem? (i := 552) (by decide +kernel), List.mem_of_getElem? (i := 553) (by decide +kernel)⟩
theorem vw_X0_isQuiet : VW yX0_isQuiet cX0_isQuiet 1 (some .boolean) 0 := ⟨⟨List.mem_of_getElem? (i := 14) (by decide +kernel), List.mem_of_getElem? (i := 558) (by decide +kernel), by decide, by decide +kernel⟩, List.mem_of_getElem? (i := 556) (by decide +kernel), List.mem_of_getElem? (i := 557) (by decide +kernel)⟩
theorem vw_X6_outcome : VW yX6_outcome cX6_outcome 4 (some .int) 2 := ⟨⟨List.mem_of_getElem? (i := 5) (by decide +kernel), List.mem_of_getElem? (i := 562) (by decide +kernel), by decide, by decide +kernel⟩, List.mem_of_getElem? (i := 560) (by decide +kernel), List.mem_of_getElem? (i := 561) (by decide +kernel)⟩
theorem vw_X6_ends : VW yX6_ends cX6_ends 4 (some .int) 2 := ⟨⟨List.mem_of_getElem? (i := 5) (by decide +kernel), List.mem_of_getElem? (i := 566) (by decide +kernel), by decide, by decide +kernel⟩, List.mem_of_getElem? (i := 564) (by decide +kernel), List.mem_of_getElem? (i := 565) (by decide +kernel)⟩
theorem vw_X6_restores : VW yX6_restores cX6_restores 2 none 0 := ⟨⟨List.mem_of_getElem? (i := 5) (by decide +kernel), List.mem_of_getElem? (i := 570) (by decide +kernel), by decide, by decide +kernel⟩, List.mem_of_getElem? (i := 568) (by decide +kernel), List.mem_of_getElem? (i := 569) (by decide +kernel)⟩
theorem vw_X5_isRace : VW yX5_isRace cX5_isRace 1 (some .int) 0 := ⟨⟨List.mem_of_getElem? (i := 2) (by decide +kernel), List.mem_of_getElem? (i := 574) (by decide +kernel), by decide, by decide +kernel⟩, List.mem_of_getElem? (i := 572) (by decide +kernel), List.mem_of_getElem? (i := 573) (by decide +kernel)⟩
theorem vw_X5_raceIn : VW yX5_raceIn cX5_raceIn 3 (some .int) 1 := ⟨⟨List.mem_of_getElem? (i := 2) (by decide +kernel), List.mem_of_getElem? (i := 578) (by decide +kernel), by decide, by decide +kernel⟩, List.mem_of_getElem? (i := 576) (by decide +kernel), List.mem_of_getElem? (i := 577) (by decide +kernel)⟩
theorem vw_X6_isRace : VW yX6_isRace cX6_isRace 1 (some .int) 0 := ⟨⟨List.mem_of_getElem? (i := 5) (by decide +kernel), List.mem_of_getElem? (i := 582) (by decide +kernel), by decide, by decide +kernel⟩, List.mem_of_getElem? (i := 580) (by decide +kernel), List.mem_of_getElem? (i := 581) (by decide +kernel)⟩
theorem vw_X6_races : VW yX6_races cX6_races 4 (some .int) 0 := ⟨⟨List.mem_of_getElem? (i := 5) (by decide +kernel), List.mem_of_getElem? (i := 586) (by decide +kernel), by decide, by decide +kernel⟩, List.mem_of_getElem? (i := 584) (by decide +kernel), List.mem_of_getElem? (i := 585) (by decide +kernel)⟩
theorem vw_X5_raceBy : VW yX5_raceBy cX5_raceBy 2 (some .int) 1 := ⟨⟨List.mem_of_getElem? (i := 2) (by decide +kernel), List.mem_of_getElem? (i := 590) (by decide +kernel), by decide, by decide +kernel⟩, List.mem_of_getElem? (i := 588) (by decide +kernel), List.mem_of_getElem? (i := 589) (by decide +kernel)⟩
theorem vw_X6_raceBy : VW yX6_raceBy cX6_raceBy 3 (some .int) 1 := ⟨⟨List.mem_of_getElem? (i := 5) (by decide +kernel), List.mem_of_getElem? (i := 594) (by decide +kernel), by decide, by decide +kernel⟩, List.mem_of_getElem? (i := 592) (by decide +kernel), List.mem_of_getElem? (i := 593) (by decide +kernel)⟩
theorem vw_X5_hazards : VW yX5_hazards cX5_hazards 4 (some .int) 1 := ⟨⟨List.mem_of_getElem? (i := 2) (by decide +kernel), List.mem_of_getElem? (i := 598) (by decide +kernel), by decide, by decide +kernel⟩, List.mem_of_getElem? (i := 596) (by decide +kernel), List.mem_of_getElem? (i := 597) (by decide +kernel)⟩
theorem vw_X6_hazards : VW yX6_hazards cX6_hazards 6 (some .int) 1 := ⟨⟨List.mem_of_getElem? (i := 5) (by decide +kernel), List.mem_of_getElem? (i := 602) (by decide +kernel), by decide, by decide +kernel⟩, List.mem_of_getElem? (i := 600) (by decide +kernel), List.mem_of_getElem? (i := 601) (by decide +kernel)⟩
theorem vw_X5_stableStates : VW yX5_stableStates cX5_stableStates 4 (some .int) 0 := ⟨⟨List.mem_of_getElem? (i := 2) (by decide +kernel), List.mem_of_getElem? (i := 606) (by decide +kernel), by decide, by decide +kernel⟩, List.mem_of_getElem? (i := 604) (by decide +kernel), List.mem_of_getElem? (i := 605) (by decide +kernel)⟩
theorem vw_X0_isStable : VW yX0_isStable cX0_isStable 3 (some .boolean) 0 := ⟨⟨List.mem_of_getElem? (i := 14) (by decide +kernel), List.mem_of_getElem? (i := 610) (by decide +kernel), by decide, by decide +kernel⟩, List.mem_of_getElem? (i := 608) (by decide +kernel), List.mem_of_getElem? (i := 609) (by decide +kernel)⟩
theorem vw_X6_stableStates : VW yX6_stableStates cX6_stableStates 3 (some .int) 0 := ⟨⟨List.mem_of_getElem? (i := 5) (by decide +kernel), List.mem_of_getElem? (i := 614) (by decide +kernel), by decide, by decide +kernel⟩, List.mem_of_getElem? (i := 612) (by decide +kernel), List.mem_of_getElem? (i := 613) (by decide +kernel)⟩
theorem vw_X6_isStable : VW yX6_isStable cX6_isStable 6 (some .boolean) 1 := ⟨⟨List.mem_of_getElem? (i := 5) (by decide +kernel), List.mem_of_getElem? (i := 618) (by decide +kernel), by decide, by decide +kernel⟩, List.mem_of_getElem? (i := 616) (by decide +kernel), List.mem_of_getElem? (i := 617) (by decide +kernel)⟩
theorem vw_X5_explain : VW yX5_explain cX5_explain 5 (some .int) 1 := ⟨⟨List.mem_of_getElem? (i := 2) (by decide +kernel), List.mem_of_getElem? (i := 622) (by decide +kernel), by decide, by decide +kernel⟩, List.mem_of_getElem? (i := 620) (by decide +kernel), List.mem_of_getElem? (i := 621) (by decide +kernel)⟩
theorem vw_X6_explain : VW yX6_explain cX6_explain 4 (some .int) 1 := ⟨⟨List.mem_of_getElem? (i := 5) (by decide +kernel), List.mem_of_getElem? (i := 626) (by decide +kernel), by decide, by decide +kernel⟩, List.mem_of_getElem? (i := 624) (by decide +kernel), List.mem_of_getElem? (i := 625) (by decide +kernel)⟩
theorem vw_X5_undo : VW yX5_undo cX5_undo 1 (some .int) 0 := ⟨⟨List.mem_of_getElem? (i := 2) (by decide +kernel), List.mem_of_getElem? (i := 630) (by decide +kernel), by decide, by decide +kernel⟩, List.mem_of_getElem? (i := 628) (by decide +kernel), List.mem_of_getElem? (i := 629) (by decide +kernel)⟩
theorem vw_X3_restore : VW yX3_restore cX3_restore 3 (some .boolean) 1 := ⟨⟨List.mem_of_getElem? (i := 18) (by decide +kernel), List.mem_of_getElem? (i := 634) (by decide +kernel), by decide, by decide +kernel⟩, List.mem_of_getElem? (i := 632) (by decide +kernel), List.mem_of_getElem? (i := 633) (by decide +kernel)⟩
theorem vw_X6_undo : VW yX6_undo cX6_undo 2 (some .int) 0 := ⟨⟨List.mem_of_getElem? (i := 5) (by decide +kernel), List.mem_of_getElem? (i := 638) (by decide +kernel), by decide, by decide +kernel⟩, List.mem_of_getElem? (i := 636) (by decide +kernel), List.mem_of_getElem? (i := 637) (by decide +kernel)⟩
end
section
theorem zz_last : True := trivial
end
